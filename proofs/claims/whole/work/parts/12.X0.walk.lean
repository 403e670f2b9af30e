abbrev rmX0_moveTime : Room := { frames := 2, cells := 0, slots := 0, locals := 56 }
theorem wX0_moveTime_c4 : ∀ w ∈ u_ws RX4 TX4 8, w ∈ wsX0_moveTime := by decide +kernel
theorem wX0_moveTime_f52 : Cond.fieldLink RX0 52 "DueWheels$State" "time" "J" ∈ wsX0_moveTime := by decide +kernel
theorem wX0_moveTime_k32 : Cond.constantLong RX0 32 (-2000000005) ∈ wsX0_moveTime := by decide +kernel
theorem wX0_moveTime_f68 : Cond.fieldLink RX0 68 "DueWheels$State" "moves" "J" ∈ wsX0_moveTime := by decide +kernel
theorem wX0_moveTime_f59 : Cond.fieldLink RX0 59 "DueWheels$State" "dues" "[[J" ∈ wsX0_moveTime := by decide +kernel
theorem wX0_moveTime_f56 : Cond.fieldLink RX0 56 "DueWheels$State" "end" "I" ∈ wsX0_moveTime := by decide +kernel
def LX0_moveTime_18   (x2 : Int64)  (post : StV → Prop) : Nat → Int32 → StV → Prop
  | 0, _, _ => False
  | n + 1, x4, v => (((s_en v) ≤ x4 → ∀ v_4 : StV, v_4 = s_wtm v x2 → post v_4) ∧ (¬ (s_en v) ≤ x4 → (vp_in x4 200 ∧ ∀ x5_6 : Int64, x5_6 = (s_du v 2 (x4.toNatClampNeg)) → ((x5_6 = (-2000000005 : Int64) → ∀ x4_8 : Int32, x4_8 = x4 + 1 → LX0_moveTime_18  x2 post n x4_8 v) ∧ (¬ x5_6 = (-2000000005 : Int64) → (PX5_movesDown (s_tm v) x2 x5_6 (fun (r_9 : Int32) => (vp_in x4 200 ∧ (vp_in x4 200 ∧ (∀ v_12 : StV, v_12 = s_wdu v 11 (x4.toNatClampNeg) ((s_du v 11 (x4.toNatClampNeg)) + (r_9.toInt64)) → ∀ v_13 : StV, v_13 = s_wmv v_12 ((s_mv v_12) + (r_9.toInt64)) → ∀ x4_14 : Int32, x4_14 = x4 + 1 → LX0_moveTime_18  x2 post n x4_14 v_13))))))))))
set_option maxHeartbeats 4000000 in
set_option maxRecDepth 100000 in
theorem kX0_moveTime_18 {p : Program} {e : Env} {s : State} {m : MethodId} {args : Array Value} {below : List Frame} {meth : Method} {c : Code} (l : Launch) (dC : Nat → ClassId) (dI : Nat → Nat → Nat) (ad : Nat → Nat) (ci : Nat → ClassId) (A : Nat → Prop) (ns : Nat) (hAD : xw_D (xn ns) ad A) (st : Nat → StV) (ln : Nat → LnV) (w : LnV) (sv : SvV) (kv : KvV) (cu : Nat) (j : Nat) (hj : j < ns) (x2 : Int64)  (post : StV → Prop) (C0 : xC p s m args meth c cX0_moveTime 8 none RX0 wsX0_moveTime (dC, dI) (xT ci)) : ∀ (n : Nat) (x4 : Int32) (v : StV) (H : Heap) (locs : List Loc) (ls : Array Slot), LX0_moveTime_18  x2 post n x4 v → va_P (dC, dI) vwCl (xw (xn ns) ad (xc ad ci (va_up st j v) (va_up ln 0 w) sv kv cu)) H → va_S A s.heap H locs → lv_has ls 8 [(1, .ref (ad (xaS j))), (2, .long x2), (4, .int x4)] → W p l e rmX0_moveTime s m args below meth c H locs 0 0 (MQ below (va_Qv (fun u : StV => post u) (fun u t => va_P (dC, dI) vwCl (xw (xn ns) ad (xc ad ci (va_up st j u) (va_up ln 0 w) sv kv cu)) t.heap) A) args s 0 0 A) (F0 m 18 ls []) := by
  obtain ⟨hx, hb, -, hr, hlocks, hown, hts, hK⟩ := id C0
  intro n
  induction n with
  | zero =>
    intro x4 v H locs ls h
    exact False.elim h
  | succ n ih =>
    intro x4 v H locs ls h hP hS hl
    rw [LX0_moveTime_18] at h
    refine lv_iload hx hb dX0_moveTime_18 (lv_at hl 2 rfl) ?_
    refine lv_aload_n hx hb dX0_moveTime_20 rfl (lv_at hl 0 rfl) ?_
    refine xr_get (D := (dC, dI)) (C := RX4) (T := TX4) (N := 8) (v := .int (s_en v)) hx hb hts wX0_moveTime_c4 hown hK hP (xaS j) (xq_S hj) (xe_S (va_up_self _ _ _)) rfl 4 (by decide) wX0_moveTime_f56 rfl rfl dX0_moveTime_21 ?_
    refine lv_icmp_ge (tgt := 93) hx hb dX0_moveTime_24 (by decide) (fun c_3 => ?_) (fun c_3 => ?_)
    · have h := h.1 c_3
      refine lv_aload_n hx hb dX0_moveTime_93 rfl (lv_at hl 0 rfl) ?_
      refine lv_lload_n hx hb dX0_moveTime_94 rfl (lv_at hl 1 rfl) ?_
      obtain ⟨v_4, ev_4⟩ : ∃ z : StV, z = s_wtm v x2 := ⟨_, rfl⟩
      have h := h v_4 ev_4
      refine xr_put (D := (dC, dI)) (C := RX4) (T := TX4) (N := 8) (ty := .long) (v := .long x2) (g := (xc ad ci (va_up st j v_4) (va_up ln 0 w) sv kv cu)) hx hb hts wX0_moveTime_c4 tyX4 tyX4_ok nmX4 hown hK hP hAD hS (xaS j) (xq_S hj) (xe_S (va_up_self _ _ _)) rfl 0 (by decide) wX0_moveTime_f52 rfl rfl (by decide +kernel) rfl rfl (Nat.le_of_ble_eq_true rfl) dX0_moveTime_95 (xg_tm (va_up_self _ _ _) (by rw [ev_4]; exact bx_uu _ _ _ _)) (fun H locs hP hS => ?_)
      exact W.vret hx hb hr (fun t ht hW => ⟨⟨v_4, rfl, h, x_ht ht hP⟩, hS.F ht⟩) hS.2.2 dX0_moveTime_98
    · have h := h.2 c_3
      refine lv_aload_n hx hb dX0_moveTime_27 rfl (lv_at hl 0 rfl) ?_
      refine xr_get (D := (dC, dI)) (C := RX4) (T := TX4) (N := 8) (v := .ref (ad (xaD0 j))) hx hb hts wX0_moveTime_c4 hown hK hP (xaS j) (xq_S hj) (xe_S (va_up_self _ _ _)) rfl 6 (by decide) wX0_moveTime_f59 rfl rfl dX0_moveTime_28 ?_
      refine lv_iconst (v := (2 : Int32)) hx hb dX0_moveTime_31 (by decide) ?_
      refine xr_aald (k := 2) (b := ad (xaD j 2)) hx hb hK hP (xaD0 j) 4 (xq_D0 hj) xe_D0 rfl rfl rfl (x_in _ _ (by decide)) rfl dX0_moveTime_32 ?_
      refine lv_iload hx hb dX0_moveTime_33 (lv_at hl 2 rfl) ?_
      obtain ⟨g_5, h⟩ := h
      refine xr_lald (k := x4.toNatClampNeg) hx hb hK hP (xaD j 2) 1 (xq_D hj (by decide)) (xe_D (by decide) (va_up_self _ _ _)) rfl rfl g_5 dX0_moveTime_35 ?_
      refine lv_topl (fun x5_6 ex5_6 => ?_)
      have h := h x5_6 ex5_6
      refine lv_lstore (lv' := [(5, .long x5_6), (1, .ref (ad (xaS j))), (2, .long x2), (4, .int x4)]) hx hb dX0_moveTime_36 hl (by decide) rfl (fun ls hl => ?_)
      refine lv_lload hx hb dX0_moveTime_38 (lv_at hl 0 rfl) ?_
      refine lv_ldc2 (v := (-2000000005 : Int64)) hx hb hown (hts _ wX0_moveTime_k32) dX0_moveTime_40 ?_
      refine xr_if_lcmp_eq (tgt := 87) hx hb dX0_moveTime_43 dX0_moveTime_44 (by decide) (fun c_7 => ?_) (fun c_7 => ?_)
      · have h := h.1 c_7
        obtain ⟨x4_8, ex4_8⟩ : ∃ z : Int32, z = x4 + 1 := ⟨_, rfl⟩
        have h := h x4_8 ex4_8
        refine lv_iinc (v := x4_8) (lv' := [(4, .int x4_8), (5, .long x5_6), (1, .ref (ad (xaS j))), (2, .long x2)]) hx hb dX0_moveTime_87 hl (k := 3) rfl (by rw [ex4_8]; rfl) (by decide) rfl (fun ls hl => ?_)
        refine lv_goto (tgt := 18) hx hb dX0_moveTime_90 (by decide) ?_
        exact ih x4_8 v _ _ _ h hP hS (lv_sub hl [2, 3, 0] rfl)
      · have h := h.2 c_7
        refine lv_aload_n hx hb dX0_moveTime_47 rfl (lv_at hl 1 rfl) ?_
        refine xr_get (D := (dC, dI)) (C := RX4) (T := TX4) (N := 8) (v := .long (s_tm v)) hx hb hts wX0_moveTime_c4 hown hK hP (xaS j) (xq_S hj) (xe_S (va_up_self _ _ _)) rfl 0 (by decide) wX0_moveTime_f52 rfl rfl dX0_moveTime_48 ?_
        refine lv_lload_n hx hb dX0_moveTime_51 rfl (lv_at hl 2 rfl) ?_
        refine lv_lload hx hb dX0_moveTime_52 (lv_at hl 0 rfl) ?_
        refine va_calli (va_runS (As := [.long (s_tm v), .long x2, .long x5_6]) (rest := []) ⟨hx, hb, C0.2.2.1, hown, hts⟩ (qX5_movesDown l dC dI (xn ns) ad (xc ad ci (va_up st j v) (va_up ln 0 w) sv kv cu) (xT ci) A (s_tm v) x2 x5_6 _ h) (va_cwS 3 hts gX0_moveTime_X5_movesDown rfl rfl rfl (by decide +kernel) ⟨Nat.le_of_ble_eq_true rfl, Nat.le_of_ble_eq_true rfl⟩) ⟨xr_blind, xr_pre hP hK⟩ rfl rfl hl.1 rfl (lv_room (Nat.le_of_ble_eq_true rfl)) dX0_moveTime_54 ⟨Nat.le_of_ble_eq_true rfl, Nat.le_of_ble_eq_true rfl⟩) hS (fun _ _ h => h) (fun _ h => h) (fun r_9 _ t9 H locs ht hvm h hB _ _ hS => ?_)
        refine W.cs (cells' := 0) (slots' := 0) rfl rfl ?_
        have hP := x_th ht hB
        have hP : va_P (dC, dI) vwCl (xw (xn ns) ad (xc ad ci (va_up st j v) (va_up ln 0 w) sv kv cu)) H := hP
        refine lv_istore (lv' := [(7, .int r_9), (5, .long x5_6), (1, .ref (ad (xaS j))), (2, .long x2), (4, .int x4)]) hx hb dX0_moveTime_57 hl (by decide) rfl (fun ls hl => ?_)
        refine lv_aload_n hx hb dX0_moveTime_59 rfl (lv_at hl 2 rfl) ?_
        refine xr_get (D := (dC, dI)) (C := RX4) (T := TX4) (N := 8) (v := .ref (ad (xaD0 j))) hx hb hts wX0_moveTime_c4 hown hK hP (xaS j) (xq_S hj) (xe_S (va_up_self _ _ _)) rfl 6 (by decide) wX0_moveTime_f59 rfl rfl dX0_moveTime_60 ?_
        refine lv_bipush (v := (11 : Int32)) hx hb dX0_moveTime_63 (by decide) ?_
        refine xr_aald (k := 11) (b := ad (xaD j 11)) hx hb hK hP (xaD0 j) 4 (xq_D0 hj) xe_D0 rfl rfl rfl (x_in _ _ (by decide)) rfl dX0_moveTime_65 ?_
        refine lv_iload hx hb dX0_moveTime_66 (lv_at hl 4 rfl) ?_
        refine lv_dup2_11 hx hb dX0_moveTime_68 rfl rfl ?_
        obtain ⟨g_10, h⟩ := h
        refine xr_lald (k := x4.toNatClampNeg) hx hb hK hP (xaD j 11) 1 (xq_D hj (by decide)) (xe_D (by decide) (va_up_self _ _ _)) rfl rfl g_10 dX0_moveTime_69 ?_
        refine lv_iload hx hb dX0_moveTime_70 (lv_at hl 0 rfl) ?_
        refine lv_i2l hx hb dX0_moveTime_72 rfl ?_
        refine lv_ladd hx hb dX0_moveTime_73 ?_
        obtain ⟨g_11, h⟩ := h
        obtain ⟨v_12, ev_12⟩ : ∃ z : StV, z = s_wdu v 11 (x4.toNatClampNeg) ((s_du v 11 (x4.toNatClampNeg)) + (r_9.toInt64)) := ⟨_, rfl⟩
        have h := h v_12 ev_12
        refine xr_last (k := x4.toNatClampNeg) (x := ((s_du v 11 (x4.toNatClampNeg)) + (r_9.toInt64))) (g := (xc ad ci (va_up st j v_12) (va_up ln 0 w) sv kv cu)) hx hb hK hP hAD hS (xaD j 11) 1 (xq_D hj (by decide)) (xe_D (by decide) (va_up_self _ _ _)) rfl rfl g_11 dX0_moveTime_74 (xg_du (by decide) (va_up_self _ _ _) (by rw [ev_12]; exact bx_uu _ _ _ _)) (fun H locs hP hS => ?_)
        refine lv_aload_n hx hb dX0_moveTime_75 rfl (lv_at hl 2 rfl) ?_
        refine lv_dup hx hb dX0_moveTime_76 rfl ?_
        refine xr_get (D := (dC, dI)) (C := RX4) (T := TX4) (N := 8) (v := .long (s_mv v_12)) hx hb hts wX0_moveTime_c4 hown hK hP (xaS j) (xq_S hj) (xe_S (va_up_self _ _ _)) rfl 3 (by decide) wX0_moveTime_f68 rfl rfl dX0_moveTime_77 ?_
        refine lv_iload hx hb dX0_moveTime_80 (lv_at hl 0 rfl) ?_
        refine lv_i2l hx hb dX0_moveTime_82 rfl ?_
        refine lv_ladd hx hb dX0_moveTime_83 ?_
        obtain ⟨v_13, ev_13⟩ : ∃ z : StV, z = s_wmv v_12 ((s_mv v_12) + (r_9.toInt64)) := ⟨_, rfl⟩
        have h := h v_13 ev_13
        refine xr_put (D := (dC, dI)) (C := RX4) (T := TX4) (N := 8) (ty := .long) (v := .long ((s_mv v_12) + (r_9.toInt64))) (g := (xc ad ci (va_up st j v_13) (va_up ln 0 w) sv kv cu)) hx hb hts wX0_moveTime_c4 tyX4 tyX4_ok nmX4 hown hK hP hAD hS (xaS j) (xq_S hj) (xe_S (va_up_self _ _ _)) rfl 3 (by decide) wX0_moveTime_f68 rfl rfl (by decide +kernel) rfl rfl (Nat.le_of_ble_eq_true rfl) dX0_moveTime_84 (xg_mv (va_up_self _ _ _) (by rw [ev_13]; exact bx_uu _ _ _ _)) (fun H locs hP hS => ?_)
        obtain ⟨x4_14, ex4_14⟩ : ∃ z : Int32, z = x4 + 1 := ⟨_, rfl⟩
        have h := h x4_14 ex4_14
        refine lv_iinc (v := x4_14) (lv' := [(4, .int x4_14), (7, .int r_9), (5, .long x5_6), (1, .ref (ad (xaS j))), (2, .long x2)]) hx hb dX0_moveTime_87 hl (k := 4) rfl (by rw [ex4_14]; rfl) (by decide) rfl (fun ls hl => ?_)
        refine lv_goto (tgt := 18) hx hb dX0_moveTime_90 (by decide) ?_
        exact ih x4_14 v_13 _ _ _ h hP hS (lv_sub hl [3, 4, 0] rfl)
def PX0_moveTime  (v : StV) (x2 : Int64) (post : StV → Prop) : Prop :=
  ((((s_tm v) >>> ((6 : Int32).toInt64 &&& 63)) = (x2 >>> ((6 : Int32).toInt64 &&& 63)) → ∀ v_2 : StV, v_2 = s_wtm v x2 → post v_2) ∧ (¬ ((s_tm v) >>> ((6 : Int32).toInt64 &&& 63)) = (x2 >>> ((6 : Int32).toInt64 &&& 63)) → (∃ n_15 : Nat, LX0_moveTime_18  x2  post n_15 (0 : Int32) v)))
set_option maxHeartbeats 4000000 in
set_option maxRecDepth 100000 in
theorem qX0_moveTime (l : Launch) (dC : Nat → ClassId) (dI : Nat → Nat → Nat) (ad : Nat → Nat) (ci : Nat → ClassId) (A : Nat → Prop) (ns : Nat) (hAD : xw_D (xn ns) ad A) (st : Nat → StV) (v : StV) (ln : Nat → LnV) (w : LnV) (sv : SvV) (kv : KvV) (cu : Nat) (j : Nat) (hj : j < ns) (x2 : Int64) (post : StV → Prop) (h : PX0_moveTime v x2 post) : Met l yX0_moveTime wsX0_moveTime rmX0_moveTime (va_Pc [.ref (ad 3), .ref (ad (xaS j)), .long x2] (fun U => va_P (dC, dI) vwCl (xw (xn ns) ad (xc ad ci (va_up st j v) (va_up ln 0 w) sv kv cu)) U.heap ∧ va_K (dC, dI) vwCl (xT ci) U)) (va_Qv (fun u : StV => post u) (fun u t => va_P (dC, dI) vwCl (xw (xn ns) ad (xc ad ci (va_up st j u) (va_up ln 0 w) sv kv cu)) t.heap) A) 0 0 A := by
  refine Met.ofW (cc := cX0_moveTime) (maxL := 8) (ret := none) (by decide) rfl ?_
  intro p e s m args below meth c s₁ B hml hv
  obtain ⟨eargs, hP, hK⟩ := hv
  have C0 : xC p s m args meth c cX0_moveTime 8 none RX0 wsX0_moveTime (dC, dI) (xT ci) := ⟨B.exec, B.bytes, hml, B.returns, B.notSynchronized, findClass_of_methodNamed B.named, atoms_spec (ws := wsX0_moveTime) B.pre, hK⟩
  obtain ⟨hx, hb, -, hr, hlocks, hown, hts, -⟩ := id C0
  have hS : va_S A s.heap s.heap [] := va_S.rf
  have hl := lv_entry ([.ref (ad 3), .ref (ad (xaS j)), .long x2]) (n := 8) (Nat.le_of_ble_eq_true rfl)
  have ef : entryFrame m args 8 = entryFrame m ([.ref (ad 3), .ref (ad (xaS j)), .long x2] : List Value).toArray 8 := by rw [eargs]
  rw [ef, lg_entry_eq]
  generalize (lg_sl ([.ref (ad 3), .ref (ad (xaS j)), .long x2]) ++ List.replicate (8 - (lg_sl ([.ref (ad 3), .ref (ad (xaS j)), .long x2])).length) Slot.unset).toArray = ls at hl ⊢
  have hl : lv_has ls 8 [(0, .ref (ad 3)), (1, .ref (ad (xaS j))), (2, .long x2)] := hl
  have hP : va_P (dC, dI) vwCl (xw (xn ns) ad (xc ad ci (va_up st j v) (va_up ln 0 w) sv kv cu)) s.heap := hP
  unfold PX0_moveTime at h
  refine lv_aload_n hx hb dX0_moveTime_0 rfl (lv_at hl 1 rfl) ?_
  refine xr_get (D := (dC, dI)) (C := RX4) (T := TX4) (N := 8) (v := .long (s_tm v)) hx hb hts wX0_moveTime_c4 hown hK hP (xaS j) (xq_S hj) (xe_S (va_up_self _ _ _)) rfl 0 (by decide) wX0_moveTime_f52 rfl rfl dX0_moveTime_1 ?_
  refine lv_bipush (v := (6 : Int32)) hx hb dX0_moveTime_4 (by decide) ?_
  refine lv_lshr hx hb dX0_moveTime_6 rfl ?_
  refine lv_lload_n hx hb dX0_moveTime_7 rfl (lv_at hl 2 rfl) ?_
  refine lv_bipush (v := (6 : Int32)) hx hb dX0_moveTime_8 (by decide) ?_
  refine lv_lshr hx hb dX0_moveTime_10 rfl ?_
  refine xr_if_lcmp_eq (tgt := 93) hx hb dX0_moveTime_11 dX0_moveTime_12 (by decide) (fun c_1 => ?_) (fun c_1 => ?_)
  · have h := h.1 c_1
    refine lv_aload_n hx hb dX0_moveTime_93 rfl (lv_at hl 1 rfl) ?_
    refine lv_lload_n hx hb dX0_moveTime_94 rfl (lv_at hl 2 rfl) ?_
    obtain ⟨v_2, ev_2⟩ : ∃ z : StV, z = s_wtm v x2 := ⟨_, rfl⟩
    have h := h v_2 ev_2
    refine xr_put (D := (dC, dI)) (C := RX4) (T := TX4) (N := 8) (ty := .long) (v := .long x2) (g := (xc ad ci (va_up st j v_2) (va_up ln 0 w) sv kv cu)) hx hb hts wX0_moveTime_c4 tyX4 tyX4_ok nmX4 hown hK hP hAD hS (xaS j) (xq_S hj) (xe_S (va_up_self _ _ _)) rfl 0 (by decide) wX0_moveTime_f52 rfl rfl (by decide +kernel) rfl rfl (Nat.le_of_ble_eq_true rfl) dX0_moveTime_95 (xg_tm (va_up_self _ _ _) (by rw [ev_2]; exact bx_uu _ _ _ _)) (fun H locs hP hS => ?_)
    exact W.vret hx hb hr (fun t ht hW => ⟨⟨v_2, rfl, h, x_ht ht hP⟩, hS.F ht⟩) hS.2.2 dX0_moveTime_98
  · have h := h.2 c_1
    refine lv_iconst (v := (0 : Int32)) hx hb dX0_moveTime_15 (by decide) ?_
    refine lv_istore (lv' := [(4, .int (0 : Int32)), (0, .ref (ad 3)), (1, .ref (ad (xaS j))), (2, .long x2)]) hx hb dX0_moveTime_16 hl (by decide) rfl (fun ls hl => ?_)
    obtain ⟨n_15, h⟩ := h
    exact kX0_moveTime_18 l dC dI ad ci A ns hAD st ln w sv kv cu j hj  x2  post C0  n_15 (0 : Int32) v _ _ _ h hP hS (lv_sub hl [2, 3, 0] rfl)
abbrev rmX0_isFast : Room := { frames := 0, cells := 0, slots := 0, locals := 0 }
theorem wX0_isFast_k86 : Cond.constantLong RX0 86 (2) ∈ wsX0_isFast := by decide +kernel
theorem wX0_isFast_c4 : ∀ w ∈ u_ws RX4 TX4 8, w ∈ wsX0_isFast := by decide +kernel
theorem wX0_isFast_f59 : Cond.fieldLink RX0 59 "DueWheels$State" "dues" "[[J" ∈ wsX0_isFast := by decide +kernel
theorem wX0_isFast_f56 : Cond.fieldLink RX0 56 "DueWheels$State" "end" "I" ∈ wsX0_isFast := by decide +kernel
def LX0_isFast_3  (v : StV) (x2 : Int64)  (post : Int32 → Prop) : Nat → Int32 → Prop
  | 0, _ => False
  | n + 1, x4 => (((s_en v) ≤ x4 → post (0 : Int32)) ∧ (¬ (s_en v) ≤ x4 → (vp_in x4 200 ∧ (((s_du v 2 (x4.toNatClampNeg)) = x2 → (vp_in x4 200 ∧ (((s_du v 0 (x4.toNatClampNeg)) = (2 : Int64) → ∀ x4_7 : Int32, x4_7 = x4 + 1 → LX0_isFast_3  v x2 post n x4_7) ∧ (¬ (s_du v 0 (x4.toNatClampNeg)) = (2 : Int64) → post (1 : Int32))))) ∧ (¬ (s_du v 2 (x4.toNatClampNeg)) = x2 → ∀ x4_4 : Int32, x4_4 = x4 + 1 → LX0_isFast_3  v x2 post n x4_4)))))
set_option maxHeartbeats 4000000 in
set_option maxRecDepth 100000 in
theorem kX0_isFast_3 {p : Program} {e : Env} {s : State} {m : MethodId} {args : Array Value} {below : List Frame} {meth : Method} {c : Code} (l : Launch) (dC : Nat → ClassId) (dI : Nat → Nat → Nat) (ad : Nat → Nat) (ci : Nat → ClassId) (A : Nat → Prop) (ns : Nat) (hAD : xw_D (xn ns) ad A) (st : Nat → StV) (v : StV) (ln : Nat → LnV) (w : LnV) (sv : SvV) (kv : KvV) (cu : Nat) (j : Nat) (hj : j < ns) (x2 : Int64)  (post : Int32 → Prop) (C0 : xC p s m args meth c cX0_isFast 5 (some .boolean) RX0 wsX0_isFast (dC, dI) (xT ci)) : ∀ (n : Nat) (x4 : Int32) (H : Heap) (locs : List Loc) (ls : Array Slot), LX0_isFast_3  v x2 post n x4 → va_P (dC, dI) vwCl (xw (xn ns) ad (xc ad ci (va_up st j v) (va_up ln 0 w) sv kv cu)) H → va_S A s.heap H locs → lv_has ls 5 [(1, .ref (ad (xaS j))), (2, .long x2), (4, .int x4)] → W p l e rmX0_isFast s m args below meth c H locs 0 0 (MQ below (va_Qi (fun r9 (u : Unit) => post r9 ) (fun u t => va_P (dC, dI) vwCl (xw (xn ns) ad (xc ad ci (va_up st j v) (va_up ln 0 w) sv kv cu)) t.heap) A) args s 0 0 A) (F0 m 3 ls []) := by
  obtain ⟨hx, hb, -, hr, hlocks, hown, hts, hK⟩ := id C0
  intro n
  induction n with
  | zero =>
    intro x4 H locs ls h
    exact False.elim h
  | succ n ih =>
    intro x4 H locs ls h hP hS hl
    rw [LX0_isFast_3] at h
    refine lv_iload hx hb dX0_isFast_3 (lv_at hl 2 rfl) ?_
    refine lv_aload_n hx hb dX0_isFast_5 rfl (lv_at hl 0 rfl) ?_
    refine xr_get (D := (dC, dI)) (C := RX4) (T := TX4) (N := 8) (v := .int (s_en v)) hx hb hts wX0_isFast_c4 hown hK hP (xaS j) (xq_S hj) (xe_S (va_up_self _ _ _)) rfl 4 (by decide) wX0_isFast_f56 rfl rfl dX0_isFast_6 ?_
    refine lv_icmp_ge (tgt := 50) hx hb dX0_isFast_9 (by decide) (fun c_1 => ?_) (fun c_1 => ?_)
    · have h := h.1 c_1
      refine lv_iconst (v := (0 : Int32)) hx hb dX0_isFast_50 (by decide) ?_
      exact W.zret (v := (0 : Int32)) (ty := .boolean) hx hb hr (by decide) (fun t ht hW => ⟨⟨(0 : Int32), (), rfl, h, x_ht ht hP⟩, hS.F ht⟩) hS.2.2 dX0_isFast_51
    · have h := h.2 c_1
      refine lv_aload_n hx hb dX0_isFast_12 rfl (lv_at hl 0 rfl) ?_
      refine xr_get (D := (dC, dI)) (C := RX4) (T := TX4) (N := 8) (v := .ref (ad (xaD0 j))) hx hb hts wX0_isFast_c4 hown hK hP (xaS j) (xq_S hj) (xe_S (va_up_self _ _ _)) rfl 6 (by decide) wX0_isFast_f59 rfl rfl dX0_isFast_13 ?_
      refine lv_iconst (v := (2 : Int32)) hx hb dX0_isFast_16 (by decide) ?_
      refine xr_aald (k := 2) (b := ad (xaD j 2)) hx hb hK hP (xaD0 j) 4 (xq_D0 hj) xe_D0 rfl rfl rfl (x_in _ _ (by decide)) rfl dX0_isFast_17 ?_
      refine lv_iload hx hb dX0_isFast_18 (lv_at hl 2 rfl) ?_
      obtain ⟨g_2, h⟩ := h
      refine xr_lald (k := x4.toNatClampNeg) hx hb hK hP (xaD j 2) 1 (xq_D hj (by decide)) (xe_D (by decide) (va_up_self _ _ _)) rfl rfl g_2 dX0_isFast_20 ?_
      refine lv_lload_n hx hb dX0_isFast_21 rfl (lv_at hl 1 rfl) ?_
      refine xr_if_lcmp_ne (tgt := 44) hx hb dX0_isFast_22 dX0_isFast_23 (by decide) (fun c_3 => ?_) (fun c_3 => ?_)
      · have h := h.2 c_3
        obtain ⟨x4_4, ex4_4⟩ : ∃ z : Int32, z = x4 + 1 := ⟨_, rfl⟩
        have h := h x4_4 ex4_4
        refine lv_iinc (v := x4_4) (lv' := [(4, .int x4_4), (1, .ref (ad (xaS j))), (2, .long x2)]) hx hb dX0_isFast_44 hl (k := 2) rfl (by rw [ex4_4]; rfl) (by decide) rfl (fun ls hl => ?_)
        refine lv_goto (tgt := 3) hx hb dX0_isFast_47 (by decide) ?_
        exact ih x4_4 _ _ _ h hP hS (lv_sub hl [1, 2, 0] rfl)
      · have h := h.1 c_3
        refine lv_aload_n hx hb dX0_isFast_26 rfl (lv_at hl 0 rfl) ?_
        refine xr_get (D := (dC, dI)) (C := RX4) (T := TX4) (N := 8) (v := .ref (ad (xaD0 j))) hx hb hts wX0_isFast_c4 hown hK hP (xaS j) (xq_S hj) (xe_S (va_up_self _ _ _)) rfl 6 (by decide) wX0_isFast_f59 rfl rfl dX0_isFast_27 ?_
        refine lv_iconst (v := (0 : Int32)) hx hb dX0_isFast_30 (by decide) ?_
        refine xr_aald (k := 0) (b := ad (xaD j 0)) hx hb hK hP (xaD0 j) 4 (xq_D0 hj) xe_D0 rfl rfl rfl (x_in _ _ (by decide)) rfl dX0_isFast_31 ?_
        refine lv_iload hx hb dX0_isFast_32 (lv_at hl 2 rfl) ?_
        obtain ⟨g_5, h⟩ := h
        refine xr_lald (k := x4.toNatClampNeg) hx hb hK hP (xaD j 0) 1 (xq_D hj (by decide)) (xe_D (by decide) (va_up_self _ _ _)) rfl rfl g_5 dX0_isFast_34 ?_
        refine lv_ldc2 (v := (2 : Int64)) hx hb hown (hts _ wX0_isFast_k86) dX0_isFast_35 ?_
        refine xr_if_lcmp_eq (tgt := 44) hx hb dX0_isFast_38 dX0_isFast_39 (by decide) (fun c_6 => ?_) (fun c_6 => ?_)
        · have h := h.1 c_6
          obtain ⟨x4_7, ex4_7⟩ : ∃ z : Int32, z = x4 + 1 := ⟨_, rfl⟩
          have h := h x4_7 ex4_7
          refine lv_iinc (v := x4_7) (lv' := [(4, .int x4_7), (1, .ref (ad (xaS j))), (2, .long x2)]) hx hb dX0_isFast_44 hl (k := 2) rfl (by rw [ex4_7]; rfl) (by decide) rfl (fun ls hl => ?_)
          refine lv_goto (tgt := 3) hx hb dX0_isFast_47 (by decide) ?_
          exact ih x4_7 _ _ _ h hP hS (lv_sub hl [1, 2, 0] rfl)
        · have h := h.2 c_6
          refine lv_iconst (v := (1 : Int32)) hx hb dX0_isFast_42 (by decide) ?_
          exact W.zret (v := (1 : Int32)) (ty := .boolean) hx hb hr (by decide) (fun t ht hW => ⟨⟨(1 : Int32), (), rfl, h, x_ht ht hP⟩, hS.F ht⟩) hS.2.2 dX0_isFast_43
def PX0_isFast  (v : StV) (x2 : Int64) (post : Int32 → Prop) : Prop :=
  (∃ n_8 : Nat, LX0_isFast_3  v x2  post n_8 (0 : Int32))
set_option maxHeartbeats 4000000 in
set_option maxRecDepth 100000 in
theorem qX0_isFast (l : Launch) (dC : Nat → ClassId) (dI : Nat → Nat → Nat) (ad : Nat → Nat) (ci : Nat → ClassId) (A : Nat → Prop) (ns : Nat) (hAD : xw_D (xn ns) ad A) (st : Nat → StV) (v : StV) (ln : Nat → LnV) (w : LnV) (sv : SvV) (kv : KvV) (cu : Nat) (j : Nat) (hj : j < ns) (x2 : Int64) (post : Int32 → Prop) (h : PX0_isFast v x2 post) : Met l yX0_isFast wsX0_isFast rmX0_isFast (va_Pc [.ref (ad 3), .ref (ad (xaS j)), .long x2] (fun U => va_P (dC, dI) vwCl (xw (xn ns) ad (xc ad ci (va_up st j v) (va_up ln 0 w) sv kv cu)) U.heap ∧ va_K (dC, dI) vwCl (xT ci) U)) (va_Qi (fun r9 (u : Unit) => post r9 ) (fun u t => va_P (dC, dI) vwCl (xw (xn ns) ad (xc ad ci (va_up st j v) (va_up ln 0 w) sv kv cu)) t.heap) A) 0 0 A := by
  refine Met.ofW (cc := cX0_isFast) (maxL := 5) (ret := (some .boolean)) (by decide) rfl ?_
  intro p e s m args below meth c s₁ B hml hv
  obtain ⟨eargs, hP, hK⟩ := hv
  have C0 : xC p s m args meth c cX0_isFast 5 (some .boolean) RX0 wsX0_isFast (dC, dI) (xT ci) := ⟨B.exec, B.bytes, hml, B.returns, B.notSynchronized, findClass_of_methodNamed B.named, atoms_spec (ws := wsX0_isFast) B.pre, hK⟩
  obtain ⟨hx, hb, -, hr, hlocks, hown, hts, -⟩ := id C0
  have hS : va_S A s.heap s.heap [] := va_S.rf
  have hl := lv_entry ([.ref (ad 3), .ref (ad (xaS j)), .long x2]) (n := 5) (Nat.le_of_ble_eq_true rfl)
  have ef : entryFrame m args 5 = entryFrame m ([.ref (ad 3), .ref (ad (xaS j)), .long x2] : List Value).toArray 5 := by rw [eargs]
  rw [ef, lg_entry_eq]
  generalize (lg_sl ([.ref (ad 3), .ref (ad (xaS j)), .long x2]) ++ List.replicate (5 - (lg_sl ([.ref (ad 3), .ref (ad (xaS j)), .long x2])).length) Slot.unset).toArray = ls at hl ⊢
  have hl : lv_has ls 5 [(0, .ref (ad 3)), (1, .ref (ad (xaS j))), (2, .long x2)] := hl
  have hP : va_P (dC, dI) vwCl (xw (xn ns) ad (xc ad ci (va_up st j v) (va_up ln 0 w) sv kv cu)) s.heap := hP
  unfold PX0_isFast at h
  refine lv_iconst (v := (0 : Int32)) hx hb dX0_isFast_0 (by decide) ?_
  refine lv_istore (lv' := [(4, .int (0 : Int32)), (0, .ref (ad 3)), (1, .ref (ad (xaS j))), (2, .long x2)]) hx hb dX0_isFast_1 hl (by decide) rfl (fun ls hl => ?_)
  obtain ⟨n_8, h⟩ := h
  exact kX0_isFast_3 l dC dI ad ci A ns hAD st v ln w sv kv cu j hj  x2  post C0  n_8 (0 : Int32) _ _ _ h hP hS (lv_sub hl [2, 3, 0] rfl)
abbrev rmX0_isLooseFrom : Room := { frames := 0, cells := 0, slots := 0, locals := 0 }
theorem wX0_isLooseFrom_k86 : Cond.constantLong RX0 86 (2) ∈ wsX0_isLooseFrom := by decide +kernel
theorem wX0_isLooseFrom_c4 : ∀ w ∈ u_ws RX4 TX4 8, w ∈ wsX0_isLooseFrom := by decide +kernel
theorem wX0_isLooseFrom_f59 : Cond.fieldLink RX0 59 "DueWheels$State" "dues" "[[J" ∈ wsX0_isLooseFrom := by decide +kernel
def PX0_isLooseFrom  (v : StV) (x2 : Int32) (x3 : Int64) (post : Int32 → Prop) : Prop :=
  (vp_in x2 200 ∧ (((s_du v 0 (x2.toNatClampNeg)) = (2 : Int64) → (vp_in x2 200 ∧ ((x3 < (s_du v 3 (x2.toNatClampNeg)) → post (0 : Int32)) ∧ (¬ x3 < (s_du v 3 (x2.toNatClampNeg)) → post (1 : Int32))))) ∧ (¬ (s_du v 0 (x2.toNatClampNeg)) = (2 : Int64) → post (0 : Int32))))
set_option maxHeartbeats 4000000 in
set_option maxRecDepth 100000 in
theorem qX0_isLooseFrom (l : Launch) (dC : Nat → ClassId) (dI : Nat → Nat → Nat) (ad : Nat → Nat) (ci : Nat → ClassId) (A : Nat → Prop) (ns : Nat) (hAD : xw_D (xn ns) ad A) (st : Nat → StV) (v : StV) (ln : Nat → LnV) (w : LnV) (sv : SvV) (kv : KvV) (cu : Nat) (j : Nat) (hj : j < ns) (x2 : Int32) (x3 : Int64) (post : Int32 → Prop) (h : PX0_isLooseFrom v x2 x3 post) : Met l yX0_isLooseFrom wsX0_isLooseFrom rmX0_isLooseFrom (va_Pc [.ref (ad 3), .ref (ad (xaS j)), .int x2, .long x3] (fun U => va_P (dC, dI) vwCl (xw (xn ns) ad (xc ad ci (va_up st j v) (va_up ln 0 w) sv kv cu)) U.heap ∧ va_K (dC, dI) vwCl (xT ci) U)) (va_Qi (fun r9 (u : Unit) => post r9 ) (fun u t => va_P (dC, dI) vwCl (xw (xn ns) ad (xc ad ci (va_up st j v) (va_up ln 0 w) sv kv cu)) t.heap) A) 0 0 A := by
  refine Met.ofW (cc := cX0_isLooseFrom) (maxL := 5) (ret := (some .boolean)) (by decide) rfl ?_
  intro p e s m args below meth c s₁ B hml hv
  obtain ⟨eargs, hP, hK⟩ := hv
  have C0 : xC p s m args meth c cX0_isLooseFrom 5 (some .boolean) RX0 wsX0_isLooseFrom (dC, dI) (xT ci) := ⟨B.exec, B.bytes, hml, B.returns, B.notSynchronized, findClass_of_methodNamed B.named, atoms_spec (ws := wsX0_isLooseFrom) B.pre, hK⟩
  obtain ⟨hx, hb, -, hr, hlocks, hown, hts, -⟩ := id C0
  have hS : va_S A s.heap s.heap [] := va_S.rf
  have hl := lv_entry ([.ref (ad 3), .ref (ad (xaS j)), .int x2, .long x3]) (n := 5) (Nat.le_of_ble_eq_true rfl)
  have ef : entryFrame m args 5 = entryFrame m ([.ref (ad 3), .ref (ad (xaS j)), .int x2, .long x3] : List Value).toArray 5 := by rw [eargs]
  rw [ef, lg_entry_eq]
  generalize (lg_sl ([.ref (ad 3), .ref (ad (xaS j)), .int x2, .long x3]) ++ List.replicate (5 - (lg_sl ([.ref (ad 3), .ref (ad (xaS j)), .int x2, .long x3])).length) Slot.unset).toArray = ls at hl ⊢
  have hl : lv_has ls 5 [(0, .ref (ad 3)), (1, .ref (ad (xaS j))), (2, .int x2), (3, .long x3)] := hl
  have hP : va_P (dC, dI) vwCl (xw (xn ns) ad (xc ad ci (va_up st j v) (va_up ln 0 w) sv kv cu)) s.heap := hP
  unfold PX0_isLooseFrom at h
  refine lv_aload_n hx hb dX0_isLooseFrom_0 rfl (lv_at hl 1 rfl) ?_
  refine xr_get (D := (dC, dI)) (C := RX4) (T := TX4) (N := 8) (v := .ref (ad (xaD0 j))) hx hb hts wX0_isLooseFrom_c4 hown hK hP (xaS j) (xq_S hj) (xe_S (va_up_self _ _ _)) rfl 6 (by decide) wX0_isLooseFrom_f59 rfl rfl dX0_isLooseFrom_1 ?_
  refine lv_iconst (v := (0 : Int32)) hx hb dX0_isLooseFrom_4 (by decide) ?_
  refine xr_aald (k := 0) (b := ad (xaD j 0)) hx hb hK hP (xaD0 j) 4 (xq_D0 hj) xe_D0 rfl rfl rfl (x_in _ _ (by decide)) rfl dX0_isLooseFrom_5 ?_
  refine lv_iload_n hx hb dX0_isLooseFrom_6 rfl (lv_at hl 2 rfl) ?_
  obtain ⟨g_1, h⟩ := h
  refine xr_lald (k := x2.toNatClampNeg) hx hb hK hP (xaD j 0) 1 (xq_D hj (by decide)) (xe_D (by decide) (va_up_self _ _ _)) rfl rfl g_1 dX0_isLooseFrom_7 ?_
  refine lv_ldc2 (v := (2 : Int64)) hx hb hown (hts _ wX0_isLooseFrom_k86) dX0_isLooseFrom_8 ?_
  refine xr_if_lcmp_ne (tgt := 32) hx hb dX0_isLooseFrom_11 dX0_isLooseFrom_12 (by decide) (fun c_2 => ?_) (fun c_2 => ?_)
  · have h := h.2 c_2
    refine lv_iconst (v := (0 : Int32)) hx hb dX0_isLooseFrom_32 (by decide) ?_
    exact W.zret (v := (0 : Int32)) (ty := .boolean) hx hb hr (by decide) (fun t ht hW => ⟨⟨(0 : Int32), (), rfl, h, x_ht ht hP⟩, hS.F ht⟩) hS.2.2 dX0_isLooseFrom_33
  · have h := h.1 c_2
    refine lv_aload_n hx hb dX0_isLooseFrom_15 rfl (lv_at hl 1 rfl) ?_
    refine xr_get (D := (dC, dI)) (C := RX4) (T := TX4) (N := 8) (v := .ref (ad (xaD0 j))) hx hb hts wX0_isLooseFrom_c4 hown hK hP (xaS j) (xq_S hj) (xe_S (va_up_self _ _ _)) rfl 6 (by decide) wX0_isLooseFrom_f59 rfl rfl dX0_isLooseFrom_16 ?_
    refine lv_iconst (v := (3 : Int32)) hx hb dX0_isLooseFrom_19 (by decide) ?_
    refine xr_aald (k := 3) (b := ad (xaD j 3)) hx hb hK hP (xaD0 j) 4 (xq_D0 hj) xe_D0 rfl rfl rfl (x_in _ _ (by decide)) rfl dX0_isLooseFrom_20 ?_
    refine lv_iload_n hx hb dX0_isLooseFrom_21 rfl (lv_at hl 2 rfl) ?_
    obtain ⟨g_3, h⟩ := h
    refine xr_lald (k := x2.toNatClampNeg) hx hb hK hP (xaD j 3) 1 (xq_D hj (by decide)) (xe_D (by decide) (va_up_self _ _ _)) rfl rfl g_3 dX0_isLooseFrom_22 ?_
    refine lv_lload_n hx hb dX0_isLooseFrom_23 rfl (lv_at hl 3 rfl) ?_
    refine xr_if_lcmp_gt (tgt := 32) hx hb dX0_isLooseFrom_24 dX0_isLooseFrom_25 (by decide) (fun c_4 => ?_) (fun c_4 => ?_)
    · have h := h.1 c_4
      refine lv_iconst (v := (0 : Int32)) hx hb dX0_isLooseFrom_32 (by decide) ?_
      exact W.zret (v := (0 : Int32)) (ty := .boolean) hx hb hr (by decide) (fun t ht hW => ⟨⟨(0 : Int32), (), rfl, h, x_ht ht hP⟩, hS.F ht⟩) hS.2.2 dX0_isLooseFrom_33
    · have h := h.2 c_4
      refine lv_iconst (v := (1 : Int32)) hx hb dX0_isLooseFrom_28 (by decide) ?_
      refine lv_goto (tgt := 33) hx hb dX0_isLooseFrom_29 (by decide) ?_
      exact W.zret (v := (1 : Int32)) (ty := .boolean) hx hb hr (by decide) (fun t ht hW => ⟨⟨(1 : Int32), (), rfl, h, x_ht ht hP⟩, hS.F ht⟩) hS.2.2 dX0_isLooseFrom_33
abbrev rmX0_rankOf : Room := { frames := 0, cells := 0, slots := 0, locals := 0 }
theorem wX0_rankOf_k86 : Cond.constantLong RX0 86 (2) ∈ wsX0_rankOf := by decide +kernel
theorem wX0_rankOf_k88 : Cond.constantLong RX0 88 (5) ∈ wsX0_rankOf := by decide +kernel
def PX0_rankOf   (x1 : Int64) (post : Int64 → Prop) : Prop :=
  ((x1 = (2 : Int64) → post (5 : Int64)) ∧ (¬ x1 = (2 : Int64) → post x1))
set_option maxHeartbeats 4000000 in
set_option maxRecDepth 100000 in
theorem qX0_rankOf (l : Launch) (dC : Nat → ClassId) (dI : Nat → Nat → Nat) (nn : Nat) (ad : Nat → Nat) (ff : Nat → va_E) (tys : List (ClassId × FieldType)) (A : Nat → Prop) (q0 : Nat)  (x1 : Int64) (post : Int64 → Prop) (h : PX0_rankOf x1 post) : Met l yX0_rankOf wsX0_rankOf rmX0_rankOf (va_Pc [.ref (ad q0), .long x1] (fun U => va_P (dC, dI) vwCl (xw nn ad ff) U.heap ∧ va_K (dC, dI) vwCl tys U)) (va_Ql (fun r9 (u : Unit) => post r9 ) (fun u t => va_P (dC, dI) vwCl (xw nn ad ff) t.heap) A) 0 0 A := by
  refine Met.ofW (cc := cX0_rankOf) (maxL := 3) (ret := (some .long)) (by decide) rfl ?_
  intro p e s m args below meth c s₁ B hml hv
  obtain ⟨eargs, hP, hK⟩ := hv
  have C0 : xC p s m args meth c cX0_rankOf 3 (some .long) RX0 wsX0_rankOf (dC, dI) tys := ⟨B.exec, B.bytes, hml, B.returns, B.notSynchronized, findClass_of_methodNamed B.named, atoms_spec (ws := wsX0_rankOf) B.pre, hK⟩
  obtain ⟨hx, hb, -, hr, hlocks, hown, hts, -⟩ := id C0
  have hS : va_S A s.heap s.heap [] := va_S.rf
  have hl := lv_entry ([.ref (ad q0), .long x1]) (n := 3) (Nat.le_of_ble_eq_true rfl)
  have ef : entryFrame m args 3 = entryFrame m ([.ref (ad q0), .long x1] : List Value).toArray 3 := by rw [eargs]
  rw [ef, lg_entry_eq]
  generalize (lg_sl ([.ref (ad q0), .long x1]) ++ List.replicate (3 - (lg_sl ([.ref (ad q0), .long x1])).length) Slot.unset).toArray = ls at hl ⊢
  have hl : lv_has ls 3 [(0, .ref (ad q0)), (1, .long x1)] := hl
  have hP : va_P (dC, dI) vwCl (xw nn ad ff) s.heap := hP
  unfold PX0_rankOf at h
  refine lv_lload_n hx hb dX0_rankOf_0 rfl (lv_at hl 1 rfl) ?_
  refine lv_ldc2 (v := (2 : Int64)) hx hb hown (hts _ wX0_rankOf_k86) dX0_rankOf_1 ?_
  refine xr_if_lcmp_ne (tgt := 14) hx hb dX0_rankOf_4 dX0_rankOf_5 (by decide) (fun c_1 => ?_) (fun c_1 => ?_)
  · have h := h.2 c_1
    refine lv_lload_n hx hb dX0_rankOf_14 rfl (lv_at hl 1 rfl) ?_
    exact W.lret (v := x1) hx hb hr (fun t ht hW => ⟨⟨x1, (), rfl, h, x_ht ht hP⟩, hS.F ht⟩) hS.2.2 dX0_rankOf_15
  · have h := h.1 c_1
    refine lv_ldc2 (v := (5 : Int64)) hx hb hown (hts _ wX0_rankOf_k88) dX0_rankOf_8 ?_
    refine lv_goto (tgt := 15) hx hb dX0_rankOf_11 (by decide) ?_
    exact W.lret (v := (5 : Int64)) hx hb hr (fun t ht hW => ⟨⟨(5 : Int64), (), rfl, h, x_ht ht hP⟩, hS.F ht⟩) hS.2.2 dX0_rankOf_15
abbrev rmX0_findGoers : Room := { frames := 2, cells := 0, slots := 0, locals := 51 }
theorem wX0_findGoers_c4 : ∀ w ∈ u_ws RX4 TX4 8, w ∈ wsX0_findGoers := by decide +kernel
theorem wX0_findGoers_f59 : Cond.fieldLink RX0 59 "DueWheels$State" "dues" "[[J" ∈ wsX0_findGoers := by decide +kernel
theorem wX0_findGoers_c0 : ∀ w ∈ u_ws RX0 TX0 1, w ∈ wsX0_findGoers := by decide +kernel
theorem wX0_findGoers_f12 : Cond.fieldLink RX0 12 "DueWheels$Going" "line" "LDueWheels$Line;" ∈ wsX0_findGoers := by decide +kernel
theorem wX0_findGoers_f56 : Cond.fieldLink RX0 56 "DueWheels$State" "end" "I" ∈ wsX0_findGoers := by decide +kernel
theorem wX0_findGoers_c2 : ∀ w ∈ u_ws RX2 TX2 4, w ∈ wsX0_findGoers := by decide +kernel
theorem wX0_findGoers_f41 : Cond.fieldLink RX0 41 "DueWheels$Line" "size" "I" ∈ wsX0_findGoers := by decide +kernel
def LX0_findGoers_19  (v : StV) (x2 : Int64) (x4 : Int32)  (post : LnV → Prop) : Nat → Int32 → LnV → Prop
  | 0, _, _ => False
  | n + 1, x5, w => (((s_en v) ≤ x5 → post w) ∧ (¬ (s_en v) ≤ x5 → (vp_in x5 200 ∧ (((s_du v 2 (x5.toNatClampNeg)) = x2 → (vp_in x5 200 ∧ (PX0_rankOf (s_du v 0 (x5.toNatClampNeg)) (fun (r_7 : Int64) => (vp_in x5 200 ∧ (PX2_add w x5 r_7 (s_du v 8 (x5.toNatClampNeg)) (fun (w_9 : LnV) => ∀ x5_10 : Int32, x5_10 = x5 + 1 → LX0_findGoers_19  v x2 x4 post n x5_10 w_9))))))) ∧ (¬ (s_du v 2 (x5.toNatClampNeg)) = x2 → ((x4 = 0 → ∀ x5_12 : Int32, x5_12 = x5 + 1 → LX0_findGoers_19  v x2 x4 post n x5_12 w) ∧ (¬ x4 = 0 → (PX0_isLooseFrom v x5 x2 (fun (r_13 : Int32) => ((r_13 = 0 → ∀ x5_15 : Int32, x5_15 = x5 + 1 → LX0_findGoers_19  v x2 x4 post n x5_15 w) ∧ (¬ r_13 = 0 → (vp_in x5 200 ∧ (PX0_rankOf (s_du v 0 (x5.toNatClampNeg)) (fun (r_17 : Int64) => (vp_in x5 200 ∧ (PX2_add w x5 r_17 (s_du v 8 (x5.toNatClampNeg)) (fun (w_19 : LnV) => ∀ x5_20 : Int32, x5_20 = x5 + 1 → LX0_findGoers_19  v x2 x4 post n x5_20 w_19)))))))))))))))))
set_option maxHeartbeats 4000000 in
set_option maxRecDepth 100000 in
theorem kX0_findGoers_19 {p : Program} {e : Env} {s : State} {m : MethodId} {args : Array Value} {below : List Frame} {meth : Method} {c : Code} (l : Launch) (dC : Nat → ClassId) (dI : Nat → Nat → Nat) (ad : Nat → Nat) (ci : Nat → ClassId) (A : Nat → Prop) (ns : Nat) (hAD : xw_D (xn ns) ad A) (st : Nat → StV) (v : StV) (ln : Nat → LnV) (sv : SvV) (kv : KvV) (cu : Nat) (j : Nat) (hj : j < ns) (x2 : Int64) (x4 : Int32)  (post : LnV → Prop) (C0 : xC p s m args meth c cX0_findGoers 6 none RX0 wsX0_findGoers (dC, dI) (xT ci)) : ∀ (n : Nat) (x5 : Int32) (w : LnV) (H : Heap) (locs : List Loc) (ls : Array Slot), LX0_findGoers_19  v x2 x4 post n x5 w → va_P (dC, dI) vwCl (xw (xn ns) ad (xc ad ci (va_up st j v) (va_up ln 0 w) sv kv cu)) H → va_S A s.heap H locs → lv_has ls 6 [(0, .ref (ad 3)), (1, .ref (ad (xaS j))), (2, .long x2), (4, .int x4), (5, .int x5)] → W p l e rmX0_findGoers s m args below meth c H locs 0 0 (MQ below (va_Qv (fun u : LnV => post u) (fun u t => va_P (dC, dI) vwCl (xw (xn ns) ad (xc ad ci (va_up st j v) (va_up ln 0 u) sv kv cu)) t.heap) A) args s 0 0 A) (F0 m 19 ls []) := by
  obtain ⟨hx, hb, -, hr, hlocks, hown, hts, hK⟩ := id C0
  intro n
  induction n with
  | zero =>
    intro x5 w H locs ls h
    exact False.elim h
  | succ n ih =>
    intro x5 w H locs ls h hP hS hl
    rw [LX0_findGoers_19] at h
    refine lv_iload hx hb dX0_findGoers_19 (lv_at hl 4 rfl) ?_
    refine lv_aload_n hx hb dX0_findGoers_21 rfl (lv_at hl 1 rfl) ?_
    refine xr_get (D := (dC, dI)) (C := RX4) (T := TX4) (N := 8) (v := .int (s_en v)) hx hb hts wX0_findGoers_c4 hown hK hP (xaS j) (xq_S hj) (xe_S (va_up_self _ _ _)) rfl 4 (by decide) wX0_findGoers_f56 rfl rfl dX0_findGoers_22 ?_
    refine lv_icmp_ge (tgt := 96) hx hb dX0_findGoers_25 (by decide) (fun c_3 => ?_) (fun c_3 => ?_)
    · have h := h.1 c_3
      exact W.vret hx hb hr (fun t ht hW => ⟨⟨w, rfl, h, x_ht ht hP⟩, hS.F ht⟩) hS.2.2 dX0_findGoers_96
    · have h := h.2 c_3
      refine lv_aload_n hx hb dX0_findGoers_28 rfl (lv_at hl 1 rfl) ?_
      refine xr_get (D := (dC, dI)) (C := RX4) (T := TX4) (N := 8) (v := .ref (ad (xaD0 j))) hx hb hts wX0_findGoers_c4 hown hK hP (xaS j) (xq_S hj) (xe_S (va_up_self _ _ _)) rfl 6 (by decide) wX0_findGoers_f59 rfl rfl dX0_findGoers_29 ?_
      refine lv_iconst (v := (2 : Int32)) hx hb dX0_findGoers_32 (by decide) ?_
      refine xr_aald (k := 2) (b := ad (xaD j 2)) hx hb hK hP (xaD0 j) 4 (xq_D0 hj) xe_D0 rfl rfl rfl (x_in _ _ (by decide)) rfl dX0_findGoers_33 ?_
      refine lv_iload hx hb dX0_findGoers_34 (lv_at hl 4 rfl) ?_
      obtain ⟨g_4, h⟩ := h
      refine xr_lald (k := x5.toNatClampNeg) hx hb hK hP (xaD j 2) 1 (xq_D hj (by decide)) (xe_D (by decide) (va_up_self _ _ _)) rfl rfl g_4 dX0_findGoers_36 ?_
      refine lv_lload_n hx hb dX0_findGoers_37 rfl (lv_at hl 2 rfl) ?_
      refine xr_if_lcmp_eq (tgt := 58) hx hb dX0_findGoers_38 dX0_findGoers_39 (by decide) (fun c_5 => ?_) (fun c_5 => ?_)
      · have h := h.1 c_5
        refine lv_aload_n hx hb dX0_findGoers_58 rfl (lv_at hl 0 rfl) ?_
        refine xr_get (D := (dC, dI)) (C := RX0) (T := TX0) (N := 1) (v := .ref (ad (xaL 0))) hx hb hts wX0_findGoers_c0 hown hK hP 3 (xq_c (by decide)) xe_G rfl 0 (by decide) wX0_findGoers_f12 rfl rfl dX0_findGoers_59 ?_
        refine lv_iload hx hb dX0_findGoers_62 (lv_at hl 4 rfl) ?_
        refine lv_aload_n hx hb dX0_findGoers_64 rfl (lv_at hl 0 rfl) ?_
        refine lv_aload_n hx hb dX0_findGoers_65 rfl (lv_at hl 1 rfl) ?_
        refine xr_get (D := (dC, dI)) (C := RX4) (T := TX4) (N := 8) (v := .ref (ad (xaD0 j))) hx hb hts wX0_findGoers_c4 hown hK hP (xaS j) (xq_S hj) (xe_S (va_up_self _ _ _)) rfl 6 (by decide) wX0_findGoers_f59 rfl rfl dX0_findGoers_66 ?_
        refine lv_iconst (v := (0 : Int32)) hx hb dX0_findGoers_69 (by decide) ?_
        refine xr_aald (k := 0) (b := ad (xaD j 0)) hx hb hK hP (xaD0 j) 4 (xq_D0 hj) xe_D0 rfl rfl rfl (x_in _ _ (by decide)) rfl dX0_findGoers_70 ?_
        refine lv_iload hx hb dX0_findGoers_71 (lv_at hl 4 rfl) ?_
        obtain ⟨g_6, h⟩ := h
        refine xr_lald (k := x5.toNatClampNeg) hx hb hK hP (xaD j 0) 1 (xq_D hj (by decide)) (xe_D (by decide) (va_up_self _ _ _)) rfl rfl g_6 dX0_findGoers_73 ?_
        refine va_calll (va_runV (As := [.long (s_du v 0 (x5.toNatClampNeg))]) (rest := [.int x5, .ref (ad (xaL 0))]) ⟨hx, hb, C0.2.2.1, hown, hts⟩ (qX0_rankOf l dC dI (xn ns) ad (xc ad ci (va_up st j v) (va_up ln 0 w) sv kv cu) (xT ci) A 3 (s_du v 0 (x5.toNatClampNeg)) _ h) (cwV 1 hts gX0_findGoers_X0_rankOf rfl rfl rfl (by decide +kernel) ⟨Nat.le_of_ble_eq_true rfl, Nat.le_of_ble_eq_true rfl⟩) ⟨xr_blind, xr_recv (r := (RX0, TX0, 1)) hK hP 3 (xq_c (by decide)) xe_G rfl, xr_pre hP hK⟩ rfl rfl hl.1 rfl (lv_room (Nat.le_of_ble_eq_true rfl)) dX0_findGoers_74 ⟨Nat.le_of_ble_eq_true rfl, Nat.le_of_ble_eq_true rfl⟩) hS (fun _ _ h => h) (fun _ h => h) (fun r_7 _ t9 H locs ht hvm h hB _ _ hS => ?_)
        refine W.cs (cells' := 0) (slots' := 0) rfl rfl ?_
        have hP := x_th ht hB
        have hP : va_P (dC, dI) vwCl (xw (xn ns) ad (xc ad ci (va_up st j v) (va_up ln 0 w) sv kv cu)) H := hP
        refine lv_aload_n hx hb dX0_findGoers_77 rfl (lv_at hl 1 rfl) ?_
        refine xr_get (D := (dC, dI)) (C := RX4) (T := TX4) (N := 8) (v := .ref (ad (xaD0 j))) hx hb hts wX0_findGoers_c4 hown hK hP (xaS j) (xq_S hj) (xe_S (va_up_self _ _ _)) rfl 6 (by decide) wX0_findGoers_f59 rfl rfl dX0_findGoers_78 ?_
        refine lv_bipush (v := (8 : Int32)) hx hb dX0_findGoers_81 (by decide) ?_
        refine xr_aald (k := 8) (b := ad (xaD j 8)) hx hb hK hP (xaD0 j) 4 (xq_D0 hj) xe_D0 rfl rfl rfl (x_in _ _ (by decide)) rfl dX0_findGoers_83 ?_
        refine lv_iload hx hb dX0_findGoers_84 (lv_at hl 4 rfl) ?_
        obtain ⟨g_8, h⟩ := h
        refine xr_lald (k := x5.toNatClampNeg) hx hb hK hP (xaD j 8) 1 (xq_D hj (by decide)) (xe_D (by decide) (va_up_self _ _ _)) rfl rfl g_8 dX0_findGoers_86 ?_
        refine va_callv (va_runV (As := [.int x5, .long r_7, .long (s_du v 8 (x5.toNatClampNeg))]) (rest := []) ⟨hx, hb, C0.2.2.1, hown, hts⟩ (qX2_add l dC dI ad ci A ns hAD (va_up st j v) ln w sv kv cu 0 (by decide) x5 r_7 (s_du v 8 (x5.toNatClampNeg)) _ h) (cwV 3 hts gX0_findGoers_X2_add rfl rfl rfl (by decide +kernel) ⟨Nat.le_of_ble_eq_true rfl, Nat.le_of_ble_eq_true rfl⟩) ⟨xr_blind, xr_recv (r := (RX2, TX2, 4)) hK hP (xaL 0) (xq_L (by decide)) (xe_L (by decide) (va_up_self _ _ _)) rfl, xr_pre hP hK⟩ rfl rfl hl.1 rfl (lv_room (Nat.le_of_ble_eq_true rfl)) dX0_findGoers_87 ⟨Nat.le_of_ble_eq_true rfl, Nat.le_of_ble_eq_true rfl⟩) hS (fun _ _ h => h) (fun _ h => h) (fun w_9 t9 H locs ht hvm h hB _ _ hS => ?_)
        refine W.cs (cells' := 0) (slots' := 0) rfl rfl ?_
        have hP := x_th ht hB
        have hP : va_P (dC, dI) vwCl (xw (xn ns) ad (xc ad ci (va_up st j v) (va_up ln 0 w_9) sv kv cu)) H := hP
        obtain ⟨x5_10, ex5_10⟩ : ∃ z : Int32, z = x5 + 1 := ⟨_, rfl⟩
        have h := h x5_10 ex5_10
        refine lv_iinc (v := x5_10) (lv' := [(5, .int x5_10), (0, .ref (ad 3)), (1, .ref (ad (xaS j))), (2, .long x2), (4, .int x4)]) hx hb dX0_findGoers_90 hl (k := 4) rfl (by rw [ex5_10]; rfl) (by decide) rfl (fun ls hl => ?_)
        refine lv_goto (tgt := 19) hx hb dX0_findGoers_93 (by decide) ?_
        exact ih x5_10 w_9 _ _ _ h hP hS (lv_sub hl [1, 2, 3, 4, 0] rfl)
      · have h := h.2 c_5
        refine lv_iload hx hb dX0_findGoers_42 (lv_at hl 3 rfl) ?_
        refine lv_if_eq (tgt := 90) hx hb dX0_findGoers_44 (by decide) (fun c_11 => ?_) (fun c_11 => ?_)
        · have h := h.1 c_11
          obtain ⟨x5_12, ex5_12⟩ : ∃ z : Int32, z = x5 + 1 := ⟨_, rfl⟩
          have h := h x5_12 ex5_12
          refine lv_iinc (v := x5_12) (lv' := [(5, .int x5_12), (0, .ref (ad 3)), (1, .ref (ad (xaS j))), (2, .long x2), (4, .int x4)]) hx hb dX0_findGoers_90 hl (k := 4) rfl (by rw [ex5_12]; rfl) (by decide) rfl (fun ls hl => ?_)
          refine lv_goto (tgt := 19) hx hb dX0_findGoers_93 (by decide) ?_
          exact ih x5_12 w _ _ _ h hP hS (lv_sub hl [1, 2, 3, 4, 0] rfl)
        · have h := h.2 c_11
          refine lv_aload_n hx hb dX0_findGoers_47 rfl (lv_at hl 0 rfl) ?_
          refine lv_aload_n hx hb dX0_findGoers_48 rfl (lv_at hl 1 rfl) ?_
          refine lv_iload hx hb dX0_findGoers_49 (lv_at hl 4 rfl) ?_
          refine lv_lload_n hx hb dX0_findGoers_51 rfl (lv_at hl 2 rfl) ?_
          refine va_calli (va_runV (As := [.ref (ad (xaS j)), .int x5, .long x2]) (rest := []) ⟨hx, hb, C0.2.2.1, hown, hts⟩ (qX0_isLooseFrom l dC dI ad ci A ns hAD st v ln w sv kv cu j hj x5 x2 _ h) (cwV 3 hts gX0_findGoers_X0_isLooseFrom rfl rfl rfl (by decide +kernel) ⟨Nat.le_of_ble_eq_true rfl, Nat.le_of_ble_eq_true rfl⟩) ⟨xr_blind, xr_recv (r := (RX0, TX0, 1)) hK hP 3 (xq_c (by decide)) xe_G rfl, xr_pre hP hK⟩ rfl rfl hl.1 rfl (lv_room (Nat.le_of_ble_eq_true rfl)) dX0_findGoers_52 ⟨Nat.le_of_ble_eq_true rfl, Nat.le_of_ble_eq_true rfl⟩) hS (fun _ _ h => h) (fun _ h => h) (fun r_13 _ t9 H locs ht hvm h hB _ _ hS => ?_)
          refine W.cs (cells' := 0) (slots' := 0) rfl rfl ?_
          have hP := x_th ht hB
          have hP : va_P (dC, dI) vwCl (xw (xn ns) ad (xc ad ci (va_up st j v) (va_up ln 0 w) sv kv cu)) H := hP
          refine lv_if_eq (tgt := 90) hx hb dX0_findGoers_55 (by decide) (fun c_14 => ?_) (fun c_14 => ?_)
          · have h := h.1 c_14
            obtain ⟨x5_15, ex5_15⟩ : ∃ z : Int32, z = x5 + 1 := ⟨_, rfl⟩
            have h := h x5_15 ex5_15
            refine lv_iinc (v := x5_15) (lv' := [(5, .int x5_15), (0, .ref (ad 3)), (1, .ref (ad (xaS j))), (2, .long x2), (4, .int x4)]) hx hb dX0_findGoers_90 hl (k := 4) rfl (by rw [ex5_15]; rfl) (by decide) rfl (fun ls hl => ?_)
            refine lv_goto (tgt := 19) hx hb dX0_findGoers_93 (by decide) ?_
            exact ih x5_15 w _ _ _ h hP hS (lv_sub hl [1, 2, 3, 4, 0] rfl)
          · have h := h.2 c_14
            refine lv_aload_n hx hb dX0_findGoers_58 rfl (lv_at hl 0 rfl) ?_
            refine xr_get (D := (dC, dI)) (C := RX0) (T := TX0) (N := 1) (v := .ref (ad (xaL 0))) hx hb hts wX0_findGoers_c0 hown hK hP 3 (xq_c (by decide)) xe_G rfl 0 (by decide) wX0_findGoers_f12 rfl rfl dX0_findGoers_59 ?_
            refine lv_iload hx hb dX0_findGoers_62 (lv_at hl 4 rfl) ?_
            refine lv_aload_n hx hb dX0_findGoers_64 rfl (lv_at hl 0 rfl) ?_
            refine lv_aload_n hx hb dX0_findGoers_65 rfl (lv_at hl 1 rfl) ?_
            refine xr_get (D := (dC, dI)) (C := RX4) (T := TX4) (N := 8) (v := .ref (ad (xaD0 j))) hx hb hts wX0_findGoers_c4 hown hK hP (xaS j) (xq_S hj) (xe_S (va_up_self _ _ _)) rfl 6 (by decide) wX0_findGoers_f59 rfl rfl dX0_findGoers_66 ?_
            refine lv_iconst (v := (0 : Int32)) hx hb dX0_findGoers_69 (by decide) ?_
            refine xr_aald (k := 0) (b := ad (xaD j 0)) hx hb hK hP (xaD0 j) 4 (xq_D0 hj) xe_D0 rfl rfl rfl (x_in _ _ (by decide)) rfl dX0_findGoers_70 ?_
            refine lv_iload hx hb dX0_findGoers_71 (lv_at hl 4 rfl) ?_
            obtain ⟨g_16, h⟩ := h
            refine xr_lald (k := x5.toNatClampNeg) hx hb hK hP (xaD j 0) 1 (xq_D hj (by decide)) (xe_D (by decide) (va_up_self _ _ _)) rfl rfl g_16 dX0_findGoers_73 ?_
            refine va_calll (va_runV (As := [.long (s_du v 0 (x5.toNatClampNeg))]) (rest := [.int x5, .ref (ad (xaL 0))]) ⟨hx, hb, C0.2.2.1, hown, hts⟩ (qX0_rankOf l dC dI (xn ns) ad (xc ad ci (va_up st j v) (va_up ln 0 w) sv kv cu) (xT ci) A 3 (s_du v 0 (x5.toNatClampNeg)) _ h) (cwV 1 hts gX0_findGoers_X0_rankOf rfl rfl rfl (by decide +kernel) ⟨Nat.le_of_ble_eq_true rfl, Nat.le_of_ble_eq_true rfl⟩) ⟨xr_blind, xr_recv (r := (RX0, TX0, 1)) hK hP 3 (xq_c (by decide)) xe_G rfl, xr_pre hP hK⟩ rfl rfl hl.1 rfl (lv_room (Nat.le_of_ble_eq_true rfl)) dX0_findGoers_74 ⟨Nat.le_of_ble_eq_true rfl, Nat.le_of_ble_eq_true rfl⟩) hS (fun _ _ h => h) (fun _ h => h) (fun r_17 _ t9 H locs ht hvm h hB _ _ hS => ?_)
            refine W.cs (cells' := 0) (slots' := 0) rfl rfl ?_
            have hP := x_th ht hB
            have hP : va_P (dC, dI) vwCl (xw (xn ns) ad (xc ad ci (va_up st j v) (va_up ln 0 w) sv kv cu)) H := hP
            refine lv_aload_n hx hb dX0_findGoers_77 rfl (lv_at hl 1 rfl) ?_
            refine xr_get (D := (dC, dI)) (C := RX4) (T := TX4) (N := 8) (v := .ref (ad (xaD0 j))) hx hb hts wX0_findGoers_c4 hown hK hP (xaS j) (xq_S hj) (xe_S (va_up_self _ _ _)) rfl 6 (by decide) wX0_findGoers_f59 rfl rfl dX0_findGoers_78 ?_
            refine lv_bipush (v := (8 : Int32)) hx hb dX0_findGoers_81 (by decide) ?_
            refine xr_aald (k := 8) (b := ad (xaD j 8)) hx hb hK hP (xaD0 j) 4 (xq_D0 hj) xe_D0 rfl rfl rfl (x_in _ _ (by decide)) rfl dX0_findGoers_83 ?_
            refine lv_iload hx hb dX0_findGoers_84 (lv_at hl 4 rfl) ?_
            obtain ⟨g_18, h⟩ := h
            refine xr_lald (k := x5.toNatClampNeg) hx hb hK hP (xaD j 8) 1 (xq_D hj (by decide)) (xe_D (by decide) (va_up_self _ _ _)) rfl rfl g_18 dX0_findGoers_86 ?_
            refine va_callv (va_runV (As := [.int x5, .long r_17, .long (s_du v 8 (x5.toNatClampNeg))]) (rest := []) ⟨hx, hb, C0.2.2.1, hown, hts⟩ (qX2_add l dC dI ad ci A ns hAD (va_up st j v) ln w sv kv cu 0 (by decide) x5 r_17 (s_du v 8 (x5.toNatClampNeg)) _ h) (cwV 3 hts gX0_findGoers_X2_add rfl rfl rfl (by decide +kernel) ⟨Nat.le_of_ble_eq_true rfl, Nat.le_of_ble_eq_true rfl⟩) ⟨xr_blind, xr_recv (r := (RX2, TX2, 4)) hK hP (xaL 0) (xq_L (by decide)) (xe_L (by decide) (va_up_self _ _ _)) rfl, xr_pre hP hK⟩ rfl rfl hl.1 rfl (lv_room (Nat.le_of_ble_eq_true rfl)) dX0_findGoers_87 ⟨Nat.le_of_ble_eq_true rfl, Nat.le_of_ble_eq_true rfl⟩) hS (fun _ _ h => h) (fun _ h => h) (fun w_19 t9 H locs ht hvm h hB _ _ hS => ?_)
            refine W.cs (cells' := 0) (slots' := 0) rfl rfl ?_
            have hP := x_th ht hB
            have hP : va_P (dC, dI) vwCl (xw (xn ns) ad (xc ad ci (va_up st j v) (va_up ln 0 w_19) sv kv cu)) H := hP
            obtain ⟨x5_20, ex5_20⟩ : ∃ z : Int32, z = x5 + 1 := ⟨_, rfl⟩
            have h := h x5_20 ex5_20
            refine lv_iinc (v := x5_20) (lv' := [(5, .int x5_20), (0, .ref (ad 3)), (1, .ref (ad (xaS j))), (2, .long x2), (4, .int x4)]) hx hb dX0_findGoers_90 hl (k := 4) rfl (by rw [ex5_20]; rfl) (by decide) rfl (fun ls hl => ?_)
            refine lv_goto (tgt := 19) hx hb dX0_findGoers_93 (by decide) ?_
            exact ih x5_20 w_19 _ _ _ h hP hS (lv_sub hl [1, 2, 3, 4, 0] rfl)
def PX0_findGoers  (v : StV) (w : LnV) (x2 : Int64) (post : LnV → Prop) : Prop :=
  (PX0_isFast v x2 (fun (r_1 : Int32) => ∀ w_2 : LnV, w_2 = l_wsz w (0 : Int32) → (∃ n_21 : Nat, LX0_findGoers_19  v x2 r_1  post n_21 (0 : Int32) w_2)))
set_option maxHeartbeats 4000000 in
set_option maxRecDepth 100000 in
theorem qX0_findGoers (l : Launch) (dC : Nat → ClassId) (dI : Nat → Nat → Nat) (ad : Nat → Nat) (ci : Nat → ClassId) (A : Nat → Prop) (ns : Nat) (hAD : xw_D (xn ns) ad A) (st : Nat → StV) (v : StV) (ln : Nat → LnV) (w : LnV) (sv : SvV) (kv : KvV) (cu : Nat) (j : Nat) (hj : j < ns) (x2 : Int64) (post : LnV → Prop) (h : PX0_findGoers v w x2 post) : Met l yX0_findGoers wsX0_findGoers rmX0_findGoers (va_Pc [.ref (ad 3), .ref (ad (xaS j)), .long x2] (fun U => va_P (dC, dI) vwCl (xw (xn ns) ad (xc ad ci (va_up st j v) (va_up ln 0 w) sv kv cu)) U.heap ∧ va_K (dC, dI) vwCl (xT ci) U)) (va_Qv (fun u : LnV => post u) (fun u t => va_P (dC, dI) vwCl (xw (xn ns) ad (xc ad ci (va_up st j v) (va_up ln 0 u) sv kv cu)) t.heap) A) 0 0 A := by
  refine Met.ofW (cc := cX0_findGoers) (maxL := 6) (ret := none) (by decide) rfl ?_
  intro p e s m args below meth c s₁ B hml hv
  obtain ⟨eargs, hP, hK⟩ := hv
  have C0 : xC p s m args meth c cX0_findGoers 6 none RX0 wsX0_findGoers (dC, dI) (xT ci) := ⟨B.exec, B.bytes, hml, B.returns, B.notSynchronized, findClass_of_methodNamed B.named, atoms_spec (ws := wsX0_findGoers) B.pre, hK⟩
  obtain ⟨hx, hb, -, hr, hlocks, hown, hts, -⟩ := id C0
  have hS : va_S A s.heap s.heap [] := va_S.rf
  have hl := lv_entry ([.ref (ad 3), .ref (ad (xaS j)), .long x2]) (n := 6) (Nat.le_of_ble_eq_true rfl)
  have ef : entryFrame m args 6 = entryFrame m ([.ref (ad 3), .ref (ad (xaS j)), .long x2] : List Value).toArray 6 := by rw [eargs]
  rw [ef, lg_entry_eq]
  generalize (lg_sl ([.ref (ad 3), .ref (ad (xaS j)), .long x2]) ++ List.replicate (6 - (lg_sl ([.ref (ad 3), .ref (ad (xaS j)), .long x2])).length) Slot.unset).toArray = ls at hl ⊢
  have hl : lv_has ls 6 [(0, .ref (ad 3)), (1, .ref (ad (xaS j))), (2, .long x2)] := hl
  have hP : va_P (dC, dI) vwCl (xw (xn ns) ad (xc ad ci (va_up st j v) (va_up ln 0 w) sv kv cu)) s.heap := hP
  unfold PX0_findGoers at h
  refine lv_aload_n hx hb dX0_findGoers_0 rfl (lv_at hl 0 rfl) ?_
  refine lv_aload_n hx hb dX0_findGoers_1 rfl (lv_at hl 1 rfl) ?_
  refine lv_lload_n hx hb dX0_findGoers_2 rfl (lv_at hl 2 rfl) ?_
  refine va_calli (va_runV (As := [.ref (ad (xaS j)), .long x2]) (rest := []) ⟨hx, hb, C0.2.2.1, hown, hts⟩ (qX0_isFast l dC dI ad ci A ns hAD st v ln w sv kv cu j hj x2 _ h) (cwV 2 hts gX0_findGoers_X0_isFast rfl rfl rfl (by decide +kernel) ⟨Nat.le_of_ble_eq_true rfl, Nat.le_of_ble_eq_true rfl⟩) ⟨xr_blind, xr_recv (r := (RX0, TX0, 1)) hK hP 3 (xq_c (by decide)) xe_G rfl, xr_pre hP hK⟩ rfl rfl hl.1 rfl (lv_room (Nat.le_of_ble_eq_true rfl)) dX0_findGoers_3 ⟨Nat.le_of_ble_eq_true rfl, Nat.le_of_ble_eq_true rfl⟩) hS (fun _ _ h => h) (fun _ h => h) (fun r_1 _ t9 H locs ht hvm h hB _ _ hS => ?_)
  refine W.cs (cells' := 0) (slots' := 0) rfl rfl ?_
  have hP := x_th ht hB
  have hP : va_P (dC, dI) vwCl (xw (xn ns) ad (xc ad ci (va_up st j v) (va_up ln 0 w) sv kv cu)) H := hP
  refine lv_istore (lv' := [(4, .int r_1), (0, .ref (ad 3)), (1, .ref (ad (xaS j))), (2, .long x2)]) hx hb dX0_findGoers_6 hl (by decide) rfl (fun ls hl => ?_)
  refine lv_aload_n hx hb dX0_findGoers_8 rfl (lv_at hl 1 rfl) ?_
  refine xr_get (D := (dC, dI)) (C := RX0) (T := TX0) (N := 1) (v := .ref (ad (xaL 0))) hx hb hts wX0_findGoers_c0 hown hK hP 3 (xq_c (by decide)) xe_G rfl 0 (by decide) wX0_findGoers_f12 rfl rfl dX0_findGoers_9 ?_
  refine lv_iconst (v := (0 : Int32)) hx hb dX0_findGoers_12 (by decide) ?_
  obtain ⟨w_2, ew_2⟩ : ∃ z : LnV, z = l_wsz w (0 : Int32) := ⟨_, rfl⟩
  have h := h w_2 ew_2
  refine xr_put (D := (dC, dI)) (C := RX2) (T := TX2) (N := 4) (ty := .int) (v := .int (0 : Int32)) (g := (xc ad ci (va_up st j v) (va_up ln 0 w_2) sv kv cu)) hx hb hts wX0_findGoers_c2 tyX2 tyX2_ok nmX2 hown hK hP hAD hS (xaL 0) (xq_L (by decide)) (xe_L (by decide) (va_up_self _ _ _)) rfl 0 (by decide) wX0_findGoers_f41 rfl rfl (by decide +kernel) rfl rfl (Nat.le_of_ble_eq_true rfl) dX0_findGoers_13 (xg_lsz (by decide) (va_up_self _ _ _) (by rw [ew_2]; exact bx_uu _ _ _ _)) (fun H locs hP hS => ?_)
  refine lv_iconst (v := (0 : Int32)) hx hb dX0_findGoers_16 (by decide) ?_
  refine lv_istore (lv' := [(5, .int (0 : Int32)), (4, .int r_1), (0, .ref (ad 3)), (1, .ref (ad (xaS j))), (2, .long x2)]) hx hb dX0_findGoers_17 hl (by decide) rfl (fun ls hl => ?_)
  obtain ⟨n_21, h⟩ := h
  exact kX0_findGoers_19 l dC dI ad ci A ns hAD st v ln sv kv cu j hj  x2 r_1  post C0  n_21 (0 : Int32) w_2 _ _ _ h hP hS (lv_sub hl [2, 3, 4, 1, 0] rfl)
abbrev rmX0_goesAgain : Room := { frames := 0, cells := 0, slots := 0, locals := 0 }
theorem wX0_goesAgain_k32 : Cond.constantLong RX0 32 (-2000000005) ∈ wsX0_goesAgain := by decide +kernel
theorem wX0_goesAgain_k110 : Cond.constantLong RX0 110 (1125899906842624) ∈ wsX0_goesAgain := by decide +kernel
theorem wX0_goesAgain_c4 : ∀ w ∈ u_ws RX4 TX4 8, w ∈ wsX0_goesAgain := by decide +kernel
theorem wX0_goesAgain_f52 : Cond.fieldLink RX0 52 "DueWheels$State" "time" "J" ∈ wsX0_goesAgain := by decide +kernel
theorem wX0_goesAgain_f59 : Cond.fieldLink RX0 59 "DueWheels$State" "dues" "[[J" ∈ wsX0_goesAgain := by decide +kernel
def PX0_goesAgain  (v : StV) (x2 : Int32) (post : Int32 → Prop) : Prop :=
  (vp_in x2 200 ∧ ∀ x3_2 : Int64, x3_2 = (s_du v 4 (x2.toNatClampNeg)) → ((x3_2 = (-2000000005 : Int64) → post (0 : Int32)) ∧ (¬ x3_2 = (-2000000005 : Int64) → (vp_in x2 200 ∧ (((s_du v 5 (x2.toNatClampNeg)) = (1 : Int64) → post (0 : Int32)) ∧ (¬ (s_du v 5 (x2.toNatClampNeg)) = (1 : Int64) → (((1125899906842624 : Int64) < ((s_tm v) + x3_2) → post (0 : Int32)) ∧ (¬ (1125899906842624 : Int64) < ((s_tm v) + x3_2) → post (1 : Int32)))))))))
set_option maxHeartbeats 4000000 in
set_option maxRecDepth 100000 in
theorem qX0_goesAgain (l : Launch) (dC : Nat → ClassId) (dI : Nat → Nat → Nat) (ad : Nat → Nat) (ci : Nat → ClassId) (A : Nat → Prop) (ns : Nat) (hAD : xw_D (xn ns) ad A) (st : Nat → StV) (v : StV) (ln : Nat → LnV) (w : LnV) (sv : SvV) (kv : KvV) (cu : Nat) (j : Nat) (hj : j < ns) (x2 : Int32) (post : Int32 → Prop) (h : PX0_goesAgain v x2 post) : Met l yX0_goesAgain wsX0_goesAgain rmX0_goesAgain (va_Pc [.ref (ad 3), .ref (ad (xaS j)), .int x2] (fun U => va_P (dC, dI) vwCl (xw (xn ns) ad (xc ad ci (va_up st j v) (va_up ln 0 w) sv kv cu)) U.heap ∧ va_K (dC, dI) vwCl (xT ci) U)) (va_Qi (fun r9 (u : Unit) => post r9 ) (fun u t => va_P (dC, dI) vwCl (xw (xn ns) ad (xc ad ci (va_up st j v) (va_up ln 0 w) sv kv cu)) t.heap) A) 0 0 A := by
  refine Met.ofW (cc := cX0_goesAgain) (maxL := 5) (ret := (some .boolean)) (by decide) rfl ?_
  intro p e s m args below meth c s₁ B hml hv
  obtain ⟨eargs, hP, hK⟩ := hv
  have C0 : xC p s m args meth c cX0_goesAgain 5 (some .boolean) RX0 wsX0_goesAgain (dC, dI) (xT ci) := ⟨B.exec, B.bytes, hml, B.returns, B.notSynchronized, findClass_of_methodNamed B.named, atoms_spec (ws := wsX0_goesAgain) B.pre, hK⟩
  obtain ⟨hx, hb, -, hr, hlocks, hown, hts, -⟩ := id C0
  have hS : va_S A s.heap s.heap [] := va_S.rf
  have hl := lv_entry ([.ref (ad 3), .ref (ad (xaS j)), .int x2]) (n := 5) (Nat.le_of_ble_eq_true rfl)
  have ef : entryFrame m args 5 = entryFrame m ([.ref (ad 3), .ref (ad (xaS j)), .int x2] : List Value).toArray 5 := by rw [eargs]
  rw [ef, lg_entry_eq]
  generalize (lg_sl ([.ref (ad 3), .ref (ad (xaS j)), .int x2]) ++ List.replicate (5 - (lg_sl ([.ref (ad 3), .ref (ad (xaS j)), .int x2])).length) Slot.unset).toArray = ls at hl ⊢
  have hl : lv_has ls 5 [(0, .ref (ad 3)), (1, .ref (ad (xaS j))), (2, .int x2)] := hl
  have hP : va_P (dC, dI) vwCl (xw (xn ns) ad (xc ad ci (va_up st j v) (va_up ln 0 w) sv kv cu)) s.heap := hP
  unfold PX0_goesAgain at h
  refine lv_aload_n hx hb dX0_goesAgain_0 rfl (lv_at hl 1 rfl) ?_
  refine xr_get (D := (dC, dI)) (C := RX4) (T := TX4) (N := 8) (v := .ref (ad (xaD0 j))) hx hb hts wX0_goesAgain_c4 hown hK hP (xaS j) (xq_S hj) (xe_S (va_up_self _ _ _)) rfl 6 (by decide) wX0_goesAgain_f59 rfl rfl dX0_goesAgain_1 ?_
  refine lv_iconst (v := (4 : Int32)) hx hb dX0_goesAgain_4 (by decide) ?_
  refine xr_aald (k := 4) (b := ad (xaD j 4)) hx hb hK hP (xaD0 j) 4 (xq_D0 hj) xe_D0 rfl rfl rfl (x_in _ _ (by decide)) rfl dX0_goesAgain_5 ?_
  refine lv_iload_n hx hb dX0_goesAgain_6 rfl (lv_at hl 2 rfl) ?_
  obtain ⟨g_1, h⟩ := h
  refine xr_lald (k := x2.toNatClampNeg) hx hb hK hP (xaD j 4) 1 (xq_D hj (by decide)) (xe_D (by decide) (va_up_self _ _ _)) rfl rfl g_1 dX0_goesAgain_7 ?_
  refine lv_topl (fun x3_2 ex3_2 => ?_)
  have h := h x3_2 ex3_2
  refine lv_lstore_n (lv' := [(3, .long x3_2), (0, .ref (ad 3)), (1, .ref (ad (xaS j))), (2, .int x2)]) hx hb dX0_goesAgain_8 rfl hl (by decide) rfl (fun ls hl => ?_)
  refine lv_lload_n hx hb dX0_goesAgain_9 rfl (lv_at hl 0 rfl) ?_
  refine lv_ldc2 (v := (-2000000005 : Int64)) hx hb hown (hts _ wX0_goesAgain_k32) dX0_goesAgain_10 ?_
  refine xr_if_lcmp_eq (tgt := 47) hx hb dX0_goesAgain_13 dX0_goesAgain_14 (by decide) (fun c_3 => ?_) (fun c_3 => ?_)
  · have h := h.1 c_3
    refine lv_iconst (v := (0 : Int32)) hx hb dX0_goesAgain_47 (by decide) ?_
    exact W.zret (v := (0 : Int32)) (ty := .boolean) hx hb hr (by decide) (fun t ht hW => ⟨⟨(0 : Int32), (), rfl, h, x_ht ht hP⟩, hS.F ht⟩) hS.2.2 dX0_goesAgain_48
  · have h := h.2 c_3
    refine lv_aload_n hx hb dX0_goesAgain_17 rfl (lv_at hl 2 rfl) ?_
    refine xr_get (D := (dC, dI)) (C := RX4) (T := TX4) (N := 8) (v := .ref (ad (xaD0 j))) hx hb hts wX0_goesAgain_c4 hown hK hP (xaS j) (xq_S hj) (xe_S (va_up_self _ _ _)) rfl 6 (by decide) wX0_goesAgain_f59 rfl rfl dX0_goesAgain_18 ?_
    refine lv_iconst (v := (5 : Int32)) hx hb dX0_goesAgain_21 (by decide) ?_
    refine xr_aald (k := 5) (b := ad (xaD j 5)) hx hb hK hP (xaD0 j) 4 (xq_D0 hj) xe_D0 rfl rfl rfl (x_in _ _ (by decide)) rfl dX0_goesAgain_22 ?_
    refine lv_iload_n hx hb dX0_goesAgain_23 rfl (lv_at hl 3 rfl) ?_
    obtain ⟨g_4, h⟩ := h
    refine xr_lald (k := x2.toNatClampNeg) hx hb hK hP (xaD j 5) 1 (xq_D hj (by decide)) (xe_D (by decide) (va_up_self _ _ _)) rfl rfl g_4 dX0_goesAgain_24 ?_
    refine lv_lconst (v := (1 : Int64)) hx hb dX0_goesAgain_25 (by decide) ?_
    refine xr_if_lcmp_eq (tgt := 47) hx hb dX0_goesAgain_26 dX0_goesAgain_27 (by decide) (fun c_5 => ?_) (fun c_5 => ?_)
    · have h := h.1 c_5
      refine lv_iconst (v := (0 : Int32)) hx hb dX0_goesAgain_47 (by decide) ?_
      exact W.zret (v := (0 : Int32)) (ty := .boolean) hx hb hr (by decide) (fun t ht hW => ⟨⟨(0 : Int32), (), rfl, h, x_ht ht hP⟩, hS.F ht⟩) hS.2.2 dX0_goesAgain_48
    · have h := h.2 c_5
      refine lv_aload_n hx hb dX0_goesAgain_30 rfl (lv_at hl 2 rfl) ?_
      refine xr_get (D := (dC, dI)) (C := RX4) (T := TX4) (N := 8) (v := .long (s_tm v)) hx hb hts wX0_goesAgain_c4 hown hK hP (xaS j) (xq_S hj) (xe_S (va_up_self _ _ _)) rfl 0 (by decide) wX0_goesAgain_f52 rfl rfl dX0_goesAgain_31 ?_
      refine lv_lload_n hx hb dX0_goesAgain_34 rfl (lv_at hl 0 rfl) ?_
      refine lv_ladd hx hb dX0_goesAgain_35 ?_
      refine lv_ldc2 (v := (1125899906842624 : Int64)) hx hb hown (hts _ wX0_goesAgain_k110) dX0_goesAgain_36 ?_
      refine xr_if_lcmp_gt (tgt := 47) hx hb dX0_goesAgain_39 dX0_goesAgain_40 (by decide) (fun c_6 => ?_) (fun c_6 => ?_)
      · have h := h.1 c_6
        refine lv_iconst (v := (0 : Int32)) hx hb dX0_goesAgain_47 (by decide) ?_
        exact W.zret (v := (0 : Int32)) (ty := .boolean) hx hb hr (by decide) (fun t ht hW => ⟨⟨(0 : Int32), (), rfl, h, x_ht ht hP⟩, hS.F ht⟩) hS.2.2 dX0_goesAgain_48
      · have h := h.2 c_6
        refine lv_iconst (v := (1 : Int32)) hx hb dX0_goesAgain_43 (by decide) ?_
        refine lv_goto (tgt := 48) hx hb dX0_goesAgain_44 (by decide) ?_
        exact W.zret (v := (1 : Int32)) (ty := .boolean) hx hb hr (by decide) (fun t ht hW => ⟨⟨(1 : Int32), (), rfl, h, x_ht ht hP⟩, hS.F ht⟩) hS.2.2 dX0_goesAgain_48
abbrev rmX0_setAgain : Room := { frames := 2, cells := 0, slots := 0, locals := 63 }
theorem wX0_setAgain_c4 : ∀ w ∈ u_ws RX4 TX4 8, w ∈ wsX0_setAgain := by decide +kernel
theorem wX0_setAgain_f59 : Cond.fieldLink RX0 59 "DueWheels$State" "dues" "[[J" ∈ wsX0_setAgain := by decide +kernel
theorem wX0_setAgain_f52 : Cond.fieldLink RX0 52 "DueWheels$State" "time" "J" ∈ wsX0_setAgain := by decide +kernel
def PX0_setAgain  (v : StV) (x2 : Int32) (post : StV → Prop) : Prop :=
  (vp_in x2 200 ∧ ∀ x3_2 : Int64, x3_2 = (s_du v 5 (x2.toNatClampNeg)) → ((x3_2 ≤ (0 : Int64) → (vp_in x2 200 ∧ (PX4_setTick v x2 ((s_tm v) + (s_du v 4 (x2.toNatClampNeg))) (fun (v_5 : StV) => post v_5)))) ∧ (¬ x3_2 ≤ (0 : Int64) → (vp_in x2 200 ∧ (∀ v_7 : StV, v_7 = s_wdu v 5 (x2.toNatClampNeg) (x3_2 - (1 : Int64)) → (vp_in x2 200 ∧ (PX4_setTick v_7 x2 ((s_tm v_7) + (s_du v_7 4 (x2.toNatClampNeg))) (fun (v_9 : StV) => post v_9))))))))
set_option maxHeartbeats 4000000 in
set_option maxRecDepth 100000 in
theorem qX0_setAgain (l : Launch) (dC : Nat → ClassId) (dI : Nat → Nat → Nat) (ad : Nat → Nat) (ci : Nat → ClassId) (A : Nat → Prop) (ns : Nat) (hAD : xw_D (xn ns) ad A) (st : Nat → StV) (v : StV) (ln : Nat → LnV) (w : LnV) (sv : SvV) (kv : KvV) (cu : Nat) (j : Nat) (hj : j < ns) (x2 : Int32) (post : StV → Prop) (h : PX0_setAgain v x2 post) : Met l yX0_setAgain wsX0_setAgain rmX0_setAgain (va_Pc [.ref (ad 3), .ref (ad (xaS j)), .int x2] (fun U => va_P (dC, dI) vwCl (xw (xn ns) ad (xc ad ci (va_up st j v) (va_up ln 0 w) sv kv cu)) U.heap ∧ va_K (dC, dI) vwCl (xT ci) U)) (va_Qv (fun u : StV => post u) (fun u t => va_P (dC, dI) vwCl (xw (xn ns) ad (xc ad ci (va_up st j u) (va_up ln 0 w) sv kv cu)) t.heap) A) 0 0 A := by
  refine Met.ofW (cc := cX0_setAgain) (maxL := 5) (ret := none) (by decide) rfl ?_
  intro p e s m args below meth c s₁ B hml hv
  obtain ⟨eargs, hP, hK⟩ := hv
  have C0 : xC p s m args meth c cX0_setAgain 5 none RX0 wsX0_setAgain (dC, dI) (xT ci) := ⟨B.exec, B.bytes, hml, B.returns, B.notSynchronized, findClass_of_methodNamed B.named, atoms_spec (ws := wsX0_setAgain) B.pre, hK⟩
  obtain ⟨hx, hb, -, hr, hlocks, hown, hts, -⟩ := id C0
  have hS : va_S A s.heap s.heap [] := va_S.rf
  have hl := lv_entry ([.ref (ad 3), .ref (ad (xaS j)), .int x2]) (n := 5) (Nat.le_of_ble_eq_true rfl)
  have ef : entryFrame m args 5 = entryFrame m ([.ref (ad 3), .ref (ad (xaS j)), .int x2] : List Value).toArray 5 := by rw [eargs]
  rw [ef, lg_entry_eq]
  generalize (lg_sl ([.ref (ad 3), .ref (ad (xaS j)), .int x2]) ++ List.replicate (5 - (lg_sl ([.ref (ad 3), .ref (ad (xaS j)), .int x2])).length) Slot.unset).toArray = ls at hl ⊢
  have hl : lv_has ls 5 [(0, .ref (ad 3)), (1, .ref (ad (xaS j))), (2, .int x2)] := hl
  have hP : va_P (dC, dI) vwCl (xw (xn ns) ad (xc ad ci (va_up st j v) (va_up ln 0 w) sv kv cu)) s.heap := hP
  unfold PX0_setAgain at h
  refine lv_aload_n hx hb dX0_setAgain_0 rfl (lv_at hl 1 rfl) ?_
  refine xr_get (D := (dC, dI)) (C := RX4) (T := TX4) (N := 8) (v := .ref (ad (xaD0 j))) hx hb hts wX0_setAgain_c4 hown hK hP (xaS j) (xq_S hj) (xe_S (va_up_self _ _ _)) rfl 6 (by decide) wX0_setAgain_f59 rfl rfl dX0_setAgain_1 ?_
  refine lv_iconst (v := (5 : Int32)) hx hb dX0_setAgain_4 (by decide) ?_
  refine xr_aald (k := 5) (b := ad (xaD j 5)) hx hb hK hP (xaD0 j) 4 (xq_D0 hj) xe_D0 rfl rfl rfl (x_in _ _ (by decide)) rfl dX0_setAgain_5 ?_
  refine lv_iload_n hx hb dX0_setAgain_6 rfl (lv_at hl 2 rfl) ?_
  obtain ⟨g_1, h⟩ := h
  refine xr_lald (k := x2.toNatClampNeg) hx hb hK hP (xaD j 5) 1 (xq_D hj (by decide)) (xe_D (by decide) (va_up_self _ _ _)) rfl rfl g_1 dX0_setAgain_7 ?_
  refine lv_topl (fun x3_2 ex3_2 => ?_)
  have h := h x3_2 ex3_2
  refine lv_lstore_n (lv' := [(3, .long x3_2), (0, .ref (ad 3)), (1, .ref (ad (xaS j))), (2, .int x2)]) hx hb dX0_setAgain_8 rfl hl (by decide) rfl (fun ls hl => ?_)
  refine lv_lload_n hx hb dX0_setAgain_9 rfl (lv_at hl 0 rfl) ?_
  refine lv_lconst (v := (0 : Int64)) hx hb dX0_setAgain_10 (by decide) ?_
  refine xr_if_lcmp_le (tgt := 26) hx hb dX0_setAgain_11 dX0_setAgain_12 (by decide) (fun c_3 => ?_) (fun c_3 => ?_)
  · have h := h.1 c_3
    refine lv_aload_n hx hb dX0_setAgain_26 rfl (lv_at hl 2 rfl) ?_
    refine lv_iload_n hx hb dX0_setAgain_27 rfl (lv_at hl 3 rfl) ?_
    refine lv_aload_n hx hb dX0_setAgain_28 rfl (lv_at hl 2 rfl) ?_
    refine xr_get (D := (dC, dI)) (C := RX4) (T := TX4) (N := 8) (v := .long (s_tm v)) hx hb hts wX0_setAgain_c4 hown hK hP (xaS j) (xq_S hj) (xe_S (va_up_self _ _ _)) rfl 0 (by decide) wX0_setAgain_f52 rfl rfl dX0_setAgain_29 ?_
    refine lv_aload_n hx hb dX0_setAgain_32 rfl (lv_at hl 2 rfl) ?_
    refine xr_get (D := (dC, dI)) (C := RX4) (T := TX4) (N := 8) (v := .ref (ad (xaD0 j))) hx hb hts wX0_setAgain_c4 hown hK hP (xaS j) (xq_S hj) (xe_S (va_up_self _ _ _)) rfl 6 (by decide) wX0_setAgain_f59 rfl rfl dX0_setAgain_33 ?_
    refine lv_iconst (v := (4 : Int32)) hx hb dX0_setAgain_36 (by decide) ?_
    refine xr_aald (k := 4) (b := ad (xaD j 4)) hx hb hK hP (xaD0 j) 4 (xq_D0 hj) xe_D0 rfl rfl rfl (x_in _ _ (by decide)) rfl dX0_setAgain_37 ?_
    refine lv_iload_n hx hb dX0_setAgain_38 rfl (lv_at hl 3 rfl) ?_
    obtain ⟨g_4, h⟩ := h
    refine xr_lald (k := x2.toNatClampNeg) hx hb hK hP (xaD j 4) 1 (xq_D hj (by decide)) (xe_D (by decide) (va_up_self _ _ _)) rfl rfl g_4 dX0_setAgain_39 ?_
    refine lv_ladd hx hb dX0_setAgain_40 ?_
    refine va_callv (va_runV (As := [.int x2, .long ((s_tm v) + (s_du v 4 (x2.toNatClampNeg)))]) (rest := []) ⟨hx, hb, C0.2.2.1, hown, hts⟩ (qX4_setTick l dC dI ad ci A ns hAD st v (va_up ln 0 w) sv kv cu j hj x2 ((s_tm v) + (s_du v 4 (x2.toNatClampNeg))) _ h) (cwV 2 hts gX0_setAgain_X4_setTick rfl rfl rfl (by decide +kernel) ⟨Nat.le_of_ble_eq_true rfl, Nat.le_of_ble_eq_true rfl⟩) ⟨xr_blind, xr_recv (r := (RX4, TX4, 8)) hK hP (xaS j) (xq_S hj) (xe_S (va_up_self _ _ _)) rfl, xr_pre hP hK⟩ rfl rfl hl.1 rfl (lv_room (Nat.le_of_ble_eq_true rfl)) dX0_setAgain_41 ⟨Nat.le_of_ble_eq_true rfl, Nat.le_of_ble_eq_true rfl⟩) hS (fun _ _ h => h) (fun _ h => h) (fun v_5 t9 H locs ht hvm h hB _ _ hS => ?_)
    refine W.cs (cells' := 0) (slots' := 0) rfl rfl ?_
    have hP := x_th ht hB
    have hP : va_P (dC, dI) vwCl (xw (xn ns) ad (xc ad ci (va_up st j v_5) (va_up ln 0 w) sv kv cu)) H := hP
    exact W.vret hx hb hr (fun t ht hW => ⟨⟨v_5, rfl, h, x_ht ht hP⟩, hS.F ht⟩) hS.2.2 dX0_setAgain_44
  · have h := h.2 c_3
    refine lv_aload_n hx hb dX0_setAgain_15 rfl (lv_at hl 2 rfl) ?_
    refine xr_get (D := (dC, dI)) (C := RX4) (T := TX4) (N := 8) (v := .ref (ad (xaD0 j))) hx hb hts wX0_setAgain_c4 hown hK hP (xaS j) (xq_S hj) (xe_S (va_up_self _ _ _)) rfl 6 (by decide) wX0_setAgain_f59 rfl rfl dX0_setAgain_16 ?_
    refine lv_iconst (v := (5 : Int32)) hx hb dX0_setAgain_19 (by decide) ?_
    refine xr_aald (k := 5) (b := ad (xaD j 5)) hx hb hK hP (xaD0 j) 4 (xq_D0 hj) xe_D0 rfl rfl rfl (x_in _ _ (by decide)) rfl dX0_setAgain_20 ?_
    refine lv_iload_n hx hb dX0_setAgain_21 rfl (lv_at hl 3 rfl) ?_
    refine lv_lload_n hx hb dX0_setAgain_22 rfl (lv_at hl 0 rfl) ?_
    refine lv_lconst (v := (1 : Int64)) hx hb dX0_setAgain_23 (by decide) ?_
    refine lv_lsub hx hb dX0_setAgain_24 ?_
    obtain ⟨g_6, h⟩ := h
    obtain ⟨v_7, ev_7⟩ : ∃ z : StV, z = s_wdu v 5 (x2.toNatClampNeg) (x3_2 - (1 : Int64)) := ⟨_, rfl⟩
    have h := h v_7 ev_7
    refine xr_last (k := x2.toNatClampNeg) (x := (x3_2 - (1 : Int64))) (g := (xc ad ci (va_up st j v_7) (va_up ln 0 w) sv kv cu)) hx hb hK hP hAD hS (xaD j 5) 1 (xq_D hj (by decide)) (xe_D (by decide) (va_up_self _ _ _)) rfl rfl g_6 dX0_setAgain_25 (xg_du (by decide) (va_up_self _ _ _) (by rw [ev_7]; exact bx_uu _ _ _ _)) (fun H locs hP hS => ?_)
    refine lv_aload_n hx hb dX0_setAgain_26 rfl (lv_at hl 2 rfl) ?_
    refine lv_iload_n hx hb dX0_setAgain_27 rfl (lv_at hl 3 rfl) ?_
    refine lv_aload_n hx hb dX0_setAgain_28 rfl (lv_at hl 2 rfl) ?_
    refine xr_get (D := (dC, dI)) (C := RX4) (T := TX4) (N := 8) (v := .long (s_tm v_7)) hx hb hts wX0_setAgain_c4 hown hK hP (xaS j) (xq_S hj) (xe_S (va_up_self _ _ _)) rfl 0 (by decide) wX0_setAgain_f52 rfl rfl dX0_setAgain_29 ?_
    refine lv_aload_n hx hb dX0_setAgain_32 rfl (lv_at hl 2 rfl) ?_
    refine xr_get (D := (dC, dI)) (C := RX4) (T := TX4) (N := 8) (v := .ref (ad (xaD0 j))) hx hb hts wX0_setAgain_c4 hown hK hP (xaS j) (xq_S hj) (xe_S (va_up_self _ _ _)) rfl 6 (by decide) wX0_setAgain_f59 rfl rfl dX0_setAgain_33 ?_
    refine lv_iconst (v := (4 : Int32)) hx hb dX0_setAgain_36 (by decide) ?_
    refine xr_aald (k := 4) (b := ad (xaD j 4)) hx hb hK hP (xaD0 j) 4 (xq_D0 hj) xe_D0 rfl rfl rfl (x_in _ _ (by decide)) rfl dX0_setAgain_37 ?_
    refine lv_iload_n hx hb dX0_setAgain_38 rfl (lv_at hl 3 rfl) ?_
    obtain ⟨g_8, h⟩ := h
    refine xr_lald (k := x2.toNatClampNeg) hx hb hK hP (xaD j 4) 1 (xq_D hj (by decide)) (xe_D (by decide) (va_up_self _ _ _)) rfl rfl g_8 dX0_setAgain_39 ?_
    refine lv_ladd hx hb dX0_setAgain_40 ?_
    refine va_callv (va_runV (As := [.int x2, .long ((s_tm v_7) + (s_du v_7 4 (x2.toNatClampNeg)))]) (rest := []) ⟨hx, hb, C0.2.2.1, hown, hts⟩ (qX4_setTick l dC dI ad ci A ns hAD st v_7 (va_up ln 0 w) sv kv cu j hj x2 ((s_tm v_7) + (s_du v_7 4 (x2.toNatClampNeg))) _ h) (cwV 2 hts gX0_setAgain_X4_setTick rfl rfl rfl (by decide +kernel) ⟨Nat.le_of_ble_eq_true rfl, Nat.le_of_ble_eq_true rfl⟩) ⟨xr_blind, xr_recv (r := (RX4, TX4, 8)) hK hP (xaS j) (xq_S hj) (xe_S (va_up_self _ _ _)) rfl, xr_pre hP hK⟩ rfl rfl hl.1 rfl (lv_room (Nat.le_of_ble_eq_true rfl)) dX0_setAgain_41 ⟨Nat.le_of_ble_eq_true rfl, Nat.le_of_ble_eq_true rfl⟩) hS (fun _ _ h => h) (fun _ h => h) (fun v_9 t9 H locs ht hvm h hB _ _ hS => ?_)
    refine W.cs (cells' := 0) (slots' := 0) rfl rfl ?_
    have hP := x_th ht hB
    have hP : va_P (dC, dI) vwCl (xw (xn ns) ad (xc ad ci (va_up st j v_9) (va_up ln 0 w) sv kv cu)) H := hP
    exact W.vret hx hb hr (fun t ht hW => ⟨⟨v_9, rfl, h, x_ht ht hP⟩, hS.F ht⟩) hS.2.2 dX0_setAgain_44
abbrev rmX0_letGo : Room := { frames := 3, cells := 0, slots := 0, locals := 87 }
theorem wX0_letGo_c4 : ∀ w ∈ u_ws RX4 TX4 8, w ∈ wsX0_letGo := by decide +kernel
theorem wX0_letGo_f93 : Cond.fieldLink RX0 93 "DueWheels$State" "goings" "J" ∈ wsX0_letGo := by decide +kernel
theorem wX0_letGo_f18 : Cond.fieldLink RX0 18 "DueWheels$State" "rowSize" "I" ∈ wsX0_letGo := by decide +kernel
theorem wX0_letGo_f59 : Cond.fieldLink RX0 59 "DueWheels$State" "dues" "[[J" ∈ wsX0_letGo := by decide +kernel
theorem wX0_letGo_f90 : Cond.fieldLink RX0 90 "DueWheels$State" "row" "[[J" ∈ wsX0_letGo := by decide +kernel
theorem wX0_letGo_f52 : Cond.fieldLink RX0 52 "DueWheels$State" "time" "J" ∈ wsX0_letGo := by decide +kernel
def PX0_letGo  (v : StV) (x2 : Int32) (post : StV → Prop) : Prop :=
  (((s_rs v) < (300 : Int32) → (vp_in (s_rs v) 300 ∧ (∀ v_3 : StV, v_3 = s_wro v 0 ((s_rs v).toNatClampNeg) (x2.toInt64) → (vp_in (s_rs v_3) 300 ∧ (∀ v_5 : StV, v_5 = s_wro v_3 1 ((s_rs v_3).toNatClampNeg) (s_tm v_3) → (vp_in x2 200 ∧ (vp_in (s_rs v_5) 300 ∧ (∀ v_8 : StV, v_8 = s_wro v_5 2 ((s_rs v_5).toNatClampNeg) (s_du v_5 1 (x2.toNatClampNeg)) → ∀ v_9 : StV, v_9 = s_wrs v_8 ((s_rs v_8) + (1 : Int32)) → ∀ v_10 : StV, v_10 = s_wgo v_9 ((s_go v_9) + (1 : Int64)) → (PX4_tellGone v_10 x2 (fun (v_11 : StV) => (PX0_goesAgain v_11 x2 (fun (r_12 : Int32) => ((r_12 = 0 → (PX4_close v_11 x2 (fun (v_14 : StV) => post v_14))) ∧ (¬ r_12 = 0 → (PX0_setAgain v_11 x2 (fun (v_15 : StV) => post v_15)))))))))))))))) ∧ (¬ (s_rs v) < (300 : Int32) → post v))
set_option maxHeartbeats 4000000 in
set_option maxRecDepth 100000 in
theorem qX0_letGo (l : Launch) (dC : Nat → ClassId) (dI : Nat → Nat → Nat) (ad : Nat → Nat) (ci : Nat → ClassId) (A : Nat → Prop) (ns : Nat) (hAD : xw_D (xn ns) ad A) (st : Nat → StV) (v : StV) (ln : Nat → LnV) (w : LnV) (sv : SvV) (kv : KvV) (cu : Nat) (j : Nat) (hj : j < ns) (x2 : Int32) (post : StV → Prop) (h : PX0_letGo v x2 post) : Met l yX0_letGo wsX0_letGo rmX0_letGo (va_Pc [.ref (ad 3), .ref (ad (xaS j)), .int x2] (fun U => va_P (dC, dI) vwCl (xw (xn ns) ad (xc ad ci (va_up st j v) (va_up ln 0 w) sv kv cu)) U.heap ∧ va_K (dC, dI) vwCl (xT ci) U)) (va_Qv (fun u : StV => post u) (fun u t => va_P (dC, dI) vwCl (xw (xn ns) ad (xc ad ci (va_up st j u) (va_up ln 0 w) sv kv cu)) t.heap) A) 0 0 A := by
  refine Met.ofW (cc := cX0_letGo) (maxL := 3) (ret := none) (by decide) rfl ?_
  intro p e s m args below meth c s₁ B hml hv
  obtain ⟨eargs, hP, hK⟩ := hv
  have C0 : xC p s m args meth c cX0_letGo 3 none RX0 wsX0_letGo (dC, dI) (xT ci) := ⟨B.exec, B.bytes, hml, B.returns, B.notSynchronized, findClass_of_methodNamed B.named, atoms_spec (ws := wsX0_letGo) B.pre, hK⟩
  obtain ⟨hx, hb, -, hr, hlocks, hown, hts, -⟩ := id C0
  have hS : va_S A s.heap s.heap [] := va_S.rf
  have hl := lv_entry ([.ref (ad 3), .ref (ad (xaS j)), .int x2]) (n := 3) (Nat.le_of_ble_eq_true rfl)
  have ef : entryFrame m args 3 = entryFrame m ([.ref (ad 3), .ref (ad (xaS j)), .int x2] : List Value).toArray 3 := by rw [eargs]
  rw [ef, lg_entry_eq]
  generalize (lg_sl ([.ref (ad 3), .ref (ad (xaS j)), .int x2]) ++ List.replicate (3 - (lg_sl ([.ref (ad 3), .ref (ad (xaS j)), .int x2])).length) Slot.unset).toArray = ls at hl ⊢
  have hl : lv_has ls 3 [(0, .ref (ad 3)), (1, .ref (ad (xaS j))), (2, .int x2)] := hl
  have hP : va_P (dC, dI) vwCl (xw (xn ns) ad (xc ad ci (va_up st j v) (va_up ln 0 w) sv kv cu)) s.heap := hP
  unfold PX0_letGo at h
  refine lv_aload_n hx hb dX0_letGo_0 rfl (lv_at hl 1 rfl) ?_
  refine xr_get (D := (dC, dI)) (C := RX4) (T := TX4) (N := 8) (v := .int (s_rs v)) hx hb hts wX0_letGo_c4 hown hK hP (xaS j) (xq_S hj) (xe_S (va_up_self _ _ _)) rfl 5 (by decide) wX0_letGo_f18 rfl rfl dX0_letGo_1 ?_
  refine lv_sipush (v := (300 : Int32)) hx hb dX0_letGo_4 (by decide) ?_
  refine lv_icmp_lt (tgt := 11) hx hb dX0_letGo_7 (by decide) (fun c_1 => ?_) (fun c_1 => ?_)
  · have h := h.1 c_1
    refine lv_aload_n hx hb dX0_letGo_11 rfl (lv_at hl 1 rfl) ?_
    refine xr_get (D := (dC, dI)) (C := RX4) (T := TX4) (N := 8) (v := .ref (ad (xaR0 j))) hx hb hts wX0_letGo_c4 hown hK hP (xaS j) (xq_S hj) (xe_S (va_up_self _ _ _)) rfl 7 (by decide) wX0_letGo_f90 rfl rfl dX0_letGo_12 ?_
    refine lv_iconst (v := (0 : Int32)) hx hb dX0_letGo_15 (by decide) ?_
    refine xr_aald (k := 0) (b := ad (xaR j 0)) hx hb hK hP (xaR0 j) 4 (xq_R0 hj) xe_R0 rfl rfl rfl (x_in _ _ (by decide)) rfl dX0_letGo_16 ?_
    refine lv_aload_n hx hb dX0_letGo_17 rfl (lv_at hl 1 rfl) ?_
    refine xr_get (D := (dC, dI)) (C := RX4) (T := TX4) (N := 8) (v := .int (s_rs v)) hx hb hts wX0_letGo_c4 hown hK hP (xaS j) (xq_S hj) (xe_S (va_up_self _ _ _)) rfl 5 (by decide) wX0_letGo_f18 rfl rfl dX0_letGo_18 ?_
    refine lv_iload_n hx hb dX0_letGo_21 rfl (lv_at hl 2 rfl) ?_
    refine lv_i2l hx hb dX0_letGo_22 rfl ?_
    obtain ⟨g_2, h⟩ := h
    obtain ⟨v_3, ev_3⟩ : ∃ z : StV, z = s_wro v 0 ((s_rs v).toNatClampNeg) (x2.toInt64) := ⟨_, rfl⟩
    have h := h v_3 ev_3
    refine xr_last (k := (s_rs v).toNatClampNeg) (x := (x2.toInt64)) (g := (xc ad ci (va_up st j v_3) (va_up ln 0 w) sv kv cu)) hx hb hK hP hAD hS (xaR j 0) 1 (xq_R hj (by decide)) (xe_R (by decide) (va_up_self _ _ _)) rfl rfl g_2 dX0_letGo_23 (xg_ro (by decide) (va_up_self _ _ _) (by rw [ev_3]; exact bx_uu _ _ _ _)) (fun H locs hP hS => ?_)
    refine lv_aload_n hx hb dX0_letGo_24 rfl (lv_at hl 1 rfl) ?_
    refine xr_get (D := (dC, dI)) (C := RX4) (T := TX4) (N := 8) (v := .ref (ad (xaR0 j))) hx hb hts wX0_letGo_c4 hown hK hP (xaS j) (xq_S hj) (xe_S (va_up_self _ _ _)) rfl 7 (by decide) wX0_letGo_f90 rfl rfl dX0_letGo_25 ?_
    refine lv_iconst (v := (1 : Int32)) hx hb dX0_letGo_28 (by decide) ?_
    refine xr_aald (k := 1) (b := ad (xaR j 1)) hx hb hK hP (xaR0 j) 4 (xq_R0 hj) xe_R0 rfl rfl rfl (x_in _ _ (by decide)) rfl dX0_letGo_29 ?_
    refine lv_aload_n hx hb dX0_letGo_30 rfl (lv_at hl 1 rfl) ?_
    refine xr_get (D := (dC, dI)) (C := RX4) (T := TX4) (N := 8) (v := .int (s_rs v_3)) hx hb hts wX0_letGo_c4 hown hK hP (xaS j) (xq_S hj) (xe_S (va_up_self _ _ _)) rfl 5 (by decide) wX0_letGo_f18 rfl rfl dX0_letGo_31 ?_
    refine lv_aload_n hx hb dX0_letGo_34 rfl (lv_at hl 1 rfl) ?_
    refine xr_get (D := (dC, dI)) (C := RX4) (T := TX4) (N := 8) (v := .long (s_tm v_3)) hx hb hts wX0_letGo_c4 hown hK hP (xaS j) (xq_S hj) (xe_S (va_up_self _ _ _)) rfl 0 (by decide) wX0_letGo_f52 rfl rfl dX0_letGo_35 ?_
    obtain ⟨g_4, h⟩ := h
    obtain ⟨v_5, ev_5⟩ : ∃ z : StV, z = s_wro v_3 1 ((s_rs v_3).toNatClampNeg) (s_tm v_3) := ⟨_, rfl⟩
    have h := h v_5 ev_5
    refine xr_last (k := (s_rs v_3).toNatClampNeg) (x := (s_tm v_3)) (g := (xc ad ci (va_up st j v_5) (va_up ln 0 w) sv kv cu)) hx hb hK hP hAD hS (xaR j 1) 1 (xq_R hj (by decide)) (xe_R (by decide) (va_up_self _ _ _)) rfl rfl g_4 dX0_letGo_38 (xg_ro (by decide) (va_up_self _ _ _) (by rw [ev_5]; exact bx_uu _ _ _ _)) (fun H locs hP hS => ?_)
    refine lv_aload_n hx hb dX0_letGo_39 rfl (lv_at hl 1 rfl) ?_
    refine xr_get (D := (dC, dI)) (C := RX4) (T := TX4) (N := 8) (v := .ref (ad (xaR0 j))) hx hb hts wX0_letGo_c4 hown hK hP (xaS j) (xq_S hj) (xe_S (va_up_self _ _ _)) rfl 7 (by decide) wX0_letGo_f90 rfl rfl dX0_letGo_40 ?_
    refine lv_iconst (v := (2 : Int32)) hx hb dX0_letGo_43 (by decide) ?_
    refine xr_aald (k := 2) (b := ad (xaR j 2)) hx hb hK hP (xaR0 j) 4 (xq_R0 hj) xe_R0 rfl rfl rfl (x_in _ _ (by decide)) rfl dX0_letGo_44 ?_
    refine lv_aload_n hx hb dX0_letGo_45 rfl (lv_at hl 1 rfl) ?_
    refine xr_get (D := (dC, dI)) (C := RX4) (T := TX4) (N := 8) (v := .int (s_rs v_5)) hx hb hts wX0_letGo_c4 hown hK hP (xaS j) (xq_S hj) (xe_S (va_up_self _ _ _)) rfl 5 (by decide) wX0_letGo_f18 rfl rfl dX0_letGo_46 ?_
    refine lv_aload_n hx hb dX0_letGo_49 rfl (lv_at hl 1 rfl) ?_
    refine xr_get (D := (dC, dI)) (C := RX4) (T := TX4) (N := 8) (v := .ref (ad (xaD0 j))) hx hb hts wX0_letGo_c4 hown hK hP (xaS j) (xq_S hj) (xe_S (va_up_self _ _ _)) rfl 6 (by decide) wX0_letGo_f59 rfl rfl dX0_letGo_50 ?_
    refine lv_iconst (v := (1 : Int32)) hx hb dX0_letGo_53 (by decide) ?_
    refine xr_aald (k := 1) (b := ad (xaD j 1)) hx hb hK hP (xaD0 j) 4 (xq_D0 hj) xe_D0 rfl rfl rfl (x_in _ _ (by decide)) rfl dX0_letGo_54 ?_
    refine lv_iload_n hx hb dX0_letGo_55 rfl (lv_at hl 2 rfl) ?_
    obtain ⟨g_6, h⟩ := h
    refine xr_lald (k := x2.toNatClampNeg) hx hb hK hP (xaD j 1) 1 (xq_D hj (by decide)) (xe_D (by decide) (va_up_self _ _ _)) rfl rfl g_6 dX0_letGo_56 ?_
    obtain ⟨g_7, h⟩ := h
    obtain ⟨v_8, ev_8⟩ : ∃ z : StV, z = s_wro v_5 2 ((s_rs v_5).toNatClampNeg) (s_du v_5 1 (x2.toNatClampNeg)) := ⟨_, rfl⟩
    have h := h v_8 ev_8
    refine xr_last (k := (s_rs v_5).toNatClampNeg) (x := (s_du v_5 1 (x2.toNatClampNeg))) (g := (xc ad ci (va_up st j v_8) (va_up ln 0 w) sv kv cu)) hx hb hK hP hAD hS (xaR j 2) 1 (xq_R hj (by decide)) (xe_R (by decide) (va_up_self _ _ _)) rfl rfl g_7 dX0_letGo_57 (xg_ro (by decide) (va_up_self _ _ _) (by rw [ev_8]; exact bx_uu _ _ _ _)) (fun H locs hP hS => ?_)
    refine lv_aload_n hx hb dX0_letGo_58 rfl (lv_at hl 1 rfl) ?_
    refine lv_dup hx hb dX0_letGo_59 rfl ?_
    refine xr_get (D := (dC, dI)) (C := RX4) (T := TX4) (N := 8) (v := .int (s_rs v_8)) hx hb hts wX0_letGo_c4 hown hK hP (xaS j) (xq_S hj) (xe_S (va_up_self _ _ _)) rfl 5 (by decide) wX0_letGo_f18 rfl rfl dX0_letGo_60 ?_
    refine lv_iconst (v := (1 : Int32)) hx hb dX0_letGo_63 (by decide) ?_
    refine lv_iadd hx hb dX0_letGo_64 ?_
    obtain ⟨v_9, ev_9⟩ : ∃ z : StV, z = s_wrs v_8 ((s_rs v_8) + (1 : Int32)) := ⟨_, rfl⟩
    have h := h v_9 ev_9
    refine xr_put (D := (dC, dI)) (C := RX4) (T := TX4) (N := 8) (ty := .int) (v := .int ((s_rs v_8) + (1 : Int32))) (g := (xc ad ci (va_up st j v_9) (va_up ln 0 w) sv kv cu)) hx hb hts wX0_letGo_c4 tyX4 tyX4_ok nmX4 hown hK hP hAD hS (xaS j) (xq_S hj) (xe_S (va_up_self _ _ _)) rfl 5 (by decide) wX0_letGo_f18 rfl rfl (by decide +kernel) rfl rfl (Nat.le_of_ble_eq_true rfl) dX0_letGo_65 (xg_rs (va_up_self _ _ _) (by rw [ev_9]; exact bx_uu _ _ _ _)) (fun H locs hP hS => ?_)
    refine lv_aload_n hx hb dX0_letGo_68 rfl (lv_at hl 1 rfl) ?_
    refine lv_dup hx hb dX0_letGo_69 rfl ?_
    refine xr_get (D := (dC, dI)) (C := RX4) (T := TX4) (N := 8) (v := .long (s_go v_9)) hx hb hts wX0_letGo_c4 hown hK hP (xaS j) (xq_S hj) (xe_S (va_up_self _ _ _)) rfl 2 (by decide) wX0_letGo_f93 rfl rfl dX0_letGo_70 ?_
    refine lv_lconst (v := (1 : Int64)) hx hb dX0_letGo_73 (by decide) ?_
    refine lv_ladd hx hb dX0_letGo_74 ?_
    obtain ⟨v_10, ev_10⟩ : ∃ z : StV, z = s_wgo v_9 ((s_go v_9) + (1 : Int64)) := ⟨_, rfl⟩
    have h := h v_10 ev_10
    refine xr_put (D := (dC, dI)) (C := RX4) (T := TX4) (N := 8) (ty := .long) (v := .long ((s_go v_9) + (1 : Int64))) (g := (xc ad ci (va_up st j v_10) (va_up ln 0 w) sv kv cu)) hx hb hts wX0_letGo_c4 tyX4 tyX4_ok nmX4 hown hK hP hAD hS (xaS j) (xq_S hj) (xe_S (va_up_self _ _ _)) rfl 2 (by decide) wX0_letGo_f93 rfl rfl (by decide +kernel) rfl rfl (Nat.le_of_ble_eq_true rfl) dX0_letGo_75 (xg_go (va_up_self _ _ _) (by rw [ev_10]; exact bx_uu _ _ _ _)) (fun H locs hP hS => ?_)
    refine lv_aload_n hx hb dX0_letGo_78 rfl (lv_at hl 1 rfl) ?_
    refine lv_iload_n hx hb dX0_letGo_79 rfl (lv_at hl 2 rfl) ?_
    refine va_callv (va_runV (As := [.int x2]) (rest := []) ⟨hx, hb, C0.2.2.1, hown, hts⟩ (qX4_tellGone l dC dI ad ci A ns hAD st v_10 (va_up ln 0 w) sv kv cu j hj x2 _ h) (cwV 1 hts gX0_letGo_X4_tellGone rfl rfl rfl (by decide +kernel) ⟨Nat.le_of_ble_eq_true rfl, Nat.le_of_ble_eq_true rfl⟩) ⟨xr_blind, xr_recv (r := (RX4, TX4, 8)) hK hP (xaS j) (xq_S hj) (xe_S (va_up_self _ _ _)) rfl, xr_pre hP hK⟩ rfl rfl hl.1 rfl (lv_room (Nat.le_of_ble_eq_true rfl)) dX0_letGo_80 ⟨Nat.le_of_ble_eq_true rfl, Nat.le_of_ble_eq_true rfl⟩) hS (fun _ _ h => h) (fun _ h => h) (fun v_11 t9 H locs ht hvm h hB _ _ hS => ?_)
    refine W.cs (cells' := 0) (slots' := 0) rfl rfl ?_
    have hP := x_th ht hB
    have hP : va_P (dC, dI) vwCl (xw (xn ns) ad (xc ad ci (va_up st j v_11) (va_up ln 0 w) sv kv cu)) H := hP
    refine lv_aload_n hx hb dX0_letGo_83 rfl (lv_at hl 0 rfl) ?_
    refine lv_aload_n hx hb dX0_letGo_84 rfl (lv_at hl 1 rfl) ?_
    refine lv_iload_n hx hb dX0_letGo_85 rfl (lv_at hl 2 rfl) ?_
    refine va_calli (va_runV (As := [.ref (ad (xaS j)), .int x2]) (rest := []) ⟨hx, hb, C0.2.2.1, hown, hts⟩ (qX0_goesAgain l dC dI ad ci A ns hAD st v_11 ln w sv kv cu j hj x2 _ h) (cwV 2 hts gX0_letGo_X0_goesAgain rfl rfl rfl (by decide +kernel) ⟨Nat.le_of_ble_eq_true rfl, Nat.le_of_ble_eq_true rfl⟩) ⟨xr_blind, xr_recv (r := (RX0, TX0, 1)) hK hP 3 (xq_c (by decide)) xe_G rfl, xr_pre hP hK⟩ rfl rfl hl.1 rfl (lv_room (Nat.le_of_ble_eq_true rfl)) dX0_letGo_86 ⟨Nat.le_of_ble_eq_true rfl, Nat.le_of_ble_eq_true rfl⟩) hS (fun _ _ h => h) (fun _ h => h) (fun r_12 _ t9 H locs ht hvm h hB _ _ hS => ?_)
    refine W.cs (cells' := 0) (slots' := 0) rfl rfl ?_
    have hP := x_th ht hB
    have hP : va_P (dC, dI) vwCl (xw (xn ns) ad (xc ad ci (va_up st j v_11) (va_up ln 0 w) sv kv cu)) H := hP
    refine lv_if_eq (tgt := 101) hx hb dX0_letGo_89 (by decide) (fun c_13 => ?_) (fun c_13 => ?_)
    · have h := h.1 c_13
      refine lv_aload_n hx hb dX0_letGo_101 rfl (lv_at hl 1 rfl) ?_
      refine lv_iload_n hx hb dX0_letGo_102 rfl (lv_at hl 2 rfl) ?_
      refine va_callv (va_runV (As := [.int x2]) (rest := []) ⟨hx, hb, C0.2.2.1, hown, hts⟩ (qX4_close l dC dI ad ci A ns hAD st v_11 (va_up ln 0 w) sv kv cu j hj x2 _ h) (cwV 1 hts gX0_letGo_X4_close rfl rfl rfl (by decide +kernel) ⟨Nat.le_of_ble_eq_true rfl, Nat.le_of_ble_eq_true rfl⟩) ⟨xr_blind, xr_recv (r := (RX4, TX4, 8)) hK hP (xaS j) (xq_S hj) (xe_S (va_up_self _ _ _)) rfl, xr_pre hP hK⟩ rfl rfl hl.1 rfl (lv_room (Nat.le_of_ble_eq_true rfl)) dX0_letGo_103 ⟨Nat.le_of_ble_eq_true rfl, Nat.le_of_ble_eq_true rfl⟩) hS (fun _ _ h => h) (fun _ h => h) (fun v_14 t9 H locs ht hvm h hB _ _ hS => ?_)
      refine W.cs (cells' := 0) (slots' := 0) rfl rfl ?_
      have hP := x_th ht hB
      have hP : va_P (dC, dI) vwCl (xw (xn ns) ad (xc ad ci (va_up st j v_14) (va_up ln 0 w) sv kv cu)) H := hP
      exact W.vret hx hb hr (fun t ht hW => ⟨⟨v_14, rfl, h, x_ht ht hP⟩, hS.F ht⟩) hS.2.2 dX0_letGo_106
    · have h := h.2 c_13
      refine lv_aload_n hx hb dX0_letGo_92 rfl (lv_at hl 0 rfl) ?_
      refine lv_aload_n hx hb dX0_letGo_93 rfl (lv_at hl 1 rfl) ?_
      refine lv_iload_n hx hb dX0_letGo_94 rfl (lv_at hl 2 rfl) ?_
      refine va_callv (va_runV (As := [.ref (ad (xaS j)), .int x2]) (rest := []) ⟨hx, hb, C0.2.2.1, hown, hts⟩ (qX0_setAgain l dC dI ad ci A ns hAD st v_11 ln w sv kv cu j hj x2 _ h) (cwV 2 hts gX0_letGo_X0_setAgain rfl rfl rfl (by decide +kernel) ⟨Nat.le_of_ble_eq_true rfl, Nat.le_of_ble_eq_true rfl⟩) ⟨xr_blind, xr_recv (r := (RX0, TX0, 1)) hK hP 3 (xq_c (by decide)) xe_G rfl, xr_pre hP hK⟩ rfl rfl hl.1 rfl (lv_room (Nat.le_of_ble_eq_true rfl)) dX0_letGo_95 ⟨Nat.le_of_ble_eq_true rfl, Nat.le_of_ble_eq_true rfl⟩) hS (fun _ _ h => h) (fun _ h => h) (fun v_15 t9 H locs ht hvm h hB _ _ hS => ?_)
      refine W.cs (cells' := 0) (slots' := 0) rfl rfl ?_
      have hP := x_th ht hB
      have hP : va_P (dC, dI) vwCl (xw (xn ns) ad (xc ad ci (va_up st j v_15) (va_up ln 0 w) sv kv cu)) H := hP
      refine lv_goto (tgt := 106) hx hb dX0_letGo_98 (by decide) ?_
      exact W.vret hx hb hr (fun t ht hW => ⟨⟨v_15, rfl, h, x_ht ht hP⟩, hS.F ht⟩) hS.2.2 dX0_letGo_106
  · have h := h.2 c_1
    exact W.vret hx hb hr (fun t ht hW => ⟨⟨v, rfl, h, x_ht ht hP⟩, hS.F ht⟩) hS.2.2 dX0_letGo_10
abbrev rmX0_passTick : Room := { frames := 4, cells := 0, slots := 0, locals := 109 }
theorem wX0_passTick_k32 : Cond.constantLong RX0 32 (-2000000005) ∈ wsX0_passTick := by decide +kernel
theorem wX0_passTick_c2 : ∀ w ∈ u_ws RX2 TX2 4, w ∈ wsX0_passTick := by decide +kernel
theorem wX0_passTick_f44 : Cond.fieldLink RX0 44 "DueWheels$Line" "dues" "[I" ∈ wsX0_passTick := by decide +kernel
theorem wX0_passTick_c0 : ∀ w ∈ u_ws RX0 TX0 1, w ∈ wsX0_passTick := by decide +kernel
theorem wX0_passTick_f12 : Cond.fieldLink RX0 12 "DueWheels$Going" "line" "LDueWheels$Line;" ∈ wsX0_passTick := by decide +kernel
theorem wX0_passTick_f41 : Cond.fieldLink RX0 41 "DueWheels$Line" "size" "I" ∈ wsX0_passTick := by decide +kernel
theorem wX0_passTick_c4 : ∀ w ∈ u_ws RX4 TX4 8, w ∈ wsX0_passTick := by decide +kernel
theorem wX0_passTick_f18 : Cond.fieldLink RX0 18 "DueWheels$State" "rowSize" "I" ∈ wsX0_passTick := by decide +kernel
def LX0_passTick_76  (w : LnV)   (post : Int32 → StV → LnV → Prop) : Nat → Int32 → StV → Prop
  | 0, _, _ => False
  | n + 1, x6, v => (((l_sz w) ≤ x6 → post (1 : Int32) v w) ∧ (¬ (l_sz w) ≤ x6 → (vp_in x6 200 ∧ (PX0_letGo v (l_du w (x6.toNatClampNeg)) (fun (v_10 : StV) => ∀ x6_11 : Int32, x6_11 = x6 + 1 → LX0_passTick_76  w post n x6_11 v_10)))))
set_option maxHeartbeats 4000000 in
set_option maxRecDepth 100000 in
theorem kX0_passTick_76 {p : Program} {e : Env} {s : State} {m : MethodId} {args : Array Value} {below : List Frame} {meth : Method} {c : Code} (l : Launch) (dC : Nat → ClassId) (dI : Nat → Nat → Nat) (ad : Nat → Nat) (ci : Nat → ClassId) (A : Nat → Prop) (ns : Nat) (hAD : xw_D (xn ns) ad A) (st : Nat → StV) (ln : Nat → LnV) (w : LnV) (sv : SvV) (kv : KvV) (cu : Nat) (j : Nat) (hj : j < ns)   (post : Int32 → StV → LnV → Prop) (C0 : xC p s m args meth c cX0_passTick 7 (some .boolean) RX0 wsX0_passTick (dC, dI) (xT ci)) : ∀ (n : Nat) (x6 : Int32) (v : StV) (H : Heap) (locs : List Loc) (ls : Array Slot), LX0_passTick_76  w post n x6 v → va_P (dC, dI) vwCl (xw (xn ns) ad (xc ad ci (va_up st j v) (va_up ln 0 w) sv kv cu)) H → va_S A s.heap H locs → lv_has ls 7 [(0, .ref (ad 3)), (1, .ref (ad (xaS j))), (6, .int x6)] → W p l e rmX0_passTick s m args below meth c H locs 0 0 (MQ below (va_Qi (fun r9 (u : StV × LnV) => post r9 (u.1) (u.2)) (fun u t => va_P (dC, dI) vwCl (xw (xn ns) ad (xc ad ci (va_up st j (u.1)) (va_up ln 0 (u.2)) sv kv cu)) t.heap) A) args s 0 0 A) (F0 m 76 ls []) := by
  obtain ⟨hx, hb, -, hr, hlocks, hown, hts, hK⟩ := id C0
  intro n
  induction n with
  | zero =>
    intro x6 v H locs ls h
    exact False.elim h
  | succ n ih =>
    intro x6 v H locs ls h hP hS hl
    rw [LX0_passTick_76] at h
    refine lv_iload hx hb dX0_passTick_76 (lv_at hl 2 rfl) ?_
    refine lv_aload_n hx hb dX0_passTick_78 rfl (lv_at hl 0 rfl) ?_
    refine xr_get (D := (dC, dI)) (C := RX0) (T := TX0) (N := 1) (v := .ref (ad (xaL 0))) hx hb hts wX0_passTick_c0 hown hK hP 3 (xq_c (by decide)) xe_G rfl 0 (by decide) wX0_passTick_f12 rfl rfl dX0_passTick_79 ?_
    refine xr_get (D := (dC, dI)) (C := RX2) (T := TX2) (N := 4) (v := .int (l_sz w)) hx hb hts wX0_passTick_c2 hown hK hP (xaL 0) (xq_L (by decide)) (xe_L (by decide) (va_up_self _ _ _)) rfl 0 (by decide) wX0_passTick_f41 rfl rfl dX0_passTick_82 ?_
    refine lv_icmp_ge (tgt := 109) hx hb dX0_passTick_85 (by decide) (fun c_8 => ?_) (fun c_8 => ?_)
    · have h := h.1 c_8
      refine lv_iconst (v := (1 : Int32)) hx hb dX0_passTick_109 (by decide) ?_
      exact W.zret (v := (1 : Int32)) (ty := .boolean) hx hb hr (by decide) (fun t ht hW => ⟨⟨(1 : Int32), (v, w), rfl, h, x_ht ht hP⟩, hS.F ht⟩) hS.2.2 dX0_passTick_110
    · have h := h.2 c_8
      refine lv_aload_n hx hb dX0_passTick_88 rfl (lv_at hl 0 rfl) ?_
      refine lv_aload_n hx hb dX0_passTick_89 rfl (lv_at hl 1 rfl) ?_
      refine lv_aload_n hx hb dX0_passTick_90 rfl (lv_at hl 0 rfl) ?_
      refine xr_get (D := (dC, dI)) (C := RX0) (T := TX0) (N := 1) (v := .ref (ad (xaL 0))) hx hb hts wX0_passTick_c0 hown hK hP 3 (xq_c (by decide)) xe_G rfl 0 (by decide) wX0_passTick_f12 rfl rfl dX0_passTick_91 ?_
      refine xr_get (D := (dC, dI)) (C := RX2) (T := TX2) (N := 4) (v := .ref (ad (xaLd 0))) hx hb hts wX0_passTick_c2 hown hK hP (xaL 0) (xq_L (by decide)) (xe_L (by decide) (va_up_self _ _ _)) rfl 1 (by decide) wX0_passTick_f44 rfl rfl dX0_passTick_94 ?_
      refine lv_iload hx hb dX0_passTick_97 (lv_at hl 2 rfl) ?_
      obtain ⟨g_9, h⟩ := h
      refine xr_iald (k := x6.toNatClampNeg) hx hb hK hP (xaLd 0) 0 (xq_Ld (by decide)) (xe_Ld (by decide) (va_up_self _ _ _)) rfl rfl g_9 dX0_passTick_99 ?_
      refine va_callv (va_runV (As := [.ref (ad (xaS j)), .int (l_du w (x6.toNatClampNeg))]) (rest := []) ⟨hx, hb, C0.2.2.1, hown, hts⟩ (qX0_letGo l dC dI ad ci A ns hAD st v ln w sv kv cu j hj (l_du w (x6.toNatClampNeg)) _ h) (cwV 2 hts gX0_passTick_X0_letGo rfl rfl rfl (by decide +kernel) ⟨Nat.le_of_ble_eq_true rfl, Nat.le_of_ble_eq_true rfl⟩) ⟨xr_blind, xr_recv (r := (RX0, TX0, 1)) hK hP 3 (xq_c (by decide)) xe_G rfl, xr_pre hP hK⟩ rfl rfl hl.1 rfl (lv_room (Nat.le_of_ble_eq_true rfl)) dX0_passTick_100 ⟨Nat.le_of_ble_eq_true rfl, Nat.le_of_ble_eq_true rfl⟩) hS (fun _ _ h => h) (fun _ h => h) (fun v_10 t9 H locs ht hvm h hB _ _ hS => ?_)
      refine W.cs (cells' := 0) (slots' := 0) rfl rfl ?_
      have hP := x_th ht hB
      have hP : va_P (dC, dI) vwCl (xw (xn ns) ad (xc ad ci (va_up st j v_10) (va_up ln 0 w) sv kv cu)) H := hP
      obtain ⟨x6_11, ex6_11⟩ : ∃ z : Int32, z = x6 + 1 := ⟨_, rfl⟩
      have h := h x6_11 ex6_11
      refine lv_iinc (v := x6_11) (lv' := [(6, .int x6_11), (0, .ref (ad 3)), (1, .ref (ad (xaS j)))]) hx hb dX0_passTick_103 hl (k := 2) rfl (by rw [ex6_11]; rfl) (by decide) rfl (fun ls hl => ?_)
      refine lv_goto (tgt := 76) hx hb dX0_passTick_106 (by decide) ?_
      exact ih x6_11 v_10 _ _ _ h hP hS (lv_sub hl [1, 2, 0] rfl)
def PX0_passTick  (v : StV) (w : LnV) (x2 : Int64) (post : Int32 → StV → LnV → Prop) : Prop :=
  (PX4_leastTick v (fun (r_1 : Int64) => ((r_1 = (-2000000005 : Int64) → (PX0_moveTime v x2 (fun (v_3 : StV) => post (0 : Int32) v_3 w))) ∧ (¬ r_1 = (-2000000005 : Int64) → ((r_1 ≤ x2 → (PX0_findGoers v w r_1 (fun (w_5 : LnV) => ((((s_rs v) + (l_sz w_5)) ≤ (300 : Int32) → (PX0_moveTime v r_1 (fun (v_7 : StV) => (∃ n_12 : Nat, LX0_passTick_76  w_5  post n_12 (0 : Int32) v_7)))) ∧ (¬ ((s_rs v) + (l_sz w_5)) ≤ (300 : Int32) → (PX0_moveTime v (r_1 - (1 : Int64)) (fun (v_13 : StV) => post (0 : Int32) v_13 w_5))))))) ∧ (¬ r_1 ≤ x2 → (PX0_moveTime v x2 (fun (v_14 : StV) => post (0 : Int32) v_14 w))))))))
set_option maxHeartbeats 4000000 in
set_option maxRecDepth 100000 in
theorem qX0_passTick (l : Launch) (dC : Nat → ClassId) (dI : Nat → Nat → Nat) (ad : Nat → Nat) (ci : Nat → ClassId) (A : Nat → Prop) (ns : Nat) (hAD : xw_D (xn ns) ad A) (st : Nat → StV) (v : StV) (ln : Nat → LnV) (w : LnV) (sv : SvV) (kv : KvV) (cu : Nat) (j : Nat) (hj : j < ns) (x2 : Int64) (post : Int32 → StV → LnV → Prop) (h : PX0_passTick v w x2 post) : Met l yX0_passTick wsX0_passTick rmX0_passTick (va_Pc [.ref (ad 3), .ref (ad (xaS j)), .long x2] (fun U => va_P (dC, dI) vwCl (xw (xn ns) ad (xc ad ci (va_up st j v) (va_up ln 0 w) sv kv cu)) U.heap ∧ va_K (dC, dI) vwCl (xT ci) U)) (va_Qi (fun r9 (u : StV × LnV) => post r9 (u.1) (u.2)) (fun u t => va_P (dC, dI) vwCl (xw (xn ns) ad (xc ad ci (va_up st j (u.1)) (va_up ln 0 (u.2)) sv kv cu)) t.heap) A) 0 0 A := by
  refine Met.ofW (cc := cX0_passTick) (maxL := 7) (ret := (some .boolean)) (by decide) rfl ?_
  intro p e s m args below meth c s₁ B hml hv
  obtain ⟨eargs, hP, hK⟩ := hv
  have C0 : xC p s m args meth c cX0_passTick 7 (some .boolean) RX0 wsX0_passTick (dC, dI) (xT ci) := ⟨B.exec, B.bytes, hml, B.returns, B.notSynchronized, findClass_of_methodNamed B.named, atoms_spec (ws := wsX0_passTick) B.pre, hK⟩
  obtain ⟨hx, hb, -, hr, hlocks, hown, hts, -⟩ := id C0
  have hS : va_S A s.heap s.heap [] := va_S.rf
  have hl := lv_entry ([.ref (ad 3), .ref (ad (xaS j)), .long x2]) (n := 7) (Nat.le_of_ble_eq_true rfl)
  have ef : entryFrame m args 7 = entryFrame m ([.ref (ad 3), .ref (ad (xaS j)), .long x2] : List Value).toArray 7 := by rw [eargs]
  rw [ef, lg_entry_eq]
  generalize (lg_sl ([.ref (ad 3), .ref (ad (xaS j)), .long x2]) ++ List.replicate (7 - (lg_sl ([.ref (ad 3), .ref (ad (xaS j)), .long x2])).length) Slot.unset).toArray = ls at hl ⊢
  have hl : lv_has ls 7 [(0, .ref (ad 3)), (1, .ref (ad (xaS j))), (2, .long x2)] := hl
  have hP : va_P (dC, dI) vwCl (xw (xn ns) ad (xc ad ci (va_up st j v) (va_up ln 0 w) sv kv cu)) s.heap := hP
  unfold PX0_passTick at h
  refine lv_aload_n hx hb dX0_passTick_0 rfl (lv_at hl 1 rfl) ?_
  refine va_calll (va_runV (As := []) (rest := []) ⟨hx, hb, C0.2.2.1, hown, hts⟩ (qX4_leastTick l dC dI ad ci A ns hAD st v (va_up ln 0 w) sv kv cu j hj  _ h) (cwV 0 hts gX0_passTick_X4_leastTick rfl rfl rfl (by decide +kernel) ⟨Nat.le_of_ble_eq_true rfl, Nat.le_of_ble_eq_true rfl⟩) ⟨xr_blind, xr_recv (r := (RX4, TX4, 8)) hK hP (xaS j) (xq_S hj) (xe_S (va_up_self _ _ _)) rfl, xr_pre hP hK⟩ rfl rfl hl.1 rfl (lv_room (Nat.le_of_ble_eq_true rfl)) dX0_passTick_1 ⟨Nat.le_of_ble_eq_true rfl, Nat.le_of_ble_eq_true rfl⟩) hS (fun _ _ h => h) (fun _ h => h) (fun r_1 _ t9 H locs ht hvm h hB _ _ hS => ?_)
  refine W.cs (cells' := 0) (slots' := 0) rfl rfl ?_
  have hP := x_th ht hB
  have hP : va_P (dC, dI) vwCl (xw (xn ns) ad (xc ad ci (va_up st j v) (va_up ln 0 w) sv kv cu)) H := hP
  refine lv_lstore (lv' := [(4, .long r_1), (0, .ref (ad 3)), (1, .ref (ad (xaS j))), (2, .long x2)]) hx hb dX0_passTick_4 hl (by decide) rfl (fun ls hl => ?_)
  refine lv_lload hx hb dX0_passTick_6 (lv_at hl 0 rfl) ?_
  refine lv_ldc2 (v := (-2000000005 : Int64)) hx hb hown (hts _ wX0_passTick_k32) dX0_passTick_8 ?_
  refine xr_if_lcmp_eq (tgt := 22) hx hb dX0_passTick_11 dX0_passTick_12 (by decide) (fun c_2 => ?_) (fun c_2 => ?_)
  · have h := h.1 c_2
    refine lv_aload_n hx hb dX0_passTick_22 rfl (lv_at hl 1 rfl) ?_
    refine lv_aload_n hx hb dX0_passTick_23 rfl (lv_at hl 2 rfl) ?_
    refine lv_lload_n hx hb dX0_passTick_24 rfl (lv_at hl 3 rfl) ?_
    refine va_callv (va_runV (As := [.ref (ad (xaS j)), .long x2]) (rest := []) ⟨hx, hb, C0.2.2.1, hown, hts⟩ (qX0_moveTime l dC dI ad ci A ns hAD st v ln w sv kv cu j hj x2 _ h) (cwV 2 hts gX0_passTick_X0_moveTime rfl rfl rfl (by decide +kernel) ⟨Nat.le_of_ble_eq_true rfl, Nat.le_of_ble_eq_true rfl⟩) ⟨xr_blind, xr_recv (r := (RX0, TX0, 1)) hK hP 3 (xq_c (by decide)) xe_G rfl, xr_pre hP hK⟩ rfl rfl hl.1 rfl (lv_room (Nat.le_of_ble_eq_true rfl)) dX0_passTick_25 ⟨Nat.le_of_ble_eq_true rfl, Nat.le_of_ble_eq_true rfl⟩) hS (fun _ _ h => h) (fun _ h => h) (fun v_3 t9 H locs ht hvm h hB _ _ hS => ?_)
    refine W.cs (cells' := 0) (slots' := 0) rfl rfl ?_
    have hP := x_th ht hB
    have hP : va_P (dC, dI) vwCl (xw (xn ns) ad (xc ad ci (va_up st j v_3) (va_up ln 0 w) sv kv cu)) H := hP
    refine lv_iconst (v := (0 : Int32)) hx hb dX0_passTick_28 (by decide) ?_
    exact W.zret (v := (0 : Int32)) (ty := .boolean) hx hb hr (by decide) (fun t ht hW => ⟨⟨(0 : Int32), (v_3, w), rfl, h, x_ht ht hP⟩, hS.F ht⟩) hS.2.2 dX0_passTick_29
  · have h := h.2 c_2
    refine lv_lload hx hb dX0_passTick_15 (lv_at hl 0 rfl) ?_
    refine lv_lload_n hx hb dX0_passTick_17 rfl (lv_at hl 3 rfl) ?_
    refine xr_if_lcmp_le (tgt := 30) hx hb dX0_passTick_18 dX0_passTick_19 (by decide) (fun c_4 => ?_) (fun c_4 => ?_)
    · have h := h.1 c_4
      refine lv_aload_n hx hb dX0_passTick_30 rfl (lv_at hl 1 rfl) ?_
      refine lv_aload_n hx hb dX0_passTick_31 rfl (lv_at hl 2 rfl) ?_
      refine lv_lload hx hb dX0_passTick_32 (lv_at hl 0 rfl) ?_
      refine va_callv (va_runV (As := [.ref (ad (xaS j)), .long r_1]) (rest := []) ⟨hx, hb, C0.2.2.1, hown, hts⟩ (qX0_findGoers l dC dI ad ci A ns hAD st v ln w sv kv cu j hj r_1 _ h) (cwV 2 hts gX0_passTick_X0_findGoers rfl rfl rfl (by decide +kernel) ⟨Nat.le_of_ble_eq_true rfl, Nat.le_of_ble_eq_true rfl⟩) ⟨xr_blind, xr_recv (r := (RX0, TX0, 1)) hK hP 3 (xq_c (by decide)) xe_G rfl, xr_pre hP hK⟩ rfl rfl hl.1 rfl (lv_room (Nat.le_of_ble_eq_true rfl)) dX0_passTick_34 ⟨Nat.le_of_ble_eq_true rfl, Nat.le_of_ble_eq_true rfl⟩) hS (fun _ _ h => h) (fun _ h => h) (fun w_5 t9 H locs ht hvm h hB _ _ hS => ?_)
      refine W.cs (cells' := 0) (slots' := 0) rfl rfl ?_
      have hP := x_th ht hB
      have hP : va_P (dC, dI) vwCl (xw (xn ns) ad (xc ad ci (va_up st j v) (va_up ln 0 w_5) sv kv cu)) H := hP
      refine lv_aload_n hx hb dX0_passTick_37 rfl (lv_at hl 2 rfl) ?_
      refine xr_get (D := (dC, dI)) (C := RX4) (T := TX4) (N := 8) (v := .int (s_rs v)) hx hb hts wX0_passTick_c4 hown hK hP (xaS j) (xq_S hj) (xe_S (va_up_self _ _ _)) rfl 5 (by decide) wX0_passTick_f18 rfl rfl dX0_passTick_38 ?_
      refine lv_aload_n hx hb dX0_passTick_41 rfl (lv_at hl 1 rfl) ?_
      refine xr_get (D := (dC, dI)) (C := RX0) (T := TX0) (N := 1) (v := .ref (ad (xaL 0))) hx hb hts wX0_passTick_c0 hown hK hP 3 (xq_c (by decide)) xe_G rfl 0 (by decide) wX0_passTick_f12 rfl rfl dX0_passTick_42 ?_
      refine xr_get (D := (dC, dI)) (C := RX2) (T := TX2) (N := 4) (v := .int (l_sz w_5)) hx hb hts wX0_passTick_c2 hown hK hP (xaL 0) (xq_L (by decide)) (xe_L (by decide) (va_up_self _ _ _)) rfl 0 (by decide) wX0_passTick_f41 rfl rfl dX0_passTick_45 ?_
      refine lv_iadd hx hb dX0_passTick_48 ?_
      refine lv_sipush (v := (300 : Int32)) hx hb dX0_passTick_49 (by decide) ?_
      refine lv_icmp_le (tgt := 66) hx hb dX0_passTick_52 (by decide) (fun c_6 => ?_) (fun c_6 => ?_)
      · have h := h.1 c_6
        refine lv_aload_n hx hb dX0_passTick_66 rfl (lv_at hl 1 rfl) ?_
        refine lv_aload_n hx hb dX0_passTick_67 rfl (lv_at hl 2 rfl) ?_
        refine lv_lload hx hb dX0_passTick_68 (lv_at hl 0 rfl) ?_
        refine va_callv (va_runV (As := [.ref (ad (xaS j)), .long r_1]) (rest := []) ⟨hx, hb, C0.2.2.1, hown, hts⟩ (qX0_moveTime l dC dI ad ci A ns hAD st v ln w_5 sv kv cu j hj r_1 _ h) (cwV 2 hts gX0_passTick_X0_moveTime rfl rfl rfl (by decide +kernel) ⟨Nat.le_of_ble_eq_true rfl, Nat.le_of_ble_eq_true rfl⟩) ⟨xr_blind, xr_recv (r := (RX0, TX0, 1)) hK hP 3 (xq_c (by decide)) xe_G rfl, xr_pre hP hK⟩ rfl rfl hl.1 rfl (lv_room (Nat.le_of_ble_eq_true rfl)) dX0_passTick_70 ⟨Nat.le_of_ble_eq_true rfl, Nat.le_of_ble_eq_true rfl⟩) hS (fun _ _ h => h) (fun _ h => h) (fun v_7 t9 H locs ht hvm h hB _ _ hS => ?_)
        refine W.cs (cells' := 0) (slots' := 0) rfl rfl ?_
        have hP := x_th ht hB
        have hP : va_P (dC, dI) vwCl (xw (xn ns) ad (xc ad ci (va_up st j v_7) (va_up ln 0 w_5) sv kv cu)) H := hP
        refine lv_iconst (v := (0 : Int32)) hx hb dX0_passTick_73 (by decide) ?_
        refine lv_istore (lv' := [(6, .int (0 : Int32)), (4, .long r_1), (0, .ref (ad 3)), (1, .ref (ad (xaS j))), (2, .long x2)]) hx hb dX0_passTick_74 hl (by decide) rfl (fun ls hl => ?_)
        obtain ⟨n_12, h⟩ := h
        exact kX0_passTick_76 l dC dI ad ci A ns hAD st ln w_5 sv kv cu j hj    post C0  n_12 (0 : Int32) v_7 _ _ _ h hP hS (lv_sub hl [2, 3, 0] rfl)
      · have h := h.2 c_6
        refine lv_aload_n hx hb dX0_passTick_55 rfl (lv_at hl 1 rfl) ?_
        refine lv_aload_n hx hb dX0_passTick_56 rfl (lv_at hl 2 rfl) ?_
        refine lv_lload hx hb dX0_passTick_57 (lv_at hl 0 rfl) ?_
        refine lv_lconst (v := (1 : Int64)) hx hb dX0_passTick_59 (by decide) ?_
        refine lv_lsub hx hb dX0_passTick_60 ?_
        refine va_callv (va_runV (As := [.ref (ad (xaS j)), .long (r_1 - (1 : Int64))]) (rest := []) ⟨hx, hb, C0.2.2.1, hown, hts⟩ (qX0_moveTime l dC dI ad ci A ns hAD st v ln w_5 sv kv cu j hj (r_1 - (1 : Int64)) _ h) (cwV 2 hts gX0_passTick_X0_moveTime rfl rfl rfl (by decide +kernel) ⟨Nat.le_of_ble_eq_true rfl, Nat.le_of_ble_eq_true rfl⟩) ⟨xr_blind, xr_recv (r := (RX0, TX0, 1)) hK hP 3 (xq_c (by decide)) xe_G rfl, xr_pre hP hK⟩ rfl rfl hl.1 rfl (lv_room (Nat.le_of_ble_eq_true rfl)) dX0_passTick_61 ⟨Nat.le_of_ble_eq_true rfl, Nat.le_of_ble_eq_true rfl⟩) hS (fun _ _ h => h) (fun _ h => h) (fun v_13 t9 H locs ht hvm h hB _ _ hS => ?_)
        refine W.cs (cells' := 0) (slots' := 0) rfl rfl ?_
        have hP := x_th ht hB
        have hP : va_P (dC, dI) vwCl (xw (xn ns) ad (xc ad ci (va_up st j v_13) (va_up ln 0 w_5) sv kv cu)) H := hP
        refine lv_iconst (v := (0 : Int32)) hx hb dX0_passTick_64 (by decide) ?_
        exact W.zret (v := (0 : Int32)) (ty := .boolean) hx hb hr (by decide) (fun t ht hW => ⟨⟨(0 : Int32), (v_13, w_5), rfl, h, x_ht ht hP⟩, hS.F ht⟩) hS.2.2 dX0_passTick_65
    · have h := h.2 c_4
      refine lv_aload_n hx hb dX0_passTick_22 rfl (lv_at hl 1 rfl) ?_
      refine lv_aload_n hx hb dX0_passTick_23 rfl (lv_at hl 2 rfl) ?_
      refine lv_lload_n hx hb dX0_passTick_24 rfl (lv_at hl 3 rfl) ?_
      refine va_callv (va_runV (As := [.ref (ad (xaS j)), .long x2]) (rest := []) ⟨hx, hb, C0.2.2.1, hown, hts⟩ (qX0_moveTime l dC dI ad ci A ns hAD st v ln w sv kv cu j hj x2 _ h) (cwV 2 hts gX0_passTick_X0_moveTime rfl rfl rfl (by decide +kernel) ⟨Nat.le_of_ble_eq_true rfl, Nat.le_of_ble_eq_true rfl⟩) ⟨xr_blind, xr_recv (r := (RX0, TX0, 1)) hK hP 3 (xq_c (by decide)) xe_G rfl, xr_pre hP hK⟩ rfl rfl hl.1 rfl (lv_room (Nat.le_of_ble_eq_true rfl)) dX0_passTick_25 ⟨Nat.le_of_ble_eq_true rfl, Nat.le_of_ble_eq_true rfl⟩) hS (fun _ _ h => h) (fun _ h => h) (fun v_14 t9 H locs ht hvm h hB _ _ hS => ?_)
      refine W.cs (cells' := 0) (slots' := 0) rfl rfl ?_
      have hP := x_th ht hB
      have hP : va_P (dC, dI) vwCl (xw (xn ns) ad (xc ad ci (va_up st j v_14) (va_up ln 0 w) sv kv cu)) H := hP
      refine lv_iconst (v := (0 : Int32)) hx hb dX0_passTick_28 (by decide) ?_
      exact W.zret (v := (0 : Int32)) (ty := .boolean) hx hb hr (by decide) (fun t ht hW => ⟨⟨(0 : Int32), (v_14, w), rfl, h, x_ht ht hP⟩, hS.F ht⟩) hS.2.2 dX0_passTick_29
abbrev rmX0_goOn : Room := { frames := 5, cells := 0, slots := 0, locals := 135 }
theorem wX0_goOn_c4 : ∀ w ∈ u_ws RX4 TX4 8, w ∈ wsX0_goOn := by decide +kernel
theorem wX0_goOn_f18 : Cond.fieldLink RX0 18 "DueWheels$State" "rowSize" "I" ∈ wsX0_goOn := by decide +kernel
def LX0_goOn_11   (x2 : Int64)  (post : StV → LnV → Prop) : Nat → Int32 → Int32 → StV → LnV → Prop
  | 0, _, _, _, _ => False
  | n + 1, x4, x5, v, w => (((300 : Int32) < x5 → post v w) ∧ (¬ (300 : Int32) < x5 → ((x4 = 0 → post v w) ∧ (¬ x4 = 0 → (PX0_passTick v w x2 (fun (r_4 : Int32) (v_5 : StV) (w_6 : LnV) => ∀ x5_7 : Int32, x5_7 = x5 + 1 → LX0_goOn_11  x2 post n r_4 x5_7 v_5 w_6))))))
set_option maxHeartbeats 4000000 in
set_option maxRecDepth 100000 in
theorem kX0_goOn_11 {p : Program} {e : Env} {s : State} {m : MethodId} {args : Array Value} {below : List Frame} {meth : Method} {c : Code} (l : Launch) (dC : Nat → ClassId) (dI : Nat → Nat → Nat) (ad : Nat → Nat) (ci : Nat → ClassId) (A : Nat → Prop) (ns : Nat) (hAD : xw_D (xn ns) ad A) (st : Nat → StV) (ln : Nat → LnV) (sv : SvV) (kv : KvV) (cu : Nat) (j : Nat) (hj : j < ns) (x2 : Int64)  (post : StV → LnV → Prop) (C0 : xC p s m args meth c cX0_goOn 6 none RX0 wsX0_goOn (dC, dI) (xT ci)) : ∀ (n : Nat) (x4 : Int32) (x5 : Int32) (v : StV) (w : LnV) (H : Heap) (locs : List Loc) (ls : Array Slot), LX0_goOn_11  x2 post n x4 x5 v w → va_P (dC, dI) vwCl (xw (xn ns) ad (xc ad ci (va_up st j v) (va_up ln 0 w) sv kv cu)) H → va_S A s.heap H locs → lv_has ls 6 [(0, .ref (ad 3)), (1, .ref (ad (xaS j))), (2, .long x2), (4, .int x4), (5, .int x5)] → W p l e rmX0_goOn s m args below meth c H locs 0 0 (MQ below (va_Qv (fun u : StV × LnV => post (u.1) (u.2)) (fun u t => va_P (dC, dI) vwCl (xw (xn ns) ad (xc ad ci (va_up st j (u.1)) (va_up ln 0 (u.2)) sv kv cu)) t.heap) A) args s 0 0 A) (F0 m 11 ls []) := by
  obtain ⟨hx, hb, -, hr, hlocks, hown, hts, hK⟩ := id C0
  intro n
  induction n with
  | zero =>
    intro x4 x5 v w H locs ls h
    exact False.elim h
  | succ n ih =>
    intro x4 x5 v w H locs ls h hP hS hl
    rw [LX0_goOn_11] at h
    refine lv_iload hx hb dX0_goOn_11 (lv_at hl 4 rfl) ?_
    refine lv_sipush (v := (300 : Int32)) hx hb dX0_goOn_13 (by decide) ?_
    refine lv_icmp_gt (tgt := 38) hx hb dX0_goOn_16 (by decide) (fun c_2 => ?_) (fun c_2 => ?_)
    · have h := h.1 c_2
      exact W.vret hx hb hr (fun t ht hW => ⟨⟨(v, w), rfl, h, x_ht ht hP⟩, hS.F ht⟩) hS.2.2 dX0_goOn_38
    · have h := h.2 c_2
      refine lv_iload hx hb dX0_goOn_19 (lv_at hl 3 rfl) ?_
      refine lv_if_eq (tgt := 38) hx hb dX0_goOn_21 (by decide) (fun c_3 => ?_) (fun c_3 => ?_)
      · have h := h.1 c_3
        exact W.vret hx hb hr (fun t ht hW => ⟨⟨(v, w), rfl, h, x_ht ht hP⟩, hS.F ht⟩) hS.2.2 dX0_goOn_38
      · have h := h.2 c_3
        refine lv_aload_n hx hb dX0_goOn_24 rfl (lv_at hl 0 rfl) ?_
        refine lv_aload_n hx hb dX0_goOn_25 rfl (lv_at hl 1 rfl) ?_
        refine lv_lload_n hx hb dX0_goOn_26 rfl (lv_at hl 2 rfl) ?_
        refine va_calli (va_runV (As := [.ref (ad (xaS j)), .long x2]) (rest := []) ⟨hx, hb, C0.2.2.1, hown, hts⟩ (qX0_passTick l dC dI ad ci A ns hAD st v ln w sv kv cu j hj x2 _ h) (cwV 2 hts gX0_goOn_X0_passTick rfl rfl rfl (by decide +kernel) ⟨Nat.le_of_ble_eq_true rfl, Nat.le_of_ble_eq_true rfl⟩) ⟨xr_blind, xr_recv (r := (RX0, TX0, 1)) hK hP 3 (xq_c (by decide)) xe_G rfl, xr_pre hP hK⟩ rfl rfl hl.1 rfl (lv_room (Nat.le_of_ble_eq_true rfl)) dX0_goOn_27 ⟨Nat.le_of_ble_eq_true rfl, Nat.le_of_ble_eq_true rfl⟩) hS (fun _ _ h => h) (fun _ h => h) (fun r_4 u9 t9 H locs ht hvm h hB _ _ hS => ?_)
        refine W.cs (cells' := 0) (slots' := 0) rfl rfl ?_
        obtain ⟨v_5, w_6⟩ := u9
        have hP := x_th ht hB
        have hP : va_P (dC, dI) vwCl (xw (xn ns) ad (xc ad ci (va_up st j v_5) (va_up ln 0 w_6) sv kv cu)) H := hP
        refine lv_istore (lv' := [(4, .int r_4), (0, .ref (ad 3)), (1, .ref (ad (xaS j))), (2, .long x2), (5, .int x5)]) hx hb dX0_goOn_30 hl (by decide) rfl (fun ls hl => ?_)
        obtain ⟨x5_7, ex5_7⟩ : ∃ z : Int32, z = x5 + 1 := ⟨_, rfl⟩
        have h := h x5_7 ex5_7
        refine lv_iinc (v := x5_7) (lv' := [(5, .int x5_7), (4, .int r_4), (0, .ref (ad 3)), (1, .ref (ad (xaS j))), (2, .long x2)]) hx hb dX0_goOn_32 hl (k := 4) rfl (by rw [ex5_7]; rfl) (by decide) rfl (fun ls hl => ?_)
        refine lv_goto (tgt := 11) hx hb dX0_goOn_35 (by decide) ?_
        exact ih r_4 x5_7 v_5 w_6 _ _ _ h hP hS (lv_sub hl [2, 3, 4, 1, 0] rfl)
def PX0_goOn  (v : StV) (w : LnV) (x2 : Int64) (post : StV → LnV → Prop) : Prop :=
  ∀ v_1 : StV, v_1 = s_wrs v (0 : Int32) → (∃ n_8 : Nat, LX0_goOn_11  x2  post n_8 (1 : Int32) (0 : Int32) v_1 w)
set_option maxHeartbeats 4000000 in
set_option maxRecDepth 100000 in
theorem qX0_goOn (l : Launch) (dC : Nat → ClassId) (dI : Nat → Nat → Nat) (ad : Nat → Nat) (ci : Nat → ClassId) (A : Nat → Prop) (ns : Nat) (hAD : xw_D (xn ns) ad A) (st : Nat → StV) (v : StV) (ln : Nat → LnV) (w : LnV) (sv : SvV) (kv : KvV) (cu : Nat) (j : Nat) (hj : j < ns) (x2 : Int64) (post : StV → LnV → Prop) (h : PX0_goOn v w x2 post) : Met l yX0_goOn wsX0_goOn rmX0_goOn (va_Pc [.ref (ad 3), .ref (ad (xaS j)), .long x2] (fun U => va_P (dC, dI) vwCl (xw (xn ns) ad (xc ad ci (va_up st j v) (va_up ln 0 w) sv kv cu)) U.heap ∧ va_K (dC, dI) vwCl (xT ci) U)) (va_Qv (fun u : StV × LnV => post (u.1) (u.2)) (fun u t => va_P (dC, dI) vwCl (xw (xn ns) ad (xc ad ci (va_up st j (u.1)) (va_up ln 0 (u.2)) sv kv cu)) t.heap) A) 0 0 A := by
  refine Met.ofW (cc := cX0_goOn) (maxL := 6) (ret := none) (by decide) rfl ?_
  intro p e s m args below meth c s₁ B hml hv
  obtain ⟨eargs, hP, hK⟩ := hv
  have C0 : xC p s m args meth c cX0_goOn 6 none RX0 wsX0_goOn (dC, dI) (xT ci) := ⟨B.exec, B.bytes, hml, B.returns, B.notSynchronized, findClass_of_methodNamed B.named, atoms_spec (ws := wsX0_goOn) B.pre, hK⟩
  obtain ⟨hx, hb, -, hr, hlocks, hown, hts, -⟩ := id C0
  have hS : va_S A s.heap s.heap [] := va_S.rf
  have hl := lv_entry ([.ref (ad 3), .ref (ad (xaS j)), .long x2]) (n := 6) (Nat.le_of_ble_eq_true rfl)
  have ef : entryFrame m args 6 = entryFrame m ([.ref (ad 3), .ref (ad (xaS j)), .long x2] : List Value).toArray 6 := by rw [eargs]
  rw [ef, lg_entry_eq]
  generalize (lg_sl ([.ref (ad 3), .ref (ad (xaS j)), .long x2]) ++ List.replicate (6 - (lg_sl ([.ref (ad 3), .ref (ad (xaS j)), .long x2])).length) Slot.unset).toArray = ls at hl ⊢
  have hl : lv_has ls 6 [(0, .ref (ad 3)), (1, .ref (ad (xaS j))), (2, .long x2)] := hl
  have hP : va_P (dC, dI) vwCl (xw (xn ns) ad (xc ad ci (va_up st j v) (va_up ln 0 w) sv kv cu)) s.heap := hP
  unfold PX0_goOn at h
  refine lv_aload_n hx hb dX0_goOn_0 rfl (lv_at hl 1 rfl) ?_
  refine lv_iconst (v := (0 : Int32)) hx hb dX0_goOn_1 (by decide) ?_
  obtain ⟨v_1, ev_1⟩ : ∃ z : StV, z = s_wrs v (0 : Int32) := ⟨_, rfl⟩
  have h := h v_1 ev_1
  refine xr_put (D := (dC, dI)) (C := RX4) (T := TX4) (N := 8) (ty := .int) (v := .int (0 : Int32)) (g := (xc ad ci (va_up st j v_1) (va_up ln 0 w) sv kv cu)) hx hb hts wX0_goOn_c4 tyX4 tyX4_ok nmX4 hown hK hP hAD hS (xaS j) (xq_S hj) (xe_S (va_up_self _ _ _)) rfl 5 (by decide) wX0_goOn_f18 rfl rfl (by decide +kernel) rfl rfl (Nat.le_of_ble_eq_true rfl) dX0_goOn_2 (xg_rs (va_up_self _ _ _) (by rw [ev_1]; exact bx_uu _ _ _ _)) (fun H locs hP hS => ?_)
  refine lv_iconst (v := (1 : Int32)) hx hb dX0_goOn_5 (by decide) ?_
  refine lv_istore (lv' := [(4, .int (1 : Int32)), (0, .ref (ad 3)), (1, .ref (ad (xaS j))), (2, .long x2)]) hx hb dX0_goOn_6 hl (by decide) rfl (fun ls hl => ?_)
  refine lv_iconst (v := (0 : Int32)) hx hb dX0_goOn_8 (by decide) ?_
  refine lv_istore (lv' := [(5, .int (0 : Int32)), (4, .int (1 : Int32)), (0, .ref (ad 3)), (1, .ref (ad (xaS j))), (2, .long x2)]) hx hb dX0_goOn_9 hl (by decide) rfl (fun ls hl => ?_)
  obtain ⟨n_8, h⟩ := h
  exact kX0_goOn_11 l dC dI ad ci A ns hAD st ln sv kv cu j hj  x2  post C0  n_8 (1 : Int32) (0 : Int32) v_1 w _ _ _ h hP hS (lv_sub hl [2, 3, 4, 1, 0] rfl)
