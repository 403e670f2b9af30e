abbrev rmX2_isAhead : Room := { frames := 0, cells := 0, slots := 0, locals := 0 }
theorem wX2_isAhead_c2 : ∀ w ∈ u_ws RX2 TX2 4, w ∈ wsX2_isAhead := by decide +kernel
theorem wX2_isAhead_f19 : Cond.fieldLink RX2 19 "DueWheels$Line" "secondKeys" "[J" ∈ wsX2_isAhead := by decide +kernel
theorem wX2_isAhead_f15 : Cond.fieldLink RX2 15 "DueWheels$Line" "firstKeys" "[J" ∈ wsX2_isAhead := by decide +kernel
def PX2_isAhead  (w : LnV) (x1 : Int64) (x3 : Int64) (x5 : Int32) (post : Int32 → Prop) : Prop :=
  (vp_in x5 200 ∧ ((x1 < (l_f1 w (x5.toNatClampNeg)) → post (1 : Int32)) ∧ (¬ x1 < (l_f1 w (x5.toNatClampNeg)) → (vp_in x5 200 ∧ ((x1 = (l_f1 w (x5.toNatClampNeg)) → (vp_in x5 200 ∧ (((l_f2 w (x5.toNatClampNeg)) ≤ x3 → post (0 : Int32)) ∧ (¬ (l_f2 w (x5.toNatClampNeg)) ≤ x3 → post (1 : Int32))))) ∧ (¬ x1 = (l_f1 w (x5.toNatClampNeg)) → post (0 : Int32)))))))
set_option maxHeartbeats 4000000 in
set_option maxRecDepth 100000 in
theorem qX2_isAhead (l : Launch) (dC : Nat → ClassId) (dI : Nat → Nat → Nat) (ad : Nat → Nat) (ci : Nat → ClassId) (A : Nat → Prop) (ns : Nat) (hAD : xw_D (xn ns) ad A) (st : Nat → StV) (ln : Nat → LnV) (w : LnV) (sv : SvV) (kv : KvV) (cu : Nat) (g : Nat) (hg : g < 2) (x1 : Int64) (x3 : Int64) (x5 : Int32) (post : Int32 → Prop) (h : PX2_isAhead w x1 x3 x5 post) : Met l yX2_isAhead wsX2_isAhead rmX2_isAhead (va_Pc [.ref (ad (xaL g)), .long x1, .long x3, .int x5] (fun U => va_P (dC, dI) vwCl (xw (xn ns) ad (xc ad ci st (va_up ln g w) sv kv cu)) U.heap ∧ va_K (dC, dI) vwCl (xT ci) U)) (va_Qi (fun r9 (u : Unit) => post r9 ) (fun u t => va_P (dC, dI) vwCl (xw (xn ns) ad (xc ad ci st (va_up ln g w) sv kv cu)) t.heap) A) 0 0 A := by
  refine Met.ofW (cc := cX2_isAhead) (maxL := 6) (ret := (some .boolean)) (by decide) rfl ?_
  intro p e s m args below meth c s₁ B hml hv
  obtain ⟨eargs, hP, hK⟩ := hv
  have C0 : xC p s m args meth c cX2_isAhead 6 (some .boolean) RX2 wsX2_isAhead (dC, dI) (xT ci) := ⟨B.exec, B.bytes, hml, B.returns, B.notSynchronized, findClass_of_methodNamed B.named, atoms_spec (ws := wsX2_isAhead) B.pre, hK⟩
  obtain ⟨hx, hb, -, hr, hlocks, hown, hts, -⟩ := id C0
  have hS : va_S A s.heap s.heap [] := va_S.rf
  have hl := lv_entry ([.ref (ad (xaL g)), .long x1, .long x3, .int x5]) (n := 6) (Nat.le_of_ble_eq_true rfl)
  have ef : entryFrame m args 6 = entryFrame m ([.ref (ad (xaL g)), .long x1, .long x3, .int x5] : List Value).toArray 6 := by rw [eargs]
  rw [ef, lg_entry_eq]
  generalize (lg_sl ([.ref (ad (xaL g)), .long x1, .long x3, .int x5]) ++ List.replicate (6 - (lg_sl ([.ref (ad (xaL g)), .long x1, .long x3, .int x5])).length) Slot.unset).toArray = ls at hl ⊢
  have hl : lv_has ls 6 [(0, .ref (ad (xaL g))), (1, .long x1), (3, .long x3), (5, .int x5)] := hl
  have hP : va_P (dC, dI) vwCl (xw (xn ns) ad (xc ad ci st (va_up ln g w) sv kv cu)) s.heap := hP
  unfold PX2_isAhead at h
  refine lv_lload_n hx hb dX2_isAhead_0 rfl (lv_at hl 1 rfl) ?_
  refine lv_aload_n hx hb dX2_isAhead_1 rfl (lv_at hl 0 rfl) ?_
  refine xr_get (D := (dC, dI)) (C := RX2) (T := TX2) (N := 4) (v := .ref (ad (xaLf g))) hx hb hts wX2_isAhead_c2 hown hK hP (xaL g) (xq_L hg) (xe_L hg (va_up_self _ _ _)) rfl 2 (by decide) wX2_isAhead_f15 rfl rfl dX2_isAhead_2 ?_
  refine lv_iload hx hb dX2_isAhead_5 (lv_at hl 3 rfl) ?_
  obtain ⟨g_1, h⟩ := h
  refine xr_lald (k := x5.toNatClampNeg) hx hb hK hP (xaLf g) 1 (xq_Lf hg) (xe_Lf hg (va_up_self _ _ _)) rfl rfl g_1 dX2_isAhead_7 ?_
  refine xr_if_lcmp_lt (tgt := 36) hx hb dX2_isAhead_8 dX2_isAhead_9 (by decide) (fun c_2 => ?_) (fun c_2 => ?_)
  · have h := h.1 c_2
    refine lv_iconst (v := (1 : Int32)) hx hb dX2_isAhead_36 (by decide) ?_
    refine lv_goto (tgt := 41) hx hb dX2_isAhead_37 (by decide) ?_
    exact W.zret (v := (1 : Int32)) (ty := .boolean) hx hb hr (by decide) (fun t ht hW => ⟨⟨(1 : Int32), (), rfl, h, x_ht ht hP⟩, hS.F ht⟩) hS.2.2 dX2_isAhead_41
  · have h := h.2 c_2
    refine lv_lload_n hx hb dX2_isAhead_12 rfl (lv_at hl 1 rfl) ?_
    refine lv_aload_n hx hb dX2_isAhead_13 rfl (lv_at hl 0 rfl) ?_
    refine xr_get (D := (dC, dI)) (C := RX2) (T := TX2) (N := 4) (v := .ref (ad (xaLf g))) hx hb hts wX2_isAhead_c2 hown hK hP (xaL g) (xq_L hg) (xe_L hg (va_up_self _ _ _)) rfl 2 (by decide) wX2_isAhead_f15 rfl rfl dX2_isAhead_14 ?_
    refine lv_iload hx hb dX2_isAhead_17 (lv_at hl 3 rfl) ?_
    obtain ⟨g_3, h⟩ := h
    refine xr_lald (k := x5.toNatClampNeg) hx hb hK hP (xaLf g) 1 (xq_Lf hg) (xe_Lf hg (va_up_self _ _ _)) rfl rfl g_3 dX2_isAhead_19 ?_
    refine xr_if_lcmp_ne (tgt := 40) hx hb dX2_isAhead_20 dX2_isAhead_21 (by decide) (fun c_4 => ?_) (fun c_4 => ?_)
    · have h := h.2 c_4
      refine lv_iconst (v := (0 : Int32)) hx hb dX2_isAhead_40 (by decide) ?_
      exact W.zret (v := (0 : Int32)) (ty := .boolean) hx hb hr (by decide) (fun t ht hW => ⟨⟨(0 : Int32), (), rfl, h, x_ht ht hP⟩, hS.F ht⟩) hS.2.2 dX2_isAhead_41
    · have h := h.1 c_4
      refine lv_lload_n hx hb dX2_isAhead_24 rfl (lv_at hl 2 rfl) ?_
      refine lv_aload_n hx hb dX2_isAhead_25 rfl (lv_at hl 0 rfl) ?_
      refine xr_get (D := (dC, dI)) (C := RX2) (T := TX2) (N := 4) (v := .ref (ad (xaLs g))) hx hb hts wX2_isAhead_c2 hown hK hP (xaL g) (xq_L hg) (xe_L hg (va_up_self _ _ _)) rfl 3 (by decide) wX2_isAhead_f19 rfl rfl dX2_isAhead_26 ?_
      refine lv_iload hx hb dX2_isAhead_29 (lv_at hl 3 rfl) ?_
      obtain ⟨g_5, h⟩ := h
      refine xr_lald (k := x5.toNatClampNeg) hx hb hK hP (xaLs g) 1 (xq_Ls hg) (xe_Ls hg (va_up_self _ _ _)) rfl rfl g_5 dX2_isAhead_31 ?_
      refine xr_if_lcmp_ge (tgt := 40) hx hb dX2_isAhead_32 dX2_isAhead_33 (by decide) (fun c_6 => ?_) (fun c_6 => ?_)
      · have h := h.1 c_6
        refine lv_iconst (v := (0 : Int32)) hx hb dX2_isAhead_40 (by decide) ?_
        exact W.zret (v := (0 : Int32)) (ty := .boolean) hx hb hr (by decide) (fun t ht hW => ⟨⟨(0 : Int32), (), rfl, h, x_ht ht hP⟩, hS.F ht⟩) hS.2.2 dX2_isAhead_41
      · have h := h.2 c_6
        refine lv_iconst (v := (1 : Int32)) hx hb dX2_isAhead_36 (by decide) ?_
        refine lv_goto (tgt := 41) hx hb dX2_isAhead_37 (by decide) ?_
        exact W.zret (v := (1 : Int32)) (ty := .boolean) hx hb hr (by decide) (fun t ht hW => ⟨⟨(1 : Int32), (), rfl, h, x_ht ht hP⟩, hS.F ht⟩) hS.2.2 dX2_isAhead_41
abbrev rmX2_add : Room := { frames := 1, cells := 0, slots := 0, locals := 25 }
theorem wX2_add_c2 : ∀ w ∈ u_ws RX2 TX2 4, w ∈ wsX2_add := by decide +kernel
theorem wX2_add_f19 : Cond.fieldLink RX2 19 "DueWheels$Line" "secondKeys" "[J" ∈ wsX2_add := by decide +kernel
theorem wX2_add_f15 : Cond.fieldLink RX2 15 "DueWheels$Line" "firstKeys" "[J" ∈ wsX2_add := by decide +kernel
theorem wX2_add_f9 : Cond.fieldLink RX2 9 "DueWheels$Line" "dues" "[I" ∈ wsX2_add := by decide +kernel
theorem wX2_add_f22 : Cond.fieldLink RX2 22 "DueWheels$Line" "size" "I" ∈ wsX2_add := by decide +kernel
def LX2_add_17   (x1 : Int32) (x2 : Int64) (x4 : Int64) (K90 : Int32 → LnV → Prop) (post : LnV → Prop) : Nat → Int32 → LnV → Prop
  | 0, _, _ => False
  | n + 1, x6, w => ((x6 ≤ 0 → K90 x6 w) ∧ (¬ x6 ≤ 0 → (PX2_isAhead w x2 x4 (x6 - (1 : Int32)) (fun (r_4 : Int32) => ((r_4 = 0 → K90 x6 w) ∧ (¬ r_4 = 0 → (vp_in (x6 - (1 : Int32)) 200 ∧ (vp_in x6 200 ∧ (∀ w_8 : LnV, w_8 = l_wdu w (upd (l_du w) (x6.toNatClampNeg) (l_du w ((x6 - (1 : Int32)).toNatClampNeg))) → (vp_in (x6 - (1 : Int32)) 200 ∧ (vp_in x6 200 ∧ (∀ w_11 : LnV, w_11 = l_wf1 w_8 (vp_updL (l_f1 w_8) (x6.toNatClampNeg) (l_f1 w_8 ((x6 - (1 : Int32)).toNatClampNeg))) → (vp_in (x6 - (1 : Int32)) 200 ∧ (vp_in x6 200 ∧ (∀ w_14 : LnV, w_14 = l_wf2 w_11 (vp_updL (l_f2 w_11) (x6.toNatClampNeg) (l_f2 w_11 ((x6 - (1 : Int32)).toNatClampNeg))) → ∀ x6_15 : Int32, x6_15 = x6 + (-1) → LX2_add_17  x1 x2 x4 K90 post n x6_15 w_14)))))))))))))))
set_option maxHeartbeats 4000000 in
set_option maxRecDepth 100000 in
theorem kX2_add_17 {p : Program} {e : Env} {s : State} {m : MethodId} {args : Array Value} {below : List Frame} {meth : Method} {c : Code} (l : Launch) (dC : Nat → ClassId) (dI : Nat → Nat → Nat) (ad : Nat → Nat) (ci : Nat → ClassId) (A : Nat → Prop) (ns : Nat) (hAD : xw_D (xn ns) ad A) (st : Nat → StV) (ln : Nat → LnV) (sv : SvV) (kv : KvV) (cu : Nat) (g : Nat) (hg : g < 2) (x1 : Int32) (x2 : Int64) (x4 : Int64) (K90 : Int32 → LnV → Prop) (post : LnV → Prop) (C0 : xC p s m args meth c cX2_add 7 none RX2 wsX2_add (dC, dI) (xT ci)) (hK90 : ∀ (x6 : Int32) (w : LnV) (H : Heap) (locs : List Loc) (ls : Array Slot), K90 x6 w → va_P (dC, dI) vwCl (xw (xn ns) ad (xc ad ci st (va_up ln g w) sv kv cu)) H → va_S A s.heap H locs → lv_has ls 7 [(0, .ref (ad (xaL g))), (1, .int x1), (2, .long x2), (4, .long x4), (6, .int x6)] → W p l e rmX2_add s m args below meth c H locs 0 0 (MQ below (va_Qv (fun u : LnV => post u) (fun u t => va_P (dC, dI) vwCl (xw (xn ns) ad (xc ad ci st (va_up ln g u) sv kv cu)) t.heap) A) args s 0 0 A) (F0 m 90 ls [])) : ∀ (n : Nat) (x6 : Int32) (w : LnV) (H : Heap) (locs : List Loc) (ls : Array Slot), LX2_add_17  x1 x2 x4 K90 post n x6 w → va_P (dC, dI) vwCl (xw (xn ns) ad (xc ad ci st (va_up ln g w) sv kv cu)) H → va_S A s.heap H locs → lv_has ls 7 [(0, .ref (ad (xaL g))), (1, .int x1), (2, .long x2), (4, .long x4), (6, .int x6)] → W p l e rmX2_add s m args below meth c H locs 0 0 (MQ below (va_Qv (fun u : LnV => post u) (fun u t => va_P (dC, dI) vwCl (xw (xn ns) ad (xc ad ci st (va_up ln g u) sv kv cu)) t.heap) A) args s 0 0 A) (F0 m 17 ls []) := by
  obtain ⟨hx, hb, -, hr, hlocks, hown, hts, hK⟩ := id C0
  intro n
  induction n with
  | zero =>
    intro x6 w H locs ls h
    exact False.elim h
  | succ n ih =>
    intro x6 w H locs ls h hP hS hl
    rw [LX2_add_17] at h
    refine lv_iload hx hb dX2_add_17 (lv_at hl 4 rfl) ?_
    refine lv_if_le (tgt := 90) hx hb dX2_add_19 (by decide) (fun c_3 => ?_) (fun c_3 => ?_)
    · have h := h.1 c_3
      exact hK90 x6 w _ _ _ h hP hS (lv_sub hl [0, 1, 2, 3, 4] rfl)
    · have h := h.2 c_3
      refine lv_aload_n hx hb dX2_add_22 rfl (lv_at hl 0 rfl) ?_
      refine lv_lload_n hx hb dX2_add_23 rfl (lv_at hl 2 rfl) ?_
      refine lv_lload hx hb dX2_add_24 (lv_at hl 3 rfl) ?_
      refine lv_iload hx hb dX2_add_26 (lv_at hl 4 rfl) ?_
      refine lv_iconst (v := (1 : Int32)) hx hb dX2_add_28 (by decide) ?_
      refine lv_isub hx hb dX2_add_29 ?_
      refine va_calli (va_runV (As := [.long x2, .long x4, .int (x6 - (1 : Int32))]) (rest := []) ⟨hx, hb, C0.2.2.1, hown, hts⟩ (qX2_isAhead l dC dI ad ci A ns hAD st ln w sv kv cu g hg x2 x4 (x6 - (1 : Int32)) _ h) (cwV 3 hts gX2_add_X2_isAhead rfl rfl rfl (by decide +kernel) ⟨Nat.le_of_ble_eq_true rfl, Nat.le_of_ble_eq_true rfl⟩) ⟨xr_blind, xr_recv (r := (RX2, TX2, 4)) hK hP (xaL g) (xq_L hg) (xe_L hg (va_up_self _ _ _)) rfl, xr_pre hP hK⟩ rfl rfl hl.1 rfl (lv_room (Nat.le_of_ble_eq_true rfl)) dX2_add_30 ⟨Nat.le_of_ble_eq_true rfl, Nat.le_of_ble_eq_true rfl⟩) hS (fun _ _ h => h) (fun _ h => h) (fun r_4 _ t9 H locs ht hvm h hB _ _ hS => ?_)
      refine W.cs (cells' := 0) (slots' := 0) rfl rfl ?_
      have hP := x_th ht hB
      have hP : va_P (dC, dI) vwCl (xw (xn ns) ad (xc ad ci st (va_up ln g w) sv kv cu)) H := hP
      refine lv_if_eq (tgt := 90) hx hb dX2_add_33 (by decide) (fun c_5 => ?_) (fun c_5 => ?_)
      · have h := h.1 c_5
        exact hK90 x6 w _ _ _ h hP hS (lv_sub hl [0, 1, 2, 3, 4] rfl)
      · have h := h.2 c_5
        refine lv_aload_n hx hb dX2_add_36 rfl (lv_at hl 0 rfl) ?_
        refine xr_get (D := (dC, dI)) (C := RX2) (T := TX2) (N := 4) (v := .ref (ad (xaLd g))) hx hb hts wX2_add_c2 hown hK hP (xaL g) (xq_L hg) (xe_L hg (va_up_self _ _ _)) rfl 1 (by decide) wX2_add_f9 rfl rfl dX2_add_37 ?_
        refine lv_iload hx hb dX2_add_40 (lv_at hl 4 rfl) ?_
        refine lv_aload_n hx hb dX2_add_42 rfl (lv_at hl 0 rfl) ?_
        refine xr_get (D := (dC, dI)) (C := RX2) (T := TX2) (N := 4) (v := .ref (ad (xaLd g))) hx hb hts wX2_add_c2 hown hK hP (xaL g) (xq_L hg) (xe_L hg (va_up_self _ _ _)) rfl 1 (by decide) wX2_add_f9 rfl rfl dX2_add_43 ?_
        refine lv_iload hx hb dX2_add_46 (lv_at hl 4 rfl) ?_
        refine lv_iconst (v := (1 : Int32)) hx hb dX2_add_48 (by decide) ?_
        refine lv_isub hx hb dX2_add_49 ?_
        obtain ⟨g_6, h⟩ := h
        refine xr_iald (k := (x6 - (1 : Int32)).toNatClampNeg) hx hb hK hP (xaLd g) 0 (xq_Ld hg) (xe_Ld hg (va_up_self _ _ _)) rfl rfl g_6 dX2_add_50 ?_
        obtain ⟨g_7, h⟩ := h
        obtain ⟨w_8, ew_8⟩ : ∃ z : LnV, z = l_wdu w (upd (l_du w) (x6.toNatClampNeg) (l_du w ((x6 - (1 : Int32)).toNatClampNeg))) := ⟨_, rfl⟩
        have h := h w_8 ew_8
        refine xr_iast (k := x6.toNatClampNeg) (x := (l_du w ((x6 - (1 : Int32)).toNatClampNeg))) (g := (xc ad ci st (va_up ln g w_8) sv kv cu)) hx hb hK hP hAD hS (xaLd g) 0 (xq_Ld hg) (xe_Ld hg (va_up_self _ _ _)) rfl rfl g_7 dX2_add_51 (xg_ldu hg (va_up_self _ _ _) (by rw [ew_8]; exact bx_uu _ _ _ _)) (fun H locs hP hS => ?_)
        refine lv_aload_n hx hb dX2_add_52 rfl (lv_at hl 0 rfl) ?_
        refine xr_get (D := (dC, dI)) (C := RX2) (T := TX2) (N := 4) (v := .ref (ad (xaLf g))) hx hb hts wX2_add_c2 hown hK hP (xaL g) (xq_L hg) (xe_L hg (va_up_self _ _ _)) rfl 2 (by decide) wX2_add_f15 rfl rfl dX2_add_53 ?_
        refine lv_iload hx hb dX2_add_56 (lv_at hl 4 rfl) ?_
        refine lv_aload_n hx hb dX2_add_58 rfl (lv_at hl 0 rfl) ?_
        refine xr_get (D := (dC, dI)) (C := RX2) (T := TX2) (N := 4) (v := .ref (ad (xaLf g))) hx hb hts wX2_add_c2 hown hK hP (xaL g) (xq_L hg) (xe_L hg (va_up_self _ _ _)) rfl 2 (by decide) wX2_add_f15 rfl rfl dX2_add_59 ?_
        refine lv_iload hx hb dX2_add_62 (lv_at hl 4 rfl) ?_
        refine lv_iconst (v := (1 : Int32)) hx hb dX2_add_64 (by decide) ?_
        refine lv_isub hx hb dX2_add_65 ?_
        obtain ⟨g_9, h⟩ := h
        refine xr_lald (k := (x6 - (1 : Int32)).toNatClampNeg) hx hb hK hP (xaLf g) 1 (xq_Lf hg) (xe_Lf hg (va_up_self _ _ _)) rfl rfl g_9 dX2_add_66 ?_
        obtain ⟨g_10, h⟩ := h
        obtain ⟨w_11, ew_11⟩ : ∃ z : LnV, z = l_wf1 w_8 (vp_updL (l_f1 w_8) (x6.toNatClampNeg) (l_f1 w_8 ((x6 - (1 : Int32)).toNatClampNeg))) := ⟨_, rfl⟩
        have h := h w_11 ew_11
        refine xr_last (k := x6.toNatClampNeg) (x := (l_f1 w_8 ((x6 - (1 : Int32)).toNatClampNeg))) (g := (xc ad ci st (va_up ln g w_11) sv kv cu)) hx hb hK hP hAD hS (xaLf g) 1 (xq_Lf hg) (xe_Lf hg (va_up_self _ _ _)) rfl rfl g_10 dX2_add_67 (xg_lf1 hg (va_up_self _ _ _) (by rw [ew_11]; exact bx_uu _ _ _ _)) (fun H locs hP hS => ?_)
        refine lv_aload_n hx hb dX2_add_68 rfl (lv_at hl 0 rfl) ?_
        refine xr_get (D := (dC, dI)) (C := RX2) (T := TX2) (N := 4) (v := .ref (ad (xaLs g))) hx hb hts wX2_add_c2 hown hK hP (xaL g) (xq_L hg) (xe_L hg (va_up_self _ _ _)) rfl 3 (by decide) wX2_add_f19 rfl rfl dX2_add_69 ?_
        refine lv_iload hx hb dX2_add_72 (lv_at hl 4 rfl) ?_
        refine lv_aload_n hx hb dX2_add_74 rfl (lv_at hl 0 rfl) ?_
        refine xr_get (D := (dC, dI)) (C := RX2) (T := TX2) (N := 4) (v := .ref (ad (xaLs g))) hx hb hts wX2_add_c2 hown hK hP (xaL g) (xq_L hg) (xe_L hg (va_up_self _ _ _)) rfl 3 (by decide) wX2_add_f19 rfl rfl dX2_add_75 ?_
        refine lv_iload hx hb dX2_add_78 (lv_at hl 4 rfl) ?_
        refine lv_iconst (v := (1 : Int32)) hx hb dX2_add_80 (by decide) ?_
        refine lv_isub hx hb dX2_add_81 ?_
        obtain ⟨g_12, h⟩ := h
        refine xr_lald (k := (x6 - (1 : Int32)).toNatClampNeg) hx hb hK hP (xaLs g) 1 (xq_Ls hg) (xe_Ls hg (va_up_self _ _ _)) rfl rfl g_12 dX2_add_82 ?_
        obtain ⟨g_13, h⟩ := h
        obtain ⟨w_14, ew_14⟩ : ∃ z : LnV, z = l_wf2 w_11 (vp_updL (l_f2 w_11) (x6.toNatClampNeg) (l_f2 w_11 ((x6 - (1 : Int32)).toNatClampNeg))) := ⟨_, rfl⟩
        have h := h w_14 ew_14
        refine xr_last (k := x6.toNatClampNeg) (x := (l_f2 w_11 ((x6 - (1 : Int32)).toNatClampNeg))) (g := (xc ad ci st (va_up ln g w_14) sv kv cu)) hx hb hK hP hAD hS (xaLs g) 1 (xq_Ls hg) (xe_Ls hg (va_up_self _ _ _)) rfl rfl g_13 dX2_add_83 (xg_lf2 hg (va_up_self _ _ _) (by rw [ew_14]; exact bx_uu _ _ _ _)) (fun H locs hP hS => ?_)
        obtain ⟨x6_15, ex6_15⟩ : ∃ z : Int32, z = x6 + (-1) := ⟨_, rfl⟩
        have h := h x6_15 ex6_15
        refine lv_iinc (v := x6_15) (lv' := [(6, .int x6_15), (0, .ref (ad (xaL g))), (1, .int x1), (2, .long x2), (4, .long x4)]) hx hb dX2_add_84 hl (k := 4) rfl (by rw [ex6_15]; rfl) (by decide) rfl (fun ls hl => ?_)
        refine lv_goto (tgt := 17) hx hb dX2_add_87 (by decide) ?_
        exact ih x6_15 w_14 _ _ _ h hP hS (lv_sub hl [1, 2, 3, 4, 0] rfl)
def PX2_add  (w : LnV) (x1 : Int32) (x2 : Int64) (x4 : Int64) (post : LnV → Prop) : Prop :=
  (((l_sz w) < (200 : Int32) → ∀ x6_2 : Int32, x6_2 = (l_sz w) → (∃ n_25 : Nat, LX2_add_17  x1 x2 x4 (fun (x6_16 : Int32) (w_17 : LnV) => (vp_in x6_16 200 ∧ (∀ w_19 : LnV, w_19 = l_wdu w_17 (upd (l_du w_17) (x6_16.toNatClampNeg) x1) → (vp_in x6_16 200 ∧ (∀ w_21 : LnV, w_21 = l_wf1 w_19 (vp_updL (l_f1 w_19) (x6_16.toNatClampNeg) x2) → (vp_in x6_16 200 ∧ (∀ w_23 : LnV, w_23 = l_wf2 w_21 (vp_updL (l_f2 w_21) (x6_16.toNatClampNeg) x4) → ∀ w_24 : LnV, w_24 = l_wsz w_23 ((l_sz w_23) + (1 : Int32)) → post w_24))))))) post n_25 x6_2 w)) ∧ (¬ (l_sz w) < (200 : Int32) → post w))
set_option maxHeartbeats 4000000 in
set_option maxRecDepth 100000 in
theorem qX2_add (l : Launch) (dC : Nat → ClassId) (dI : Nat → Nat → Nat) (ad : Nat → Nat) (ci : Nat → ClassId) (A : Nat → Prop) (ns : Nat) (hAD : xw_D (xn ns) ad A) (st : Nat → StV) (ln : Nat → LnV) (w : LnV) (sv : SvV) (kv : KvV) (cu : Nat) (g : Nat) (hg : g < 2) (x1 : Int32) (x2 : Int64) (x4 : Int64) (post : LnV → Prop) (h : PX2_add w x1 x2 x4 post) : Met l yX2_add wsX2_add rmX2_add (va_Pc [.ref (ad (xaL g)), .int x1, .long x2, .long x4] (fun U => va_P (dC, dI) vwCl (xw (xn ns) ad (xc ad ci st (va_up ln g w) sv kv cu)) U.heap ∧ va_K (dC, dI) vwCl (xT ci) U)) (va_Qv (fun u : LnV => post u) (fun u t => va_P (dC, dI) vwCl (xw (xn ns) ad (xc ad ci st (va_up ln g u) sv kv cu)) t.heap) A) 0 0 A := by
  refine Met.ofW (cc := cX2_add) (maxL := 7) (ret := none) (by decide) rfl ?_
  intro p e s m args below meth c s₁ B hml hv
  obtain ⟨eargs, hP, hK⟩ := hv
  have C0 : xC p s m args meth c cX2_add 7 none RX2 wsX2_add (dC, dI) (xT ci) := ⟨B.exec, B.bytes, hml, B.returns, B.notSynchronized, findClass_of_methodNamed B.named, atoms_spec (ws := wsX2_add) B.pre, hK⟩
  obtain ⟨hx, hb, -, hr, hlocks, hown, hts, -⟩ := id C0
  have hS : va_S A s.heap s.heap [] := va_S.rf
  have hl := lv_entry ([.ref (ad (xaL g)), .int x1, .long x2, .long x4]) (n := 7) (Nat.le_of_ble_eq_true rfl)
  have ef : entryFrame m args 7 = entryFrame m ([.ref (ad (xaL g)), .int x1, .long x2, .long x4] : List Value).toArray 7 := by rw [eargs]
  rw [ef, lg_entry_eq]
  generalize (lg_sl ([.ref (ad (xaL g)), .int x1, .long x2, .long x4]) ++ List.replicate (7 - (lg_sl ([.ref (ad (xaL g)), .int x1, .long x2, .long x4])).length) Slot.unset).toArray = ls at hl ⊢
  have hl : lv_has ls 7 [(0, .ref (ad (xaL g))), (1, .int x1), (2, .long x2), (4, .long x4)] := hl
  have hP : va_P (dC, dI) vwCl (xw (xn ns) ad (xc ad ci st (va_up ln g w) sv kv cu)) s.heap := hP
  unfold PX2_add at h
  refine lv_aload_n hx hb dX2_add_0 rfl (lv_at hl 0 rfl) ?_
  refine xr_get (D := (dC, dI)) (C := RX2) (T := TX2) (N := 4) (v := .int (l_sz w)) hx hb hts wX2_add_c2 hown hK hP (xaL g) (xq_L hg) (xe_L hg (va_up_self _ _ _)) rfl 0 (by decide) wX2_add_f22 rfl rfl dX2_add_1 ?_
  refine lv_sipush (v := (200 : Int32)) hx hb dX2_add_4 (by decide) ?_
  refine lv_icmp_lt (tgt := 11) hx hb dX2_add_7 (by decide) (fun c_1 => ?_) (fun c_1 => ?_)
  · have h := h.1 c_1
    refine lv_aload_n hx hb dX2_add_11 rfl (lv_at hl 0 rfl) ?_
    refine xr_get (D := (dC, dI)) (C := RX2) (T := TX2) (N := 4) (v := .int (l_sz w)) hx hb hts wX2_add_c2 hown hK hP (xaL g) (xq_L hg) (xe_L hg (va_up_self _ _ _)) rfl 0 (by decide) wX2_add_f22 rfl rfl dX2_add_12 ?_
    refine lv_topi (fun x6_2 ex6_2 => ?_)
    have h := h x6_2 ex6_2
    refine lv_istore (lv' := [(6, .int x6_2), (0, .ref (ad (xaL g))), (1, .int x1), (2, .long x2), (4, .long x4)]) hx hb dX2_add_15 hl (by decide) rfl (fun ls hl => ?_)
    obtain ⟨n_25, h⟩ := h
    refine kX2_add_17 l dC dI ad ci A ns hAD st ln sv kv cu g hg  x1 x2 x4 _ post C0 ?_ n_25 x6_2 w _ _ _ h hP hS (lv_sub hl [1, 2, 3, 4, 0] rfl)
    · intro x6_16 w_17 H locs ls h hP hS hl
      refine lv_aload_n hx hb dX2_add_90 rfl (lv_at hl 0 rfl) ?_
      refine xr_get (D := (dC, dI)) (C := RX2) (T := TX2) (N := 4) (v := .ref (ad (xaLd g))) hx hb hts wX2_add_c2 hown hK hP (xaL g) (xq_L hg) (xe_L hg (va_up_self _ _ _)) rfl 1 (by decide) wX2_add_f9 rfl rfl dX2_add_91 ?_
      refine lv_iload hx hb dX2_add_94 (lv_at hl 4 rfl) ?_
      refine lv_iload_n hx hb dX2_add_96 rfl (lv_at hl 1 rfl) ?_
      obtain ⟨g_18, h⟩ := h
      obtain ⟨w_19, ew_19⟩ : ∃ z : LnV, z = l_wdu w_17 (upd (l_du w_17) (x6_16.toNatClampNeg) x1) := ⟨_, rfl⟩
      have h := h w_19 ew_19
      refine xr_iast (k := x6_16.toNatClampNeg) (x := x1) (g := (xc ad ci st (va_up ln g w_19) sv kv cu)) hx hb hK hP hAD hS (xaLd g) 0 (xq_Ld hg) (xe_Ld hg (va_up_self _ _ _)) rfl rfl g_18 dX2_add_97 (xg_ldu hg (va_up_self _ _ _) (by rw [ew_19]; exact bx_uu _ _ _ _)) (fun H locs hP hS => ?_)
      refine lv_aload_n hx hb dX2_add_98 rfl (lv_at hl 0 rfl) ?_
      refine xr_get (D := (dC, dI)) (C := RX2) (T := TX2) (N := 4) (v := .ref (ad (xaLf g))) hx hb hts wX2_add_c2 hown hK hP (xaL g) (xq_L hg) (xe_L hg (va_up_self _ _ _)) rfl 2 (by decide) wX2_add_f15 rfl rfl dX2_add_99 ?_
      refine lv_iload hx hb dX2_add_102 (lv_at hl 4 rfl) ?_
      refine lv_lload_n hx hb dX2_add_104 rfl (lv_at hl 2 rfl) ?_
      obtain ⟨g_20, h⟩ := h
      obtain ⟨w_21, ew_21⟩ : ∃ z : LnV, z = l_wf1 w_19 (vp_updL (l_f1 w_19) (x6_16.toNatClampNeg) x2) := ⟨_, rfl⟩
      have h := h w_21 ew_21
      refine xr_last (k := x6_16.toNatClampNeg) (x := x2) (g := (xc ad ci st (va_up ln g w_21) sv kv cu)) hx hb hK hP hAD hS (xaLf g) 1 (xq_Lf hg) (xe_Lf hg (va_up_self _ _ _)) rfl rfl g_20 dX2_add_105 (xg_lf1 hg (va_up_self _ _ _) (by rw [ew_21]; exact bx_uu _ _ _ _)) (fun H locs hP hS => ?_)
      refine lv_aload_n hx hb dX2_add_106 rfl (lv_at hl 0 rfl) ?_
      refine xr_get (D := (dC, dI)) (C := RX2) (T := TX2) (N := 4) (v := .ref (ad (xaLs g))) hx hb hts wX2_add_c2 hown hK hP (xaL g) (xq_L hg) (xe_L hg (va_up_self _ _ _)) rfl 3 (by decide) wX2_add_f19 rfl rfl dX2_add_107 ?_
      refine lv_iload hx hb dX2_add_110 (lv_at hl 4 rfl) ?_
      refine lv_lload hx hb dX2_add_112 (lv_at hl 3 rfl) ?_
      obtain ⟨g_22, h⟩ := h
      obtain ⟨w_23, ew_23⟩ : ∃ z : LnV, z = l_wf2 w_21 (vp_updL (l_f2 w_21) (x6_16.toNatClampNeg) x4) := ⟨_, rfl⟩
      have h := h w_23 ew_23
      refine xr_last (k := x6_16.toNatClampNeg) (x := x4) (g := (xc ad ci st (va_up ln g w_23) sv kv cu)) hx hb hK hP hAD hS (xaLs g) 1 (xq_Ls hg) (xe_Ls hg (va_up_self _ _ _)) rfl rfl g_22 dX2_add_114 (xg_lf2 hg (va_up_self _ _ _) (by rw [ew_23]; exact bx_uu _ _ _ _)) (fun H locs hP hS => ?_)
      refine lv_aload_n hx hb dX2_add_115 rfl (lv_at hl 0 rfl) ?_
      refine lv_dup hx hb dX2_add_116 rfl ?_
      refine xr_get (D := (dC, dI)) (C := RX2) (T := TX2) (N := 4) (v := .int (l_sz w_23)) hx hb hts wX2_add_c2 hown hK hP (xaL g) (xq_L hg) (xe_L hg (va_up_self _ _ _)) rfl 0 (by decide) wX2_add_f22 rfl rfl dX2_add_117 ?_
      refine lv_iconst (v := (1 : Int32)) hx hb dX2_add_120 (by decide) ?_
      refine lv_iadd hx hb dX2_add_121 ?_
      obtain ⟨w_24, ew_24⟩ : ∃ z : LnV, z = l_wsz w_23 ((l_sz w_23) + (1 : Int32)) := ⟨_, rfl⟩
      have h := h w_24 ew_24
      refine xr_put (D := (dC, dI)) (C := RX2) (T := TX2) (N := 4) (ty := .int) (v := .int ((l_sz w_23) + (1 : Int32))) (g := (xc ad ci st (va_up ln g w_24) sv kv cu)) hx hb hts wX2_add_c2 tyX2 tyX2_ok nmX2 hown hK hP hAD hS (xaL g) (xq_L hg) (xe_L hg (va_up_self _ _ _)) rfl 0 (by decide) wX2_add_f22 rfl rfl (by decide +kernel) rfl rfl (Nat.le_of_ble_eq_true rfl) dX2_add_122 (xg_lsz hg (va_up_self _ _ _) (by rw [ew_24]; exact bx_uu _ _ _ _)) (fun H locs hP hS => ?_)
      exact W.vret hx hb hr (fun t ht hW => ⟨⟨w_24, rfl, h, x_ht ht hP⟩, hS.F ht⟩) hS.2.2 dX2_add_125
  · have h := h.2 c_1
    exact W.vret hx hb hr (fun t ht hW => ⟨⟨w, rfl, h, x_ht ht hP⟩, hS.F ht⟩) hS.2.2 dX2_add_10
