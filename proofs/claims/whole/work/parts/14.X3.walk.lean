abbrev rmX3_addFast : Room := { frames := 0, cells := 0, slots := 0, locals := 0 }
theorem wX3_addFast_c3 : ∀ w ∈ u_ws RX3 TX3 4, w ∈ wsX3_addFast := by decide +kernel
theorem wX3_addFast_f68 : Cond.fieldLink RX3 68 "DueWheels$Settling" "fastSize" "I" ∈ wsX3_addFast := by decide +kernel
theorem wX3_addFast_f22 : Cond.fieldLink RX3 22 "DueWheels$Settling" "fast" "[J" ∈ wsX3_addFast := by decide +kernel
def PX3_addFast  (sv : SvV) (x1 : Int64) (post : SvV → Prop) : Prop :=
  (((200 : Int32) ≤ (t_fz sv) → post sv) ∧ (¬ (200 : Int32) ≤ (t_fz sv) → (vp_in (t_fz sv) 200 ∧ (∀ sv_3 : SvV, sv_3 = t_wfa sv (vp_updL (t_fa sv) ((t_fz sv).toNatClampNeg) x1) → ∀ sv_4 : SvV, sv_4 = t_wfz sv_3 ((t_fz sv_3) + (1 : Int32)) → post sv_4))))
set_option maxHeartbeats 4000000 in
set_option maxRecDepth 100000 in
theorem qX3_addFast (l : Launch) (dC : Nat → ClassId) (dI : Nat → Nat → Nat) (ad : Nat → Nat) (ci : Nat → ClassId) (A : Nat → Prop) (ns : Nat) (hAD : xw_D (xn ns) ad A) (st : Nat → StV) (ln : Nat → LnV) (sv : SvV) (kv : KvV) (cu : Nat) (x1 : Int64) (post : SvV → Prop) (h : PX3_addFast sv x1 post) : Met l yX3_addFast wsX3_addFast rmX3_addFast (va_Pc [.ref (ad 8), .long x1] (fun U => va_P (dC, dI) vwCl (xw (xn ns) ad (xc ad ci st ln sv kv cu)) U.heap ∧ va_K (dC, dI) vwCl (xT ci) U)) (va_Qv (fun u : SvV => post u) (fun u t => va_P (dC, dI) vwCl (xw (xn ns) ad (xc ad ci st ln u kv cu)) t.heap) A) 0 0 A := by
  refine Met.ofW (cc := cX3_addFast) (maxL := 3) (ret := none) (by decide) rfl ?_
  intro p e s m args below meth c s₁ B hml hv
  obtain ⟨eargs, hP, hK⟩ := hv
  have C0 : xC p s m args meth c cX3_addFast 3 none RX3 wsX3_addFast (dC, dI) (xT ci) := ⟨B.exec, B.bytes, hml, B.returns, B.notSynchronized, findClass_of_methodNamed B.named, atoms_spec (ws := wsX3_addFast) B.pre, hK⟩
  obtain ⟨hx, hb, -, hr, hlocks, hown, hts, -⟩ := id C0
  have hS : va_S A s.heap s.heap [] := va_S.rf
  have hl := lv_entry ([.ref (ad 8), .long x1]) (n := 3) (Nat.le_of_ble_eq_true rfl)
  have ef : entryFrame m args 3 = entryFrame m ([.ref (ad 8), .long x1] : List Value).toArray 3 := by rw [eargs]
  rw [ef, lg_entry_eq]
  generalize (lg_sl ([.ref (ad 8), .long x1]) ++ List.replicate (3 - (lg_sl ([.ref (ad 8), .long x1])).length) Slot.unset).toArray = ls at hl ⊢
  have hl : lv_has ls 3 [(0, .ref (ad 8)), (1, .long x1)] := hl
  have hP : va_P (dC, dI) vwCl (xw (xn ns) ad (xc ad ci st ln sv kv cu)) s.heap := hP
  unfold PX3_addFast at h
  refine lv_aload_n hx hb dX3_addFast_0 rfl (lv_at hl 0 rfl) ?_
  refine xr_get (D := (dC, dI)) (C := RX3) (T := TX3) (N := 4) (v := .int (t_fz sv)) hx hb hts wX3_addFast_c3 hown hK hP 8 (xq_c (by decide)) xe_T rfl 3 (by decide) wX3_addFast_f68 rfl rfl dX3_addFast_1 ?_
  refine lv_sipush (v := (200 : Int32)) hx hb dX3_addFast_4 (by decide) ?_
  refine lv_icmp_ge (tgt := 30) hx hb dX3_addFast_7 (by decide) (fun c_1 => ?_) (fun c_1 => ?_)
  · have h := h.1 c_1
    exact W.vret hx hb hr (fun t ht hW => ⟨⟨sv, rfl, h, x_ht ht hP⟩, hS.F ht⟩) hS.2.2 dX3_addFast_30
  · have h := h.2 c_1
    refine lv_aload_n hx hb dX3_addFast_10 rfl (lv_at hl 0 rfl) ?_
    refine xr_get (D := (dC, dI)) (C := RX3) (T := TX3) (N := 4) (v := .ref (ad 14)) hx hb hts wX3_addFast_c3 hown hK hP 8 (xq_c (by decide)) xe_T rfl 2 (by decide) wX3_addFast_f22 rfl rfl dX3_addFast_11 ?_
    refine lv_aload_n hx hb dX3_addFast_14 rfl (lv_at hl 0 rfl) ?_
    refine xr_get (D := (dC, dI)) (C := RX3) (T := TX3) (N := 4) (v := .int (t_fz sv)) hx hb hts wX3_addFast_c3 hown hK hP 8 (xq_c (by decide)) xe_T rfl 3 (by decide) wX3_addFast_f68 rfl rfl dX3_addFast_15 ?_
    refine lv_lload_n hx hb dX3_addFast_18 rfl (lv_at hl 1 rfl) ?_
    obtain ⟨g_2, h⟩ := h
    obtain ⟨sv_3, esv_3⟩ : ∃ z : SvV, z = t_wfa sv (vp_updL (t_fa sv) ((t_fz sv).toNatClampNeg) x1) := ⟨_, rfl⟩
    have h := h sv_3 esv_3
    refine xr_last (k := (t_fz sv).toNatClampNeg) (x := x1) (g := (xc ad ci st ln sv_3 kv cu)) hx hb hK hP hAD hS 14 1 (xq_c (by decide)) xe_fa rfl rfl g_2 dX3_addFast_19 (by rw [esv_3]; exact xg_tfa) (fun H locs hP hS => ?_)
    refine lv_aload_n hx hb dX3_addFast_20 rfl (lv_at hl 0 rfl) ?_
    refine lv_dup hx hb dX3_addFast_21 rfl ?_
    refine xr_get (D := (dC, dI)) (C := RX3) (T := TX3) (N := 4) (v := .int (t_fz sv_3)) hx hb hts wX3_addFast_c3 hown hK hP 8 (xq_c (by decide)) xe_T rfl 3 (by decide) wX3_addFast_f68 rfl rfl dX3_addFast_22 ?_
    refine lv_iconst (v := (1 : Int32)) hx hb dX3_addFast_25 (by decide) ?_
    refine lv_iadd hx hb dX3_addFast_26 ?_
    obtain ⟨sv_4, esv_4⟩ : ∃ z : SvV, z = t_wfz sv_3 ((t_fz sv_3) + (1 : Int32)) := ⟨_, rfl⟩
    have h := h sv_4 esv_4
    refine xr_put (D := (dC, dI)) (C := RX3) (T := TX3) (N := 4) (ty := .int) (v := .int ((t_fz sv_3) + (1 : Int32))) (g := (xc ad ci st ln sv_4 kv cu)) hx hb hts wX3_addFast_c3 tyX3 tyX3_ok nmX3 hown hK hP hAD hS 8 (xq_c (by decide)) xe_T rfl 3 (by decide) wX3_addFast_f68 rfl rfl (by decide +kernel) rfl rfl (Nat.le_of_ble_eq_true rfl) dX3_addFast_27 (by rw [esv_4]; exact xg_tfz) (fun H locs hP hS => ?_)
    exact W.vret hx hb hr (fun t ht hW => ⟨⟨sv_4, rfl, h, x_ht ht hP⟩, hS.F ht⟩) hS.2.2 dX3_addFast_30
abbrev rmX3_findFast : Room := { frames := 1, cells := 0, slots := 0, locals := 22 }
theorem wX3_findFast_k74 : Cond.constantLong RX3 74 (2) ∈ wsX3_findFast := by decide +kernel
theorem wX3_findFast_k58 : Cond.constantLong RX3 58 (-2000000005) ∈ wsX3_findFast := by decide +kernel
theorem wX3_findFast_c4 : ∀ w ∈ u_ws RX4 TX4 8, w ∈ wsX3_findFast := by decide +kernel
theorem wX3_findFast_f40 : Cond.fieldLink RX3 40 "DueWheels$State" "dues" "[[J" ∈ wsX3_findFast := by decide +kernel
theorem wX3_findFast_f71 : Cond.fieldLink RX3 71 "DueWheels$State" "end" "I" ∈ wsX3_findFast := by decide +kernel
theorem wX3_findFast_c3 : ∀ w ∈ u_ws RX3 TX3 4, w ∈ wsX3_findFast := by decide +kernel
theorem wX3_findFast_f68 : Cond.fieldLink RX3 68 "DueWheels$Settling" "fastSize" "I" ∈ wsX3_findFast := by decide +kernel
def LX3_findFast_7  (v : StV)   (post : SvV → Prop) : Nat → Int32 → SvV → Prop
  | 0, _, _ => False
  | n + 1, x2, sv => (((s_en v) ≤ x2 → post sv) ∧ (¬ (s_en v) ≤ x2 → (vp_in x2 200 ∧ (((s_du v 0 (x2.toNatClampNeg)) = (2 : Int64) → ∀ x2_5 : Int32, x2_5 = x2 + 1 → LX3_findFast_7  v post n x2_5 sv) ∧ (¬ (s_du v 0 (x2.toNatClampNeg)) = (2 : Int64) → (vp_in x2 200 ∧ (((s_du v 2 (x2.toNatClampNeg)) = (-2000000005 : Int64) → ∀ x2_8 : Int32, x2_8 = x2 + 1 → LX3_findFast_7  v post n x2_8 sv) ∧ (¬ (s_du v 2 (x2.toNatClampNeg)) = (-2000000005 : Int64) → (vp_in x2 200 ∧ (PX3_addFast sv (s_du v 2 (x2.toNatClampNeg)) (fun (sv_10 : SvV) => ∀ x2_11 : Int32, x2_11 = x2 + 1 → LX3_findFast_7  v post n x2_11 sv_10)))))))))))
set_option maxHeartbeats 4000000 in
set_option maxRecDepth 100000 in
theorem kX3_findFast_7 {p : Program} {e : Env} {s : State} {m : MethodId} {args : Array Value} {below : List Frame} {meth : Method} {c : Code} (l : Launch) (dC : Nat → ClassId) (dI : Nat → Nat → Nat) (ad : Nat → Nat) (ci : Nat → ClassId) (A : Nat → Prop) (ns : Nat) (hAD : xw_D (xn ns) ad A) (st : Nat → StV) (v : StV) (ln : Nat → LnV) (w : LnV) (kv : KvV) (cu : Nat) (j : Nat) (hj : j < ns)   (post : SvV → Prop) (C0 : xC p s m args meth c cX3_findFast 3 none RX3 wsX3_findFast (dC, dI) (xT ci)) : ∀ (n : Nat) (x2 : Int32) (sv : SvV) (H : Heap) (locs : List Loc) (ls : Array Slot), LX3_findFast_7  v post n x2 sv → va_P (dC, dI) vwCl (xw (xn ns) ad (xc ad ci (va_up st j v) (va_up ln 1 w) sv kv cu)) H → va_S A s.heap H locs → lv_has ls 3 [(0, .ref (ad 8)), (1, .ref (ad (xaS j))), (2, .int x2)] → W p l e rmX3_findFast s m args below meth c H locs 0 0 (MQ below (va_Qv (fun u : SvV => post u) (fun u t => va_P (dC, dI) vwCl (xw (xn ns) ad (xc ad ci (va_up st j v) (va_up ln 1 w) u kv cu)) t.heap) A) args s 0 0 A) (F0 m 7 ls []) := by
  obtain ⟨hx, hb, -, hr, hlocks, hown, hts, hK⟩ := id C0
  intro n
  induction n with
  | zero =>
    intro x2 sv H locs ls h
    exact False.elim h
  | succ n ih =>
    intro x2 sv H locs ls h hP hS hl
    rw [LX3_findFast_7] at h
    refine lv_iload_n hx hb dX3_findFast_7 rfl (lv_at hl 2 rfl) ?_
    refine lv_aload_n hx hb dX3_findFast_8 rfl (lv_at hl 1 rfl) ?_
    refine xr_get (D := (dC, dI)) (C := RX4) (T := TX4) (N := 8) (v := .int (s_en v)) hx hb hts wX3_findFast_c4 hown hK hP (xaS j) (xq_S hj) (xe_S (va_up_self _ _ _)) rfl 4 (by decide) wX3_findFast_f71 rfl rfl dX3_findFast_9 ?_
    refine lv_icmp_ge (tgt := 63) hx hb dX3_findFast_12 (by decide) (fun c_2 => ?_) (fun c_2 => ?_)
    · have h := h.1 c_2
      exact W.vret hx hb hr (fun t ht hW => ⟨⟨sv, rfl, h, x_ht ht hP⟩, hS.F ht⟩) hS.2.2 dX3_findFast_63
    · have h := h.2 c_2
      refine lv_aload_n hx hb dX3_findFast_15 rfl (lv_at hl 1 rfl) ?_
      refine xr_get (D := (dC, dI)) (C := RX4) (T := TX4) (N := 8) (v := .ref (ad (xaD0 j))) hx hb hts wX3_findFast_c4 hown hK hP (xaS j) (xq_S hj) (xe_S (va_up_self _ _ _)) rfl 6 (by decide) wX3_findFast_f40 rfl rfl dX3_findFast_16 ?_
      refine lv_iconst (v := (0 : Int32)) hx hb dX3_findFast_19 (by decide) ?_
      refine xr_aald (k := 0) (b := ad (xaD j 0)) hx hb hK hP (xaD0 j) 4 (xq_D0 hj) xe_D0 rfl rfl rfl (x_in _ _ (by decide)) rfl dX3_findFast_20 ?_
      refine lv_iload_n hx hb dX3_findFast_21 rfl (lv_at hl 2 rfl) ?_
      obtain ⟨g_3, h⟩ := h
      refine xr_lald (k := x2.toNatClampNeg) hx hb hK hP (xaD j 0) 1 (xq_D hj (by decide)) (xe_D (by decide) (va_up_self _ _ _)) rfl rfl g_3 dX3_findFast_22 ?_
      refine lv_ldc2 (v := (2 : Int64)) hx hb hown (hts _ wX3_findFast_k74) dX3_findFast_23 ?_
      refine xr_if_lcmp_eq (tgt := 57) hx hb dX3_findFast_26 dX3_findFast_27 (by decide) (fun c_4 => ?_) (fun c_4 => ?_)
      · have h := h.1 c_4
        obtain ⟨x2_5, ex2_5⟩ : ∃ z : Int32, z = x2 + 1 := ⟨_, rfl⟩
        have h := h x2_5 ex2_5
        refine lv_iinc (v := x2_5) (lv' := [(2, .int x2_5), (0, .ref (ad 8)), (1, .ref (ad (xaS j)))]) hx hb dX3_findFast_57 hl (k := 2) rfl (by rw [ex2_5]; rfl) (by decide) rfl (fun ls hl => ?_)
        refine lv_goto (tgt := 7) hx hb dX3_findFast_60 (by decide) ?_
        exact ih x2_5 sv _ _ _ h hP hS (lv_sub hl [1, 2, 0] rfl)
      · have h := h.2 c_4
        refine lv_aload_n hx hb dX3_findFast_30 rfl (lv_at hl 1 rfl) ?_
        refine xr_get (D := (dC, dI)) (C := RX4) (T := TX4) (N := 8) (v := .ref (ad (xaD0 j))) hx hb hts wX3_findFast_c4 hown hK hP (xaS j) (xq_S hj) (xe_S (va_up_self _ _ _)) rfl 6 (by decide) wX3_findFast_f40 rfl rfl dX3_findFast_31 ?_
        refine lv_iconst (v := (2 : Int32)) hx hb dX3_findFast_34 (by decide) ?_
        refine xr_aald (k := 2) (b := ad (xaD j 2)) hx hb hK hP (xaD0 j) 4 (xq_D0 hj) xe_D0 rfl rfl rfl (x_in _ _ (by decide)) rfl dX3_findFast_35 ?_
        refine lv_iload_n hx hb dX3_findFast_36 rfl (lv_at hl 2 rfl) ?_
        obtain ⟨g_6, h⟩ := h
        refine xr_lald (k := x2.toNatClampNeg) hx hb hK hP (xaD j 2) 1 (xq_D hj (by decide)) (xe_D (by decide) (va_up_self _ _ _)) rfl rfl g_6 dX3_findFast_37 ?_
        refine lv_ldc2 (v := (-2000000005 : Int64)) hx hb hown (hts _ wX3_findFast_k58) dX3_findFast_38 ?_
        refine xr_if_lcmp_eq (tgt := 57) hx hb dX3_findFast_41 dX3_findFast_42 (by decide) (fun c_7 => ?_) (fun c_7 => ?_)
        · have h := h.1 c_7
          obtain ⟨x2_8, ex2_8⟩ : ∃ z : Int32, z = x2 + 1 := ⟨_, rfl⟩
          have h := h x2_8 ex2_8
          refine lv_iinc (v := x2_8) (lv' := [(2, .int x2_8), (0, .ref (ad 8)), (1, .ref (ad (xaS j)))]) hx hb dX3_findFast_57 hl (k := 2) rfl (by rw [ex2_8]; rfl) (by decide) rfl (fun ls hl => ?_)
          refine lv_goto (tgt := 7) hx hb dX3_findFast_60 (by decide) ?_
          exact ih x2_8 sv _ _ _ h hP hS (lv_sub hl [1, 2, 0] rfl)
        · have h := h.2 c_7
          refine lv_aload_n hx hb dX3_findFast_45 rfl (lv_at hl 0 rfl) ?_
          refine lv_aload_n hx hb dX3_findFast_46 rfl (lv_at hl 1 rfl) ?_
          refine xr_get (D := (dC, dI)) (C := RX4) (T := TX4) (N := 8) (v := .ref (ad (xaD0 j))) hx hb hts wX3_findFast_c4 hown hK hP (xaS j) (xq_S hj) (xe_S (va_up_self _ _ _)) rfl 6 (by decide) wX3_findFast_f40 rfl rfl dX3_findFast_47 ?_
          refine lv_iconst (v := (2 : Int32)) hx hb dX3_findFast_50 (by decide) ?_
          refine xr_aald (k := 2) (b := ad (xaD j 2)) hx hb hK hP (xaD0 j) 4 (xq_D0 hj) xe_D0 rfl rfl rfl (x_in _ _ (by decide)) rfl dX3_findFast_51 ?_
          refine lv_iload_n hx hb dX3_findFast_52 rfl (lv_at hl 2 rfl) ?_
          obtain ⟨g_9, h⟩ := h
          refine xr_lald (k := x2.toNatClampNeg) hx hb hK hP (xaD j 2) 1 (xq_D hj (by decide)) (xe_D (by decide) (va_up_self _ _ _)) rfl rfl g_9 dX3_findFast_53 ?_
          refine va_callv (va_runV (As := [.long (s_du v 2 (x2.toNatClampNeg))]) (rest := []) ⟨hx, hb, C0.2.2.1, hown, hts⟩ (qX3_addFast l dC dI ad ci A ns hAD (va_up st j v) (va_up ln 1 w) sv kv cu (s_du v 2 (x2.toNatClampNeg)) _ h) (cwV 1 hts gX3_findFast_X3_addFast rfl rfl rfl (by decide +kernel) ⟨Nat.le_of_ble_eq_true rfl, Nat.le_of_ble_eq_true rfl⟩) ⟨xr_blind, xr_recv (r := (RX3, TX3, 4)) hK hP 8 (xq_c (by decide)) xe_T rfl, xr_pre hP hK⟩ rfl rfl hl.1 rfl (lv_room (Nat.le_of_ble_eq_true rfl)) dX3_findFast_54 ⟨Nat.le_of_ble_eq_true rfl, Nat.le_of_ble_eq_true rfl⟩) hS (fun _ _ h => h) (fun _ h => h) (fun sv_10 t9 H locs ht hvm h hB _ _ hS => ?_)
          refine W.cs (cells' := 0) (slots' := 0) rfl rfl ?_
          have hP := x_th ht hB
          have hP : va_P (dC, dI) vwCl (xw (xn ns) ad (xc ad ci (va_up st j v) (va_up ln 1 w) sv_10 kv cu)) H := hP
          obtain ⟨x2_11, ex2_11⟩ : ∃ z : Int32, z = x2 + 1 := ⟨_, rfl⟩
          have h := h x2_11 ex2_11
          refine lv_iinc (v := x2_11) (lv' := [(2, .int x2_11), (0, .ref (ad 8)), (1, .ref (ad (xaS j)))]) hx hb dX3_findFast_57 hl (k := 2) rfl (by rw [ex2_11]; rfl) (by decide) rfl (fun ls hl => ?_)
          refine lv_goto (tgt := 7) hx hb dX3_findFast_60 (by decide) ?_
          exact ih x2_11 sv_10 _ _ _ h hP hS (lv_sub hl [1, 2, 0] rfl)
def PX3_findFast  (v : StV) (sv : SvV)  (post : SvV → Prop) : Prop :=
  ∀ sv_1 : SvV, sv_1 = t_wfz sv (0 : Int32) → (∃ n_12 : Nat, LX3_findFast_7  v  post n_12 (0 : Int32) sv_1)
set_option maxHeartbeats 4000000 in
set_option maxRecDepth 100000 in
theorem qX3_findFast (l : Launch) (dC : Nat → ClassId) (dI : Nat → Nat → Nat) (ad : Nat → Nat) (ci : Nat → ClassId) (A : Nat → Prop) (ns : Nat) (hAD : xw_D (xn ns) ad A) (st : Nat → StV) (v : StV) (ln : Nat → LnV) (w : LnV) (sv : SvV) (kv : KvV) (cu : Nat) (j : Nat) (hj : j < ns)  (post : SvV → Prop) (h : PX3_findFast v sv post) : Met l yX3_findFast wsX3_findFast rmX3_findFast (va_Pc [.ref (ad 8), .ref (ad (xaS j))] (fun U => va_P (dC, dI) vwCl (xw (xn ns) ad (xc ad ci (va_up st j v) (va_up ln 1 w) sv kv cu)) U.heap ∧ va_K (dC, dI) vwCl (xT ci) U)) (va_Qv (fun u : SvV => post u) (fun u t => va_P (dC, dI) vwCl (xw (xn ns) ad (xc ad ci (va_up st j v) (va_up ln 1 w) u kv cu)) t.heap) A) 0 0 A := by
  refine Met.ofW (cc := cX3_findFast) (maxL := 3) (ret := none) (by decide) rfl ?_
  intro p e s m args below meth c s₁ B hml hv
  obtain ⟨eargs, hP, hK⟩ := hv
  have C0 : xC p s m args meth c cX3_findFast 3 none RX3 wsX3_findFast (dC, dI) (xT ci) := ⟨B.exec, B.bytes, hml, B.returns, B.notSynchronized, findClass_of_methodNamed B.named, atoms_spec (ws := wsX3_findFast) B.pre, hK⟩
  obtain ⟨hx, hb, -, hr, hlocks, hown, hts, -⟩ := id C0
  have hS : va_S A s.heap s.heap [] := va_S.rf
  have hl := lv_entry ([.ref (ad 8), .ref (ad (xaS j))]) (n := 3) (Nat.le_of_ble_eq_true rfl)
  have ef : entryFrame m args 3 = entryFrame m ([.ref (ad 8), .ref (ad (xaS j))] : List Value).toArray 3 := by rw [eargs]
  rw [ef, lg_entry_eq]
  generalize (lg_sl ([.ref (ad 8), .ref (ad (xaS j))]) ++ List.replicate (3 - (lg_sl ([.ref (ad 8), .ref (ad (xaS j))])).length) Slot.unset).toArray = ls at hl ⊢
  have hl : lv_has ls 3 [(0, .ref (ad 8)), (1, .ref (ad (xaS j)))] := hl
  have hP : va_P (dC, dI) vwCl (xw (xn ns) ad (xc ad ci (va_up st j v) (va_up ln 1 w) sv kv cu)) s.heap := hP
  unfold PX3_findFast at h
  refine lv_aload_n hx hb dX3_findFast_0 rfl (lv_at hl 0 rfl) ?_
  refine lv_iconst (v := (0 : Int32)) hx hb dX3_findFast_1 (by decide) ?_
  obtain ⟨sv_1, esv_1⟩ : ∃ z : SvV, z = t_wfz sv (0 : Int32) := ⟨_, rfl⟩
  have h := h sv_1 esv_1
  refine xr_put (D := (dC, dI)) (C := RX3) (T := TX3) (N := 4) (ty := .int) (v := .int (0 : Int32)) (g := (xc ad ci (va_up st j v) (va_up ln 1 w) sv_1 kv cu)) hx hb hts wX3_findFast_c3 tyX3 tyX3_ok nmX3 hown hK hP hAD hS 8 (xq_c (by decide)) xe_T rfl 3 (by decide) wX3_findFast_f68 rfl rfl (by decide +kernel) rfl rfl (Nat.le_of_ble_eq_true rfl) dX3_findFast_2 (by rw [esv_1]; exact xg_tfz) (fun H locs hP hS => ?_)
  refine lv_iconst (v := (0 : Int32)) hx hb dX3_findFast_5 (by decide) ?_
  refine lv_istore_n (lv' := [(2, .int (0 : Int32)), (0, .ref (ad 8)), (1, .ref (ad (xaS j)))]) hx hb dX3_findFast_6 rfl hl (by decide) rfl (fun ls hl => ?_)
  obtain ⟨n_12, h⟩ := h
  exact kX3_findFast_7 l dC dI ad ci A ns hAD st v ln w kv cu j hj    post C0  n_12 (0 : Int32) sv_1 _ _ _ h hP hS (lv_sub hl [1, 2, 0] rfl)
abbrev rmX3_findLoose : Room := { frames := 2, cells := 0, slots := 0, locals := 51 }
theorem wX3_findLoose_k74 : Cond.constantLong RX3 74 (2) ∈ wsX3_findLoose := by decide +kernel
theorem wX3_findLoose_c4 : ∀ w ∈ u_ws RX4 TX4 8, w ∈ wsX3_findLoose := by decide +kernel
theorem wX3_findLoose_f40 : Cond.fieldLink RX3 40 "DueWheels$State" "dues" "[[J" ∈ wsX3_findLoose := by decide +kernel
theorem wX3_findLoose_c3 : ∀ w ∈ u_ws RX3 TX3 4, w ∈ wsX3_findLoose := by decide +kernel
theorem wX3_findLoose_f12 : Cond.fieldLink RX3 12 "DueWheels$Settling" "line" "LDueWheels$Line;" ∈ wsX3_findLoose := by decide +kernel
theorem wX3_findLoose_f71 : Cond.fieldLink RX3 71 "DueWheels$State" "end" "I" ∈ wsX3_findLoose := by decide +kernel
theorem wX3_findLoose_c2 : ∀ w ∈ u_ws RX2 TX2 4, w ∈ wsX3_findLoose := by decide +kernel
theorem wX3_findLoose_f32 : Cond.fieldLink RX3 32 "DueWheels$Line" "size" "I" ∈ wsX3_findLoose := by decide +kernel
def LX3_findLoose_10  (v : StV)   (post : LnV → Prop) : Nat → Int32 → LnV → Prop
  | 0, _, _ => False
  | n + 1, x2, w => (((s_en v) ≤ x2 → post w) ∧ (¬ (s_en v) ≤ x2 → (vp_in x2 200 ∧ (((s_du v 0 (x2.toNatClampNeg)) = (2 : Int64) → (vp_in x2 200 ∧ (vp_in x2 200 ∧ (PX2_add w x2 (s_du v 2 (x2.toNatClampNeg)) (s_du v 8 (x2.toNatClampNeg)) (fun (w_8 : LnV) => ∀ x2_9 : Int32, x2_9 = x2 + 1 → LX3_findLoose_10  v post n x2_9 w_8))))) ∧ (¬ (s_du v 0 (x2.toNatClampNeg)) = (2 : Int64) → ∀ x2_5 : Int32, x2_5 = x2 + 1 → LX3_findLoose_10  v post n x2_5 w)))))
set_option maxHeartbeats 4000000 in
set_option maxRecDepth 100000 in
theorem kX3_findLoose_10 {p : Program} {e : Env} {s : State} {m : MethodId} {args : Array Value} {below : List Frame} {meth : Method} {c : Code} (l : Launch) (dC : Nat → ClassId) (dI : Nat → Nat → Nat) (ad : Nat → Nat) (ci : Nat → ClassId) (A : Nat → Prop) (ns : Nat) (hAD : xw_D (xn ns) ad A) (st : Nat → StV) (v : StV) (ln : Nat → LnV) (sv : SvV) (kv : KvV) (cu : Nat) (j : Nat) (hj : j < ns)   (post : LnV → Prop) (C0 : xC p s m args meth c cX3_findLoose 3 none RX3 wsX3_findLoose (dC, dI) (xT ci)) : ∀ (n : Nat) (x2 : Int32) (w : LnV) (H : Heap) (locs : List Loc) (ls : Array Slot), LX3_findLoose_10  v post n x2 w → va_P (dC, dI) vwCl (xw (xn ns) ad (xc ad ci (va_up st j v) (va_up ln 1 w) sv kv cu)) H → va_S A s.heap H locs → lv_has ls 3 [(0, .ref (ad 8)), (1, .ref (ad (xaS j))), (2, .int x2)] → W p l e rmX3_findLoose s m args below meth c H locs 0 0 (MQ below (va_Qv (fun u : LnV => post u) (fun u t => va_P (dC, dI) vwCl (xw (xn ns) ad (xc ad ci (va_up st j v) (va_up ln 1 u) sv kv cu)) t.heap) A) args s 0 0 A) (F0 m 10 ls []) := by
  obtain ⟨hx, hb, -, hr, hlocks, hown, hts, hK⟩ := id C0
  intro n
  induction n with
  | zero =>
    intro x2 w H locs ls h
    exact False.elim h
  | succ n ih =>
    intro x2 w H locs ls h hP hS hl
    rw [LX3_findLoose_10] at h
    refine lv_iload_n hx hb dX3_findLoose_10 rfl (lv_at hl 2 rfl) ?_
    refine lv_aload_n hx hb dX3_findLoose_11 rfl (lv_at hl 1 rfl) ?_
    refine xr_get (D := (dC, dI)) (C := RX4) (T := TX4) (N := 8) (v := .int (s_en v)) hx hb hts wX3_findLoose_c4 hown hK hP (xaS j) (xq_S hj) (xe_S (va_up_self _ _ _)) rfl 4 (by decide) wX3_findLoose_f71 rfl rfl dX3_findLoose_12 ?_
    refine lv_icmp_ge (tgt := 64) hx hb dX3_findLoose_15 (by decide) (fun c_2 => ?_) (fun c_2 => ?_)
    · have h := h.1 c_2
      exact W.vret hx hb hr (fun t ht hW => ⟨⟨w, rfl, h, x_ht ht hP⟩, hS.F ht⟩) hS.2.2 dX3_findLoose_64
    · have h := h.2 c_2
      refine lv_aload_n hx hb dX3_findLoose_18 rfl (lv_at hl 1 rfl) ?_
      refine xr_get (D := (dC, dI)) (C := RX4) (T := TX4) (N := 8) (v := .ref (ad (xaD0 j))) hx hb hts wX3_findLoose_c4 hown hK hP (xaS j) (xq_S hj) (xe_S (va_up_self _ _ _)) rfl 6 (by decide) wX3_findLoose_f40 rfl rfl dX3_findLoose_19 ?_
      refine lv_iconst (v := (0 : Int32)) hx hb dX3_findLoose_22 (by decide) ?_
      refine xr_aald (k := 0) (b := ad (xaD j 0)) hx hb hK hP (xaD0 j) 4 (xq_D0 hj) xe_D0 rfl rfl rfl (x_in _ _ (by decide)) rfl dX3_findLoose_23 ?_
      refine lv_iload_n hx hb dX3_findLoose_24 rfl (lv_at hl 2 rfl) ?_
      obtain ⟨g_3, h⟩ := h
      refine xr_lald (k := x2.toNatClampNeg) hx hb hK hP (xaD j 0) 1 (xq_D hj (by decide)) (xe_D (by decide) (va_up_self _ _ _)) rfl rfl g_3 dX3_findLoose_25 ?_
      refine lv_ldc2 (v := (2 : Int64)) hx hb hown (hts _ wX3_findLoose_k74) dX3_findLoose_26 ?_
      refine xr_if_lcmp_ne (tgt := 58) hx hb dX3_findLoose_29 dX3_findLoose_30 (by decide) (fun c_4 => ?_) (fun c_4 => ?_)
      · have h := h.2 c_4
        obtain ⟨x2_5, ex2_5⟩ : ∃ z : Int32, z = x2 + 1 := ⟨_, rfl⟩
        have h := h x2_5 ex2_5
        refine lv_iinc (v := x2_5) (lv' := [(2, .int x2_5), (0, .ref (ad 8)), (1, .ref (ad (xaS j)))]) hx hb dX3_findLoose_58 hl (k := 2) rfl (by rw [ex2_5]; rfl) (by decide) rfl (fun ls hl => ?_)
        refine lv_goto (tgt := 10) hx hb dX3_findLoose_61 (by decide) ?_
        exact ih x2_5 w _ _ _ h hP hS (lv_sub hl [1, 2, 0] rfl)
      · have h := h.1 c_4
        refine lv_aload_n hx hb dX3_findLoose_33 rfl (lv_at hl 0 rfl) ?_
        refine xr_get (D := (dC, dI)) (C := RX3) (T := TX3) (N := 4) (v := .ref (ad (xaL 1))) hx hb hts wX3_findLoose_c3 hown hK hP 8 (xq_c (by decide)) xe_T rfl 0 (by decide) wX3_findLoose_f12 rfl rfl dX3_findLoose_34 ?_
        refine lv_iload_n hx hb dX3_findLoose_37 rfl (lv_at hl 2 rfl) ?_
        refine lv_aload_n hx hb dX3_findLoose_38 rfl (lv_at hl 1 rfl) ?_
        refine xr_get (D := (dC, dI)) (C := RX4) (T := TX4) (N := 8) (v := .ref (ad (xaD0 j))) hx hb hts wX3_findLoose_c4 hown hK hP (xaS j) (xq_S hj) (xe_S (va_up_self _ _ _)) rfl 6 (by decide) wX3_findLoose_f40 rfl rfl dX3_findLoose_39 ?_
        refine lv_iconst (v := (2 : Int32)) hx hb dX3_findLoose_42 (by decide) ?_
        refine xr_aald (k := 2) (b := ad (xaD j 2)) hx hb hK hP (xaD0 j) 4 (xq_D0 hj) xe_D0 rfl rfl rfl (x_in _ _ (by decide)) rfl dX3_findLoose_43 ?_
        refine lv_iload_n hx hb dX3_findLoose_44 rfl (lv_at hl 2 rfl) ?_
        obtain ⟨g_6, h⟩ := h
        refine xr_lald (k := x2.toNatClampNeg) hx hb hK hP (xaD j 2) 1 (xq_D hj (by decide)) (xe_D (by decide) (va_up_self _ _ _)) rfl rfl g_6 dX3_findLoose_45 ?_
        refine lv_aload_n hx hb dX3_findLoose_46 rfl (lv_at hl 1 rfl) ?_
        refine xr_get (D := (dC, dI)) (C := RX4) (T := TX4) (N := 8) (v := .ref (ad (xaD0 j))) hx hb hts wX3_findLoose_c4 hown hK hP (xaS j) (xq_S hj) (xe_S (va_up_self _ _ _)) rfl 6 (by decide) wX3_findLoose_f40 rfl rfl dX3_findLoose_47 ?_
        refine lv_bipush (v := (8 : Int32)) hx hb dX3_findLoose_50 (by decide) ?_
        refine xr_aald (k := 8) (b := ad (xaD j 8)) hx hb hK hP (xaD0 j) 4 (xq_D0 hj) xe_D0 rfl rfl rfl (x_in _ _ (by decide)) rfl dX3_findLoose_52 ?_
        refine lv_iload_n hx hb dX3_findLoose_53 rfl (lv_at hl 2 rfl) ?_
        obtain ⟨g_7, h⟩ := h
        refine xr_lald (k := x2.toNatClampNeg) hx hb hK hP (xaD j 8) 1 (xq_D hj (by decide)) (xe_D (by decide) (va_up_self _ _ _)) rfl rfl g_7 dX3_findLoose_54 ?_
        refine va_callv (va_runV (As := [.int x2, .long (s_du v 2 (x2.toNatClampNeg)), .long (s_du v 8 (x2.toNatClampNeg))]) (rest := []) ⟨hx, hb, C0.2.2.1, hown, hts⟩ (qX2_add l dC dI ad ci A ns hAD (va_up st j v) ln w sv kv cu 1 (by decide) x2 (s_du v 2 (x2.toNatClampNeg)) (s_du v 8 (x2.toNatClampNeg)) _ h) (cwV 3 hts gX3_findLoose_X2_add rfl rfl rfl (by decide +kernel) ⟨Nat.le_of_ble_eq_true rfl, Nat.le_of_ble_eq_true rfl⟩) ⟨xr_blind, xr_recv (r := (RX2, TX2, 4)) hK hP (xaL 1) (xq_L (by decide)) (xe_L (by decide) (va_up_self _ _ _)) rfl, xr_pre hP hK⟩ rfl rfl hl.1 rfl (lv_room (Nat.le_of_ble_eq_true rfl)) dX3_findLoose_55 ⟨Nat.le_of_ble_eq_true rfl, Nat.le_of_ble_eq_true rfl⟩) hS (fun _ _ h => h) (fun _ h => h) (fun w_8 t9 H locs ht hvm h hB _ _ hS => ?_)
        refine W.cs (cells' := 0) (slots' := 0) rfl rfl ?_
        have hP := x_th ht hB
        have hP : va_P (dC, dI) vwCl (xw (xn ns) ad (xc ad ci (va_up st j v) (va_up ln 1 w_8) sv kv cu)) H := hP
        obtain ⟨x2_9, ex2_9⟩ : ∃ z : Int32, z = x2 + 1 := ⟨_, rfl⟩
        have h := h x2_9 ex2_9
        refine lv_iinc (v := x2_9) (lv' := [(2, .int x2_9), (0, .ref (ad 8)), (1, .ref (ad (xaS j)))]) hx hb dX3_findLoose_58 hl (k := 2) rfl (by rw [ex2_9]; rfl) (by decide) rfl (fun ls hl => ?_)
        refine lv_goto (tgt := 10) hx hb dX3_findLoose_61 (by decide) ?_
        exact ih x2_9 w_8 _ _ _ h hP hS (lv_sub hl [1, 2, 0] rfl)
def PX3_findLoose  (v : StV) (w : LnV)  (post : LnV → Prop) : Prop :=
  ∀ w_1 : LnV, w_1 = l_wsz w (0 : Int32) → (∃ n_10 : Nat, LX3_findLoose_10  v  post n_10 (0 : Int32) w_1)
set_option maxHeartbeats 4000000 in
set_option maxRecDepth 100000 in
theorem qX3_findLoose (l : Launch) (dC : Nat → ClassId) (dI : Nat → Nat → Nat) (ad : Nat → Nat) (ci : Nat → ClassId) (A : Nat → Prop) (ns : Nat) (hAD : xw_D (xn ns) ad A) (st : Nat → StV) (v : StV) (ln : Nat → LnV) (w : LnV) (sv : SvV) (kv : KvV) (cu : Nat) (j : Nat) (hj : j < ns)  (post : LnV → Prop) (h : PX3_findLoose v w post) : Met l yX3_findLoose wsX3_findLoose rmX3_findLoose (va_Pc [.ref (ad 8), .ref (ad (xaS j))] (fun U => va_P (dC, dI) vwCl (xw (xn ns) ad (xc ad ci (va_up st j v) (va_up ln 1 w) sv kv cu)) U.heap ∧ va_K (dC, dI) vwCl (xT ci) U)) (va_Qv (fun u : LnV => post u) (fun u t => va_P (dC, dI) vwCl (xw (xn ns) ad (xc ad ci (va_up st j v) (va_up ln 1 u) sv kv cu)) t.heap) A) 0 0 A := by
  refine Met.ofW (cc := cX3_findLoose) (maxL := 3) (ret := none) (by decide) rfl ?_
  intro p e s m args below meth c s₁ B hml hv
  obtain ⟨eargs, hP, hK⟩ := hv
  have C0 : xC p s m args meth c cX3_findLoose 3 none RX3 wsX3_findLoose (dC, dI) (xT ci) := ⟨B.exec, B.bytes, hml, B.returns, B.notSynchronized, findClass_of_methodNamed B.named, atoms_spec (ws := wsX3_findLoose) B.pre, hK⟩
  obtain ⟨hx, hb, -, hr, hlocks, hown, hts, -⟩ := id C0
  have hS : va_S A s.heap s.heap [] := va_S.rf
  have hl := lv_entry ([.ref (ad 8), .ref (ad (xaS j))]) (n := 3) (Nat.le_of_ble_eq_true rfl)
  have ef : entryFrame m args 3 = entryFrame m ([.ref (ad 8), .ref (ad (xaS j))] : List Value).toArray 3 := by rw [eargs]
  rw [ef, lg_entry_eq]
  generalize (lg_sl ([.ref (ad 8), .ref (ad (xaS j))]) ++ List.replicate (3 - (lg_sl ([.ref (ad 8), .ref (ad (xaS j))])).length) Slot.unset).toArray = ls at hl ⊢
  have hl : lv_has ls 3 [(0, .ref (ad 8)), (1, .ref (ad (xaS j)))] := hl
  have hP : va_P (dC, dI) vwCl (xw (xn ns) ad (xc ad ci (va_up st j v) (va_up ln 1 w) sv kv cu)) s.heap := hP
  unfold PX3_findLoose at h
  refine lv_aload_n hx hb dX3_findLoose_0 rfl (lv_at hl 0 rfl) ?_
  refine xr_get (D := (dC, dI)) (C := RX3) (T := TX3) (N := 4) (v := .ref (ad (xaL 1))) hx hb hts wX3_findLoose_c3 hown hK hP 8 (xq_c (by decide)) xe_T rfl 0 (by decide) wX3_findLoose_f12 rfl rfl dX3_findLoose_1 ?_
  refine lv_iconst (v := (0 : Int32)) hx hb dX3_findLoose_4 (by decide) ?_
  obtain ⟨w_1, ew_1⟩ : ∃ z : LnV, z = l_wsz w (0 : Int32) := ⟨_, rfl⟩
  have h := h w_1 ew_1
  refine xr_put (D := (dC, dI)) (C := RX2) (T := TX2) (N := 4) (ty := .int) (v := .int (0 : Int32)) (g := (xc ad ci (va_up st j v) (va_up ln 1 w_1) sv kv cu)) hx hb hts wX3_findLoose_c2 tyX2 tyX2_ok nmX2 hown hK hP hAD hS (xaL 1) (xq_L (by decide)) (xe_L (by decide) (va_up_self _ _ _)) rfl 0 (by decide) wX3_findLoose_f32 rfl rfl (by decide +kernel) rfl rfl (Nat.le_of_ble_eq_true rfl) dX3_findLoose_5 (xg_lsz (by decide) (va_up_self _ _ _) (by rw [ew_1]; exact bx_uu _ _ _ _)) (fun H locs hP hS => ?_)
  refine lv_iconst (v := (0 : Int32)) hx hb dX3_findLoose_8 (by decide) ?_
  refine lv_istore_n (lv' := [(2, .int (0 : Int32)), (0, .ref (ad 8)), (1, .ref (ad (xaS j)))]) hx hb dX3_findLoose_9 rfl hl (by decide) rfl (fun ls hl => ?_)
  obtain ⟨n_10, h⟩ := h
  exact kX3_findLoose_10 l dC dI ad ci A ns hAD st v ln sv kv cu j hj    post C0  n_10 (0 : Int32) w_1 _ _ _ h hP hS (lv_sub hl [1, 2, 0] rfl)
abbrev rmX3_leastFast : Room := { frames := 0, cells := 0, slots := 0, locals := 0 }
theorem wX3_leastFast_k58 : Cond.constantLong RX3 58 (-2000000005) ∈ wsX3_leastFast := by decide +kernel
theorem wX3_leastFast_c3 : ∀ w ∈ u_ws RX3 TX3 4, w ∈ wsX3_leastFast := by decide +kernel
theorem wX3_leastFast_f22 : Cond.fieldLink RX3 22 "DueWheels$Settling" "fast" "[J" ∈ wsX3_leastFast := by decide +kernel
theorem wX3_leastFast_f68 : Cond.fieldLink RX3 68 "DueWheels$Settling" "fastSize" "I" ∈ wsX3_leastFast := by decide +kernel
def LX3_leastFast_8  (sv : SvV) (x1 : Int64) (x3 : Int64)  (post : Int64 → Prop) : Nat → Int64 → Int32 → Prop
  | 0, _, _ => False
  | n + 1, x5, x7 => (((t_fz sv) ≤ x7 → post x5) ∧ (¬ (t_fz sv) ≤ x7 → (vp_in x7 200 ∧ (((t_fa sv (x7.toNatClampNeg)) < x1 → ∀ x7_4 : Int32, x7_4 = x7 + 1 → LX3_leastFast_8  sv x1 x3 post n x5 x7_4) ∧ (¬ (t_fa sv (x7.toNatClampNeg)) < x1 → (vp_in x7 200 ∧ ((x3 < (t_fa sv (x7.toNatClampNeg)) → ∀ x7_7 : Int32, x7_7 = x7 + 1 → LX3_leastFast_8  sv x1 x3 post n x5 x7_7) ∧ (¬ x3 < (t_fa sv (x7.toNatClampNeg)) → ((x5 = (-2000000005 : Int64) → (vp_in x7 200 ∧ ∀ x5_10 : Int64, x5_10 = (t_fa sv (x7.toNatClampNeg)) → ∀ x7_11 : Int32, x7_11 = x7 + 1 → LX3_leastFast_8  sv x1 x3 post n x5_10 x7_11)) ∧ (¬ x5 = (-2000000005 : Int64) → (vp_in x7 200 ∧ ((x5 ≤ (t_fa sv (x7.toNatClampNeg)) → ∀ x7_14 : Int32, x7_14 = x7 + 1 → LX3_leastFast_8  sv x1 x3 post n x5 x7_14) ∧ (¬ x5 ≤ (t_fa sv (x7.toNatClampNeg)) → (vp_in x7 200 ∧ ∀ x5_16 : Int64, x5_16 = (t_fa sv (x7.toNatClampNeg)) → ∀ x7_17 : Int32, x7_17 = x7 + 1 → LX3_leastFast_8  sv x1 x3 post n x5_16 x7_17))))))))))))))
set_option maxHeartbeats 4000000 in
set_option maxRecDepth 100000 in
theorem kX3_leastFast_8 {p : Program} {e : Env} {s : State} {m : MethodId} {args : Array Value} {below : List Frame} {meth : Method} {c : Code} (l : Launch) (dC : Nat → ClassId) (dI : Nat → Nat → Nat) (ad : Nat → Nat) (ci : Nat → ClassId) (A : Nat → Prop) (ns : Nat) (hAD : xw_D (xn ns) ad A) (st : Nat → StV) (ln : Nat → LnV) (sv : SvV) (kv : KvV) (cu : Nat) (x1 : Int64) (x3 : Int64)  (post : Int64 → Prop) (C0 : xC p s m args meth c cX3_leastFast 8 (some .long) RX3 wsX3_leastFast (dC, dI) (xT ci)) : ∀ (n : Nat) (x5 : Int64) (x7 : Int32) (H : Heap) (locs : List Loc) (ls : Array Slot), LX3_leastFast_8  sv x1 x3 post n x5 x7 → va_P (dC, dI) vwCl (xw (xn ns) ad (xc ad ci st ln sv kv cu)) H → va_S A s.heap H locs → lv_has ls 8 [(0, .ref (ad 8)), (1, .long x1), (3, .long x3), (5, .long x5), (7, .int x7)] → W p l e rmX3_leastFast s m args below meth c H locs 0 0 (MQ below (va_Ql (fun r9 (u : Unit) => post r9 ) (fun u t => va_P (dC, dI) vwCl (xw (xn ns) ad (xc ad ci st ln sv kv cu)) t.heap) A) args s 0 0 A) (F0 m 8 ls []) := by
  obtain ⟨hx, hb, -, hr, hlocks, hown, hts, hK⟩ := id C0
  intro n
  induction n with
  | zero =>
    intro x5 x7 H locs ls h
    exact False.elim h
  | succ n ih =>
    intro x5 x7 H locs ls h hP hS hl
    rw [LX3_leastFast_8] at h
    refine lv_iload hx hb dX3_leastFast_8 (lv_at hl 4 rfl) ?_
    refine lv_aload_n hx hb dX3_leastFast_10 rfl (lv_at hl 0 rfl) ?_
    refine xr_get (D := (dC, dI)) (C := RX3) (T := TX3) (N := 4) (v := .int (t_fz sv)) hx hb hts wX3_leastFast_c3 hown hK hP 8 (xq_c (by decide)) xe_T rfl 3 (by decide) wX3_leastFast_f68 rfl rfl dX3_leastFast_11 ?_
    refine lv_icmp_ge (tgt := 78) hx hb dX3_leastFast_14 (by decide) (fun c_1 => ?_) (fun c_1 => ?_)
    · have h := h.1 c_1
      refine lv_lload hx hb dX3_leastFast_78 (lv_at hl 3 rfl) ?_
      exact W.lret (v := x5) hx hb hr (fun t ht hW => ⟨⟨x5, (), rfl, h, x_ht ht hP⟩, hS.F ht⟩) hS.2.2 dX3_leastFast_80
    · have h := h.2 c_1
      refine lv_aload_n hx hb dX3_leastFast_17 rfl (lv_at hl 0 rfl) ?_
      refine xr_get (D := (dC, dI)) (C := RX3) (T := TX3) (N := 4) (v := .ref (ad 14)) hx hb hts wX3_leastFast_c3 hown hK hP 8 (xq_c (by decide)) xe_T rfl 2 (by decide) wX3_leastFast_f22 rfl rfl dX3_leastFast_18 ?_
      refine lv_iload hx hb dX3_leastFast_21 (lv_at hl 4 rfl) ?_
      obtain ⟨g_2, h⟩ := h
      refine xr_lald (k := x7.toNatClampNeg) hx hb hK hP 14 1 (xq_c (by decide)) xe_fa rfl rfl g_2 dX3_leastFast_23 ?_
      refine lv_lload_n hx hb dX3_leastFast_24 rfl (lv_at hl 1 rfl) ?_
      refine xr_if_lcmp_lt (tgt := 72) hx hb dX3_leastFast_25 dX3_leastFast_26 (by decide) (fun c_3 => ?_) (fun c_3 => ?_)
      · have h := h.1 c_3
        obtain ⟨x7_4, ex7_4⟩ : ∃ z : Int32, z = x7 + 1 := ⟨_, rfl⟩
        have h := h x7_4 ex7_4
        refine lv_iinc (v := x7_4) (lv' := [(7, .int x7_4), (0, .ref (ad 8)), (1, .long x1), (3, .long x3), (5, .long x5)]) hx hb dX3_leastFast_72 hl (k := 4) rfl (by rw [ex7_4]; rfl) (by decide) rfl (fun ls hl => ?_)
        refine lv_goto (tgt := 8) hx hb dX3_leastFast_75 (by decide) ?_
        exact ih x5 x7_4 _ _ _ h hP hS (lv_sub hl [1, 2, 3, 4, 0] rfl)
      · have h := h.2 c_3
        refine lv_aload_n hx hb dX3_leastFast_29 rfl (lv_at hl 0 rfl) ?_
        refine xr_get (D := (dC, dI)) (C := RX3) (T := TX3) (N := 4) (v := .ref (ad 14)) hx hb hts wX3_leastFast_c3 hown hK hP 8 (xq_c (by decide)) xe_T rfl 2 (by decide) wX3_leastFast_f22 rfl rfl dX3_leastFast_30 ?_
        refine lv_iload hx hb dX3_leastFast_33 (lv_at hl 4 rfl) ?_
        obtain ⟨g_5, h⟩ := h
        refine xr_lald (k := x7.toNatClampNeg) hx hb hK hP 14 1 (xq_c (by decide)) xe_fa rfl rfl g_5 dX3_leastFast_35 ?_
        refine lv_lload_n hx hb dX3_leastFast_36 rfl (lv_at hl 2 rfl) ?_
        refine xr_if_lcmp_gt (tgt := 72) hx hb dX3_leastFast_37 dX3_leastFast_38 (by decide) (fun c_6 => ?_) (fun c_6 => ?_)
        · have h := h.1 c_6
          obtain ⟨x7_7, ex7_7⟩ : ∃ z : Int32, z = x7 + 1 := ⟨_, rfl⟩
          have h := h x7_7 ex7_7
          refine lv_iinc (v := x7_7) (lv' := [(7, .int x7_7), (0, .ref (ad 8)), (1, .long x1), (3, .long x3), (5, .long x5)]) hx hb dX3_leastFast_72 hl (k := 4) rfl (by rw [ex7_7]; rfl) (by decide) rfl (fun ls hl => ?_)
          refine lv_goto (tgt := 8) hx hb dX3_leastFast_75 (by decide) ?_
          exact ih x5 x7_7 _ _ _ h hP hS (lv_sub hl [1, 2, 3, 4, 0] rfl)
        · have h := h.2 c_6
          refine lv_lload hx hb dX3_leastFast_41 (lv_at hl 3 rfl) ?_
          refine lv_ldc2 (v := (-2000000005 : Int64)) hx hb hown (hts _ wX3_leastFast_k58) dX3_leastFast_43 ?_
          refine xr_if_lcmp_eq (tgt := 63) hx hb dX3_leastFast_46 dX3_leastFast_47 (by decide) (fun c_8 => ?_) (fun c_8 => ?_)
          · have h := h.1 c_8
            refine lv_aload_n hx hb dX3_leastFast_63 rfl (lv_at hl 0 rfl) ?_
            refine xr_get (D := (dC, dI)) (C := RX3) (T := TX3) (N := 4) (v := .ref (ad 14)) hx hb hts wX3_leastFast_c3 hown hK hP 8 (xq_c (by decide)) xe_T rfl 2 (by decide) wX3_leastFast_f22 rfl rfl dX3_leastFast_64 ?_
            refine lv_iload hx hb dX3_leastFast_67 (lv_at hl 4 rfl) ?_
            obtain ⟨g_9, h⟩ := h
            refine xr_lald (k := x7.toNatClampNeg) hx hb hK hP 14 1 (xq_c (by decide)) xe_fa rfl rfl g_9 dX3_leastFast_69 ?_
            refine lv_topl (fun x5_10 ex5_10 => ?_)
            have h := h x5_10 ex5_10
            refine lv_lstore (lv' := [(5, .long x5_10), (0, .ref (ad 8)), (1, .long x1), (3, .long x3), (7, .int x7)]) hx hb dX3_leastFast_70 hl (by decide) rfl (fun ls hl => ?_)
            obtain ⟨x7_11, ex7_11⟩ : ∃ z : Int32, z = x7 + 1 := ⟨_, rfl⟩
            have h := h x7_11 ex7_11
            refine lv_iinc (v := x7_11) (lv' := [(7, .int x7_11), (5, .long x5_10), (0, .ref (ad 8)), (1, .long x1), (3, .long x3)]) hx hb dX3_leastFast_72 hl (k := 4) rfl (by rw [ex7_11]; rfl) (by decide) rfl (fun ls hl => ?_)
            refine lv_goto (tgt := 8) hx hb dX3_leastFast_75 (by decide) ?_
            exact ih x5_10 x7_11 _ _ _ h hP hS (lv_sub hl [2, 3, 4, 1, 0] rfl)
          · have h := h.2 c_8
            refine lv_aload_n hx hb dX3_leastFast_50 rfl (lv_at hl 0 rfl) ?_
            refine xr_get (D := (dC, dI)) (C := RX3) (T := TX3) (N := 4) (v := .ref (ad 14)) hx hb hts wX3_leastFast_c3 hown hK hP 8 (xq_c (by decide)) xe_T rfl 2 (by decide) wX3_leastFast_f22 rfl rfl dX3_leastFast_51 ?_
            refine lv_iload hx hb dX3_leastFast_54 (lv_at hl 4 rfl) ?_
            obtain ⟨g_12, h⟩ := h
            refine xr_lald (k := x7.toNatClampNeg) hx hb hK hP 14 1 (xq_c (by decide)) xe_fa rfl rfl g_12 dX3_leastFast_56 ?_
            refine lv_lload hx hb dX3_leastFast_57 (lv_at hl 3 rfl) ?_
            refine xr_if_lcmp_ge (tgt := 72) hx hb dX3_leastFast_59 dX3_leastFast_60 (by decide) (fun c_13 => ?_) (fun c_13 => ?_)
            · have h := h.1 c_13
              obtain ⟨x7_14, ex7_14⟩ : ∃ z : Int32, z = x7 + 1 := ⟨_, rfl⟩
              have h := h x7_14 ex7_14
              refine lv_iinc (v := x7_14) (lv' := [(7, .int x7_14), (0, .ref (ad 8)), (1, .long x1), (3, .long x3), (5, .long x5)]) hx hb dX3_leastFast_72 hl (k := 4) rfl (by rw [ex7_14]; rfl) (by decide) rfl (fun ls hl => ?_)
              refine lv_goto (tgt := 8) hx hb dX3_leastFast_75 (by decide) ?_
              exact ih x5 x7_14 _ _ _ h hP hS (lv_sub hl [1, 2, 3, 4, 0] rfl)
            · have h := h.2 c_13
              refine lv_aload_n hx hb dX3_leastFast_63 rfl (lv_at hl 0 rfl) ?_
              refine xr_get (D := (dC, dI)) (C := RX3) (T := TX3) (N := 4) (v := .ref (ad 14)) hx hb hts wX3_leastFast_c3 hown hK hP 8 (xq_c (by decide)) xe_T rfl 2 (by decide) wX3_leastFast_f22 rfl rfl dX3_leastFast_64 ?_
              refine lv_iload hx hb dX3_leastFast_67 (lv_at hl 4 rfl) ?_
              obtain ⟨g_15, h⟩ := h
              refine xr_lald (k := x7.toNatClampNeg) hx hb hK hP 14 1 (xq_c (by decide)) xe_fa rfl rfl g_15 dX3_leastFast_69 ?_
              refine lv_topl (fun x5_16 ex5_16 => ?_)
              have h := h x5_16 ex5_16
              refine lv_lstore (lv' := [(5, .long x5_16), (0, .ref (ad 8)), (1, .long x1), (3, .long x3), (7, .int x7)]) hx hb dX3_leastFast_70 hl (by decide) rfl (fun ls hl => ?_)
              obtain ⟨x7_17, ex7_17⟩ : ∃ z : Int32, z = x7 + 1 := ⟨_, rfl⟩
              have h := h x7_17 ex7_17
              refine lv_iinc (v := x7_17) (lv' := [(7, .int x7_17), (5, .long x5_16), (0, .ref (ad 8)), (1, .long x1), (3, .long x3)]) hx hb dX3_leastFast_72 hl (k := 4) rfl (by rw [ex7_17]; rfl) (by decide) rfl (fun ls hl => ?_)
              refine lv_goto (tgt := 8) hx hb dX3_leastFast_75 (by decide) ?_
              exact ih x5_16 x7_17 _ _ _ h hP hS (lv_sub hl [2, 3, 4, 1, 0] rfl)
def PX3_leastFast  (sv : SvV) (x1 : Int64) (x3 : Int64) (post : Int64 → Prop) : Prop :=
  (∃ n_18 : Nat, LX3_leastFast_8  sv x1 x3  post n_18 (-2000000005 : Int64) (0 : Int32))
set_option maxHeartbeats 4000000 in
set_option maxRecDepth 100000 in
theorem qX3_leastFast (l : Launch) (dC : Nat → ClassId) (dI : Nat → Nat → Nat) (ad : Nat → Nat) (ci : Nat → ClassId) (A : Nat → Prop) (ns : Nat) (hAD : xw_D (xn ns) ad A) (st : Nat → StV) (ln : Nat → LnV) (sv : SvV) (kv : KvV) (cu : Nat) (x1 : Int64) (x3 : Int64) (post : Int64 → Prop) (h : PX3_leastFast sv x1 x3 post) : Met l yX3_leastFast wsX3_leastFast rmX3_leastFast (va_Pc [.ref (ad 8), .long x1, .long x3] (fun U => va_P (dC, dI) vwCl (xw (xn ns) ad (xc ad ci st ln sv kv cu)) U.heap ∧ va_K (dC, dI) vwCl (xT ci) U)) (va_Ql (fun r9 (u : Unit) => post r9 ) (fun u t => va_P (dC, dI) vwCl (xw (xn ns) ad (xc ad ci st ln sv kv cu)) t.heap) A) 0 0 A := by
  refine Met.ofW (cc := cX3_leastFast) (maxL := 8) (ret := (some .long)) (by decide) rfl ?_
  intro p e s m args below meth c s₁ B hml hv
  obtain ⟨eargs, hP, hK⟩ := hv
  have C0 : xC p s m args meth c cX3_leastFast 8 (some .long) RX3 wsX3_leastFast (dC, dI) (xT ci) := ⟨B.exec, B.bytes, hml, B.returns, B.notSynchronized, findClass_of_methodNamed B.named, atoms_spec (ws := wsX3_leastFast) B.pre, hK⟩
  obtain ⟨hx, hb, -, hr, hlocks, hown, hts, -⟩ := id C0
  have hS : va_S A s.heap s.heap [] := va_S.rf
  have hl := lv_entry ([.ref (ad 8), .long x1, .long x3]) (n := 8) (Nat.le_of_ble_eq_true rfl)
  have ef : entryFrame m args 8 = entryFrame m ([.ref (ad 8), .long x1, .long x3] : List Value).toArray 8 := by rw [eargs]
  rw [ef, lg_entry_eq]
  generalize (lg_sl ([.ref (ad 8), .long x1, .long x3]) ++ List.replicate (8 - (lg_sl ([.ref (ad 8), .long x1, .long x3])).length) Slot.unset).toArray = ls at hl ⊢
  have hl : lv_has ls 8 [(0, .ref (ad 8)), (1, .long x1), (3, .long x3)] := hl
  have hP : va_P (dC, dI) vwCl (xw (xn ns) ad (xc ad ci st ln sv kv cu)) s.heap := hP
  unfold PX3_leastFast at h
  refine lv_ldc2 (v := (-2000000005 : Int64)) hx hb hown (hts _ wX3_leastFast_k58) dX3_leastFast_0 ?_
  refine lv_lstore (lv' := [(5, .long (-2000000005 : Int64)), (0, .ref (ad 8)), (1, .long x1), (3, .long x3)]) hx hb dX3_leastFast_3 hl (by decide) rfl (fun ls hl => ?_)
  refine lv_iconst (v := (0 : Int32)) hx hb dX3_leastFast_5 (by decide) ?_
  refine lv_istore (lv' := [(7, .int (0 : Int32)), (5, .long (-2000000005 : Int64)), (0, .ref (ad 8)), (1, .long x1), (3, .long x3)]) hx hb dX3_leastFast_6 hl (by decide) rfl (fun ls hl => ?_)
  obtain ⟨n_18, h⟩ := h
  exact kX3_leastFast_8 l dC dI ad ci A ns hAD st ln sv kv cu   x1 x3  post C0  n_18 (-2000000005 : Int64) (0 : Int32) _ _ _ h hP hS (lv_sub hl [2, 3, 4, 1, 0] rfl)
abbrev rmX3_plan : Room := { frames := 3, cells := 0, slots := 0, locals := 73 }
theorem wX3_plan_m49 : Cond.methodLink RX3 49 Lib.MathLoose.max_long.x ∈ wsX3_plan := by decide +kernel
theorem wX3_plan_m49a : Cond.static Lib.MathLoose.max_long.x ∈ wsX3_plan := by decide +kernel
theorem wX3_plan_mth : Cond.initialized "java/lang/Math" ∈ wsX3_plan := by decide +kernel
theorem wX3_plan_m49b : Cond.code Lib.MathLoose.max_long.x Lib.MathLoose.max_long.code 4 (some .long) ∈ wsX3_plan := by decide +kernel
theorem wX3_plan_k58 : Cond.constantLong RX3 58 (-2000000005) ∈ wsX3_plan := by decide +kernel
theorem wX3_plan_c3 : ∀ w ∈ u_ws RX3 TX3 4, w ∈ wsX3_plan := by decide +kernel
theorem wX3_plan_f18 : Cond.fieldLink RX3 18 "DueWheels$Settling" "settled" "[J" ∈ wsX3_plan := by decide +kernel
theorem wX3_plan_c4 : ∀ w ∈ u_ws RX4 TX4 8, w ∈ wsX3_plan := by decide +kernel
theorem wX3_plan_f45 : Cond.fieldLink RX3 45 "DueWheels$State" "time" "J" ∈ wsX3_plan := by decide +kernel
theorem wX3_plan_f40 : Cond.fieldLink RX3 40 "DueWheels$State" "dues" "[[J" ∈ wsX3_plan := by decide +kernel
theorem wX3_plan_c2 : ∀ w ∈ u_ws RX2 TX2 4, w ∈ wsX3_plan := by decide +kernel
theorem wX3_plan_f36 : Cond.fieldLink RX3 36 "DueWheels$Line" "dues" "[I" ∈ wsX3_plan := by decide +kernel
theorem wX3_plan_f12 : Cond.fieldLink RX3 12 "DueWheels$Settling" "line" "LDueWheels$Line;" ∈ wsX3_plan := by decide +kernel
theorem wX3_plan_f32 : Cond.fieldLink RX3 32 "DueWheels$Line" "size" "I" ∈ wsX3_plan := by decide +kernel
def LX3_plan_14  (v : StV) (w : LnV)   (post : Int32 → LnV → SvV → Prop) : Nat → Int32 → Int32 → SvV → Prop
  | 0, _, _, _ => False
  | n + 1, x2, x3, sv => (((l_sz w) ≤ x3 → post x2 w sv) ∧ (¬ (l_sz w) ≤ x3 → (vp_in x3 200 ∧ ∀ x4_5 : Int32, x4_5 = (l_du w (x3.toNatClampNeg)) → (vp_in x4_5 200 ∧ ∀ x5_7 : Int64, x5_7 = (s_du v 2 (x4_5.toNatClampNeg)) → (vp_in x4_5 200 ∧ (PX3_leastFast sv (if ((s_tm v) + (1 : Int64)) < (s_du v 3 (x4_5.toNatClampNeg)) then (s_du v 3 (x4_5.toNatClampNeg)) else ((s_tm v) + (1 : Int64))) x5_7 (fun (r_9 : Int64) => ((r_9 = (-2000000005 : Int64) → (PX3_addFast sv x5_7 (fun (sv_14 : SvV) => ∀ x2_15 : Int32, x2_15 = x2 + 1 → (vp_in x3 200 ∧ (∀ sv_17 : SvV, sv_17 = t_wsd sv_14 (vp_updL (t_sd sv_14) (x3.toNatClampNeg) x5_7) → ∀ x3_18 : Int32, x3_18 = x3 + 1 → LX3_plan_14  v w post n x2_15 x3_18 sv_17))))) ∧ (¬ r_9 = (-2000000005 : Int64) → (vp_in x3 200 ∧ (∀ sv_12 : SvV, sv_12 = t_wsd sv (vp_updL (t_sd sv) (x3.toNatClampNeg) r_9) → ∀ x3_13 : Int32, x3_13 = x3 + 1 → LX3_plan_14  v w post n x2 x3_13 sv_12)))))))))))
set_option maxHeartbeats 4000000 in
set_option maxRecDepth 100000 in
theorem kX3_plan_14 {p : Program} {e : Env} {s : State} {m : MethodId} {args : Array Value} {below : List Frame} {meth : Method} {c : Code} (l : Launch) (dC : Nat → ClassId) (dI : Nat → Nat → Nat) (ad : Nat → Nat) (ci : Nat → ClassId) (A : Nat → Prop) (ns : Nat) (hAD : xw_D (xn ns) ad A) (st : Nat → StV) (v : StV) (ln : Nat → LnV) (w : LnV) (kv : KvV) (cu : Nat) (j : Nat) (hj : j < ns)   (post : Int32 → LnV → SvV → Prop) (C0 : xC p s m args meth c cX3_plan 9 (some .int) RX3 wsX3_plan (dC, dI) (xT ci)) : ∀ (n : Nat) (x2 : Int32) (x3 : Int32) (sv : SvV) (H : Heap) (locs : List Loc) (ls : Array Slot), LX3_plan_14  v w post n x2 x3 sv → va_P (dC, dI) vwCl (xw (xn ns) ad (xc ad ci (va_up st j v) (va_up ln 1 w) sv kv cu)) H → va_S A s.heap H locs → lv_has ls 9 [(0, .ref (ad 8)), (1, .ref (ad (xaS j))), (2, .int x2), (3, .int x3)] → W p l e rmX3_plan s m args below meth c H locs 0 0 (MQ below (va_Qi (fun r9 (u : LnV × SvV) => post r9 (u.1) (u.2)) (fun u t => va_P (dC, dI) vwCl (xw (xn ns) ad (xc ad ci (va_up st j v) (va_up ln 1 (u.1)) (u.2) kv cu)) t.heap) A) args s 0 0 A) (F0 m 14 ls []) := by
  obtain ⟨hx, hb, -, hr, hlocks, hown, hts, hK⟩ := id C0
  intro n
  induction n with
  | zero =>
    intro x2 x3 sv H locs ls h
    exact False.elim h
  | succ n ih =>
    intro x2 x3 sv H locs ls h hP hS hl
    rw [LX3_plan_14] at h
    refine lv_iload_n hx hb dX3_plan_14 rfl (lv_at hl 3 rfl) ?_
    refine lv_aload_n hx hb dX3_plan_15 rfl (lv_at hl 0 rfl) ?_
    refine xr_get (D := (dC, dI)) (C := RX3) (T := TX3) (N := 4) (v := .ref (ad (xaL 1))) hx hb hts wX3_plan_c3 hown hK hP 8 (xq_c (by decide)) xe_T rfl 0 (by decide) wX3_plan_f12 rfl rfl dX3_plan_16 ?_
    refine xr_get (D := (dC, dI)) (C := RX2) (T := TX2) (N := 4) (v := .int (l_sz w)) hx hb hts wX3_plan_c2 hown hK hP (xaL 1) (xq_L (by decide)) (xe_L (by decide) (va_up_self _ _ _)) rfl 0 (by decide) wX3_plan_f32 rfl rfl dX3_plan_19 ?_
    refine lv_icmp_ge (tgt := 109) hx hb dX3_plan_22 (by decide) (fun c_3 => ?_) (fun c_3 => ?_)
    · have h := h.1 c_3
      refine lv_iload_n hx hb dX3_plan_109 rfl (lv_at hl 2 rfl) ?_
      exact W.iret (v := x2) hx hb hr (fun t ht hW => ⟨⟨x2, (w, sv), rfl, h, x_ht ht hP⟩, hS.F ht⟩) hS.2.2 dX3_plan_110
    · have h := h.2 c_3
      refine lv_aload_n hx hb dX3_plan_25 rfl (lv_at hl 0 rfl) ?_
      refine xr_get (D := (dC, dI)) (C := RX3) (T := TX3) (N := 4) (v := .ref (ad (xaL 1))) hx hb hts wX3_plan_c3 hown hK hP 8 (xq_c (by decide)) xe_T rfl 0 (by decide) wX3_plan_f12 rfl rfl dX3_plan_26 ?_
      refine xr_get (D := (dC, dI)) (C := RX2) (T := TX2) (N := 4) (v := .ref (ad (xaLd 1))) hx hb hts wX3_plan_c2 hown hK hP (xaL 1) (xq_L (by decide)) (xe_L (by decide) (va_up_self _ _ _)) rfl 1 (by decide) wX3_plan_f36 rfl rfl dX3_plan_29 ?_
      refine lv_iload_n hx hb dX3_plan_32 rfl (lv_at hl 3 rfl) ?_
      obtain ⟨g_4, h⟩ := h
      refine xr_iald (k := x3.toNatClampNeg) hx hb hK hP (xaLd 1) 0 (xq_Ld (by decide)) (xe_Ld (by decide) (va_up_self _ _ _)) rfl rfl g_4 dX3_plan_33 ?_
      refine lv_topi (fun x4_5 ex4_5 => ?_)
      have h := h x4_5 ex4_5
      refine lv_istore (lv' := [(4, .int x4_5), (0, .ref (ad 8)), (1, .ref (ad (xaS j))), (2, .int x2), (3, .int x3)]) hx hb dX3_plan_34 hl (by decide) rfl (fun ls hl => ?_)
      refine lv_aload_n hx hb dX3_plan_36 rfl (lv_at hl 2 rfl) ?_
      refine xr_get (D := (dC, dI)) (C := RX4) (T := TX4) (N := 8) (v := .ref (ad (xaD0 j))) hx hb hts wX3_plan_c4 hown hK hP (xaS j) (xq_S hj) (xe_S (va_up_self _ _ _)) rfl 6 (by decide) wX3_plan_f40 rfl rfl dX3_plan_37 ?_
      refine lv_iconst (v := (2 : Int32)) hx hb dX3_plan_40 (by decide) ?_
      refine xr_aald (k := 2) (b := ad (xaD j 2)) hx hb hK hP (xaD0 j) 4 (xq_D0 hj) xe_D0 rfl rfl rfl (x_in _ _ (by decide)) rfl dX3_plan_41 ?_
      refine lv_iload hx hb dX3_plan_42 (lv_at hl 0 rfl) ?_
      obtain ⟨g_6, h⟩ := h
      refine xr_lald (k := x4_5.toNatClampNeg) hx hb hK hP (xaD j 2) 1 (xq_D hj (by decide)) (xe_D (by decide) (va_up_self _ _ _)) rfl rfl g_6 dX3_plan_44 ?_
      refine lv_topl (fun x5_7 ex5_7 => ?_)
      have h := h x5_7 ex5_7
      refine lv_lstore (lv' := [(5, .long x5_7), (4, .int x4_5), (0, .ref (ad 8)), (1, .ref (ad (xaS j))), (2, .int x2), (3, .int x3)]) hx hb dX3_plan_45 hl (by decide) rfl (fun ls hl => ?_)
      refine lv_aload_n hx hb dX3_plan_47 rfl (lv_at hl 2 rfl) ?_
      refine lv_aload_n hx hb dX3_plan_48 rfl (lv_at hl 3 rfl) ?_
      refine xr_get (D := (dC, dI)) (C := RX4) (T := TX4) (N := 8) (v := .ref (ad (xaD0 j))) hx hb hts wX3_plan_c4 hown hK hP (xaS j) (xq_S hj) (xe_S (va_up_self _ _ _)) rfl 6 (by decide) wX3_plan_f40 rfl rfl dX3_plan_49 ?_
      refine lv_iconst (v := (3 : Int32)) hx hb dX3_plan_52 (by decide) ?_
      refine xr_aald (k := 3) (b := ad (xaD j 3)) hx hb hK hP (xaD0 j) 4 (xq_D0 hj) xe_D0 rfl rfl rfl (x_in _ _ (by decide)) rfl dX3_plan_53 ?_
      refine lv_iload hx hb dX3_plan_54 (lv_at hl 1 rfl) ?_
      obtain ⟨g_8, h⟩ := h
      refine xr_lald (k := x4_5.toNatClampNeg) hx hb hK hP (xaD j 3) 1 (xq_D hj (by decide)) (xe_D (by decide) (va_up_self _ _ _)) rfl rfl g_8 dX3_plan_56 ?_
      refine lv_aload_n hx hb dX3_plan_57 rfl (lv_at hl 3 rfl) ?_
      refine xr_get (D := (dC, dI)) (C := RX4) (T := TX4) (N := 8) (v := .long (s_tm v)) hx hb hts wX3_plan_c4 hown hK hP (xaS j) (xq_S hj) (xe_S (va_up_self _ _ _)) rfl 0 (by decide) wX3_plan_f45 rfl rfl dX3_plan_58 ?_
      refine lv_lconst (v := (1 : Int64)) hx hb dX3_plan_61 (by decide) ?_
      refine lv_ladd hx hb dX3_plan_62 ?_
      refine va_mmax_long hx hb (by rw [C0.2.2.1]; exact hl.1.symm) hown (hts _ wX3_plan_m49) (hts _ wX3_plan_m49a) (hts _ wX3_plan_mth) (hts _ wX3_plan_m49b) (Nat.le_of_ble_eq_true rfl) (Nat.le_of_ble_eq_true rfl) (Nat.le_of_ble_eq_true rfl) (Nat.le_of_ble_eq_true rfl) dX3_plan_63 ?_
      refine lv_lload hx hb dX3_plan_66 (lv_at hl 0 rfl) ?_
      refine va_calll (va_runV (As := [.long (if ((s_tm v) + (1 : Int64)) < (s_du v 3 (x4_5.toNatClampNeg)) then (s_du v 3 (x4_5.toNatClampNeg)) else ((s_tm v) + (1 : Int64))), .long x5_7]) (rest := []) ⟨hx, hb, C0.2.2.1, hown, hts⟩ (qX3_leastFast l dC dI ad ci A ns hAD (va_up st j v) (va_up ln 1 w) sv kv cu (if ((s_tm v) + (1 : Int64)) < (s_du v 3 (x4_5.toNatClampNeg)) then (s_du v 3 (x4_5.toNatClampNeg)) else ((s_tm v) + (1 : Int64))) x5_7 _ h) (cwV 2 hts gX3_plan_X3_leastFast rfl rfl rfl (by decide +kernel) ⟨Nat.le_of_ble_eq_true rfl, Nat.le_of_ble_eq_true rfl⟩) ⟨xr_blind, xr_recv (r := (RX3, TX3, 4)) hK hP 8 (xq_c (by decide)) xe_T rfl, xr_pre hP hK⟩ rfl rfl hl.1 rfl (lv_room (Nat.le_of_ble_eq_true rfl)) dX3_plan_68 ⟨Nat.le_of_ble_eq_true rfl, Nat.le_of_ble_eq_true rfl⟩) hS (fun _ _ h => h) (fun _ h => h) (fun r_9 _ t9 H locs ht hvm h hB _ _ hS => ?_)
      refine W.cs (cells' := 0) (slots' := 0) rfl rfl ?_
      have hP := x_th ht hB
      have hP : va_P (dC, dI) vwCl (xw (xn ns) ad (xc ad ci (va_up st j v) (va_up ln 1 w) sv kv cu)) H := hP
      refine lv_lstore (lv' := [(7, .long r_9), (5, .long x5_7), (4, .int x4_5), (0, .ref (ad 8)), (1, .ref (ad (xaS j))), (2, .int x2), (3, .int x3)]) hx hb dX3_plan_71 hl (by decide) rfl (fun ls hl => ?_)
      refine lv_lload hx hb dX3_plan_73 (lv_at hl 0 rfl) ?_
      refine lv_ldc2 (v := (-2000000005 : Int64)) hx hb hown (hts _ wX3_plan_k58) dX3_plan_75 ?_
      refine xr_if_lcmp_ne (tgt := 95) hx hb dX3_plan_78 dX3_plan_79 (by decide) (fun c_10 => ?_) (fun c_10 => ?_)
      · have h := h.2 c_10
        refine lv_aload_n hx hb dX3_plan_95 rfl (lv_at hl 3 rfl) ?_
        refine xr_get (D := (dC, dI)) (C := RX3) (T := TX3) (N := 4) (v := .ref (ad 13)) hx hb hts wX3_plan_c3 hown hK hP 8 (xq_c (by decide)) xe_T rfl 1 (by decide) wX3_plan_f18 rfl rfl dX3_plan_96 ?_
        refine lv_iload_n hx hb dX3_plan_99 rfl (lv_at hl 6 rfl) ?_
        refine lv_lload hx hb dX3_plan_100 (lv_at hl 0 rfl) ?_
        obtain ⟨g_11, h⟩ := h
        obtain ⟨sv_12, esv_12⟩ : ∃ z : SvV, z = t_wsd sv (vp_updL (t_sd sv) (x3.toNatClampNeg) r_9) := ⟨_, rfl⟩
        have h := h sv_12 esv_12
        refine xr_last (k := x3.toNatClampNeg) (x := r_9) (g := (xc ad ci (va_up st j v) (va_up ln 1 w) sv_12 kv cu)) hx hb hK hP hAD hS 13 1 (xq_c (by decide)) xe_sd rfl rfl g_11 dX3_plan_102 (by rw [esv_12]; exact xg_tsd) (fun H locs hP hS => ?_)
        obtain ⟨x3_13, ex3_13⟩ : ∃ z : Int32, z = x3 + 1 := ⟨_, rfl⟩
        have h := h x3_13 ex3_13
        refine lv_iinc (v := x3_13) (lv' := [(3, .int x3_13), (7, .long r_9), (5, .long x5_7), (4, .int x4_5), (0, .ref (ad 8)), (1, .ref (ad (xaS j))), (2, .int x2)]) hx hb dX3_plan_103 hl (k := 6) rfl (by rw [ex3_13]; rfl) (by decide) rfl (fun ls hl => ?_)
        refine lv_goto (tgt := 14) hx hb dX3_plan_106 (by decide) ?_
        exact ih x2 x3_13 sv_12 _ _ _ h hP hS (lv_sub hl [4, 5, 6, 0] rfl)
      · have h := h.1 c_10
        refine lv_aload_n hx hb dX3_plan_82 rfl (lv_at hl 3 rfl) ?_
        refine lv_lload hx hb dX3_plan_83 (lv_at hl 1 rfl) ?_
        refine va_callv (va_runV (As := [.long x5_7]) (rest := []) ⟨hx, hb, C0.2.2.1, hown, hts⟩ (qX3_addFast l dC dI ad ci A ns hAD (va_up st j v) (va_up ln 1 w) sv kv cu x5_7 _ h) (cwV 1 hts gX3_plan_X3_addFast rfl rfl rfl (by decide +kernel) ⟨Nat.le_of_ble_eq_true rfl, Nat.le_of_ble_eq_true rfl⟩) ⟨xr_blind, xr_recv (r := (RX3, TX3, 4)) hK hP 8 (xq_c (by decide)) xe_T rfl, xr_pre hP hK⟩ rfl rfl hl.1 rfl (lv_room (Nat.le_of_ble_eq_true rfl)) dX3_plan_85 ⟨Nat.le_of_ble_eq_true rfl, Nat.le_of_ble_eq_true rfl⟩) hS (fun _ _ h => h) (fun _ h => h) (fun sv_14 t9 H locs ht hvm h hB _ _ hS => ?_)
        refine W.cs (cells' := 0) (slots' := 0) rfl rfl ?_
        have hP := x_th ht hB
        have hP : va_P (dC, dI) vwCl (xw (xn ns) ad (xc ad ci (va_up st j v) (va_up ln 1 w) sv_14 kv cu)) H := hP
        refine lv_lload hx hb dX3_plan_88 (lv_at hl 1 rfl) ?_
        refine lv_lstore (lv' := [(7, .long x5_7), (5, .long x5_7), (4, .int x4_5), (0, .ref (ad 8)), (1, .ref (ad (xaS j))), (2, .int x2), (3, .int x3)]) hx hb dX3_plan_90 hl (by decide) rfl (fun ls hl => ?_)
        obtain ⟨x2_15, ex2_15⟩ : ∃ z : Int32, z = x2 + 1 := ⟨_, rfl⟩
        have h := h x2_15 ex2_15
        refine lv_iinc (v := x2_15) (lv' := [(2, .int x2_15), (7, .long x5_7), (5, .long x5_7), (4, .int x4_5), (0, .ref (ad 8)), (1, .ref (ad (xaS j))), (3, .int x3)]) hx hb dX3_plan_92 hl (k := 5) rfl (by rw [ex2_15]; rfl) (by decide) rfl (fun ls hl => ?_)
        refine lv_aload_n hx hb dX3_plan_95 rfl (lv_at hl 4 rfl) ?_
        refine xr_get (D := (dC, dI)) (C := RX3) (T := TX3) (N := 4) (v := .ref (ad 13)) hx hb hts wX3_plan_c3 hown hK hP 8 (xq_c (by decide)) xe_T rfl 1 (by decide) wX3_plan_f18 rfl rfl dX3_plan_96 ?_
        refine lv_iload_n hx hb dX3_plan_99 rfl (lv_at hl 6 rfl) ?_
        refine lv_lload hx hb dX3_plan_100 (lv_at hl 1 rfl) ?_
        obtain ⟨g_16, h⟩ := h
        obtain ⟨sv_17, esv_17⟩ : ∃ z : SvV, z = t_wsd sv_14 (vp_updL (t_sd sv_14) (x3.toNatClampNeg) x5_7) := ⟨_, rfl⟩
        have h := h sv_17 esv_17
        refine xr_last (k := x3.toNatClampNeg) (x := x5_7) (g := (xc ad ci (va_up st j v) (va_up ln 1 w) sv_17 kv cu)) hx hb hK hP hAD hS 13 1 (xq_c (by decide)) xe_sd rfl rfl g_16 dX3_plan_102 (by rw [esv_17]; exact xg_tsd) (fun H locs hP hS => ?_)
        obtain ⟨x3_18, ex3_18⟩ : ∃ z : Int32, z = x3 + 1 := ⟨_, rfl⟩
        have h := h x3_18 ex3_18
        refine lv_iinc (v := x3_18) (lv' := [(3, .int x3_18), (2, .int x2_15), (7, .long x5_7), (5, .long x5_7), (4, .int x4_5), (0, .ref (ad 8)), (1, .ref (ad (xaS j)))]) hx hb dX3_plan_103 hl (k := 6) rfl (by rw [ex3_18]; rfl) (by decide) rfl (fun ls hl => ?_)
        refine lv_goto (tgt := 14) hx hb dX3_plan_106 (by decide) ?_
        exact ih x2_15 x3_18 sv_17 _ _ _ h hP hS (lv_sub hl [5, 6, 1, 0] rfl)
def PX3_plan  (v : StV) (w : LnV) (sv : SvV)  (post : Int32 → LnV → SvV → Prop) : Prop :=
  (PX3_findFast v sv (fun (sv_1 : SvV) => (PX3_findLoose v w (fun (w_2 : LnV) => (∃ n_19 : Nat, LX3_plan_14  v w_2  post n_19 (0 : Int32) (0 : Int32) sv_1)))))
set_option maxHeartbeats 4000000 in
set_option maxRecDepth 100000 in
theorem qX3_plan (l : Launch) (dC : Nat → ClassId) (dI : Nat → Nat → Nat) (ad : Nat → Nat) (ci : Nat → ClassId) (A : Nat → Prop) (ns : Nat) (hAD : xw_D (xn ns) ad A) (st : Nat → StV) (v : StV) (ln : Nat → LnV) (w : LnV) (sv : SvV) (kv : KvV) (cu : Nat) (j : Nat) (hj : j < ns)  (post : Int32 → LnV → SvV → Prop) (h : PX3_plan v w sv post) : Met l yX3_plan wsX3_plan rmX3_plan (va_Pc [.ref (ad 8), .ref (ad (xaS j))] (fun U => va_P (dC, dI) vwCl (xw (xn ns) ad (xc ad ci (va_up st j v) (va_up ln 1 w) sv kv cu)) U.heap ∧ va_K (dC, dI) vwCl (xT ci) U)) (va_Qi (fun r9 (u : LnV × SvV) => post r9 (u.1) (u.2)) (fun u t => va_P (dC, dI) vwCl (xw (xn ns) ad (xc ad ci (va_up st j v) (va_up ln 1 (u.1)) (u.2) kv cu)) t.heap) A) 0 0 A := by
  refine Met.ofW (cc := cX3_plan) (maxL := 9) (ret := (some .int)) (by decide) rfl ?_
  intro p e s m args below meth c s₁ B hml hv
  obtain ⟨eargs, hP, hK⟩ := hv
  have C0 : xC p s m args meth c cX3_plan 9 (some .int) RX3 wsX3_plan (dC, dI) (xT ci) := ⟨B.exec, B.bytes, hml, B.returns, B.notSynchronized, findClass_of_methodNamed B.named, atoms_spec (ws := wsX3_plan) B.pre, hK⟩
  obtain ⟨hx, hb, -, hr, hlocks, hown, hts, -⟩ := id C0
  have hS : va_S A s.heap s.heap [] := va_S.rf
  have hl := lv_entry ([.ref (ad 8), .ref (ad (xaS j))]) (n := 9) (Nat.le_of_ble_eq_true rfl)
  have ef : entryFrame m args 9 = entryFrame m ([.ref (ad 8), .ref (ad (xaS j))] : List Value).toArray 9 := by rw [eargs]
  rw [ef, lg_entry_eq]
  generalize (lg_sl ([.ref (ad 8), .ref (ad (xaS j))]) ++ List.replicate (9 - (lg_sl ([.ref (ad 8), .ref (ad (xaS j))])).length) Slot.unset).toArray = ls at hl ⊢
  have hl : lv_has ls 9 [(0, .ref (ad 8)), (1, .ref (ad (xaS j)))] := hl
  have hP : va_P (dC, dI) vwCl (xw (xn ns) ad (xc ad ci (va_up st j v) (va_up ln 1 w) sv kv cu)) s.heap := hP
  unfold PX3_plan at h
  refine lv_aload_n hx hb dX3_plan_0 rfl (lv_at hl 0 rfl) ?_
  refine lv_aload_n hx hb dX3_plan_1 rfl (lv_at hl 1 rfl) ?_
  refine va_callv (va_runV (As := [.ref (ad (xaS j))]) (rest := []) ⟨hx, hb, C0.2.2.1, hown, hts⟩ (qX3_findFast l dC dI ad ci A ns hAD st v ln w sv kv cu j hj  _ h) (cwV 1 hts gX3_plan_X3_findFast rfl rfl rfl (by decide +kernel) ⟨Nat.le_of_ble_eq_true rfl, Nat.le_of_ble_eq_true rfl⟩) ⟨xr_blind, xr_recv (r := (RX3, TX3, 4)) hK hP 8 (xq_c (by decide)) xe_T rfl, xr_pre hP hK⟩ rfl rfl hl.1 rfl (lv_room (Nat.le_of_ble_eq_true rfl)) dX3_plan_2 ⟨Nat.le_of_ble_eq_true rfl, Nat.le_of_ble_eq_true rfl⟩) hS (fun _ _ h => h) (fun _ h => h) (fun sv_1 t9 H locs ht hvm h hB _ _ hS => ?_)
  refine W.cs (cells' := 0) (slots' := 0) rfl rfl ?_
  have hP := x_th ht hB
  have hP : va_P (dC, dI) vwCl (xw (xn ns) ad (xc ad ci (va_up st j v) (va_up ln 1 w) sv_1 kv cu)) H := hP
  refine lv_aload_n hx hb dX3_plan_5 rfl (lv_at hl 0 rfl) ?_
  refine lv_aload_n hx hb dX3_plan_6 rfl (lv_at hl 1 rfl) ?_
  refine va_callv (va_runV (As := [.ref (ad (xaS j))]) (rest := []) ⟨hx, hb, C0.2.2.1, hown, hts⟩ (qX3_findLoose l dC dI ad ci A ns hAD st v ln w sv_1 kv cu j hj  _ h) (cwV 1 hts gX3_plan_X3_findLoose rfl rfl rfl (by decide +kernel) ⟨Nat.le_of_ble_eq_true rfl, Nat.le_of_ble_eq_true rfl⟩) ⟨xr_blind, xr_recv (r := (RX3, TX3, 4)) hK hP 8 (xq_c (by decide)) xe_T rfl, xr_pre hP hK⟩ rfl rfl hl.1 rfl (lv_room (Nat.le_of_ble_eq_true rfl)) dX3_plan_7 ⟨Nat.le_of_ble_eq_true rfl, Nat.le_of_ble_eq_true rfl⟩) hS (fun _ _ h => h) (fun _ h => h) (fun w_2 t9 H locs ht hvm h hB _ _ hS => ?_)
  refine W.cs (cells' := 0) (slots' := 0) rfl rfl ?_
  have hP := x_th ht hB
  have hP : va_P (dC, dI) vwCl (xw (xn ns) ad (xc ad ci (va_up st j v) (va_up ln 1 w_2) sv_1 kv cu)) H := hP
  refine lv_iconst (v := (0 : Int32)) hx hb dX3_plan_10 (by decide) ?_
  refine lv_istore_n (lv' := [(2, .int (0 : Int32)), (0, .ref (ad 8)), (1, .ref (ad (xaS j)))]) hx hb dX3_plan_11 rfl hl (by decide) rfl (fun ls hl => ?_)
  refine lv_iconst (v := (0 : Int32)) hx hb dX3_plan_12 (by decide) ?_
  refine lv_istore_n (lv' := [(3, .int (0 : Int32)), (2, .int (0 : Int32)), (0, .ref (ad 8)), (1, .ref (ad (xaS j)))]) hx hb dX3_plan_13 rfl hl (by decide) rfl (fun ls hl => ?_)
  obtain ⟨n_19, h⟩ := h
  exact kX3_plan_14 l dC dI ad ci A ns hAD st v ln w_2 kv cu j hj    post C0  n_19 (0 : Int32) (0 : Int32) sv_1 _ _ _ h hP hS (lv_sub hl [2, 3, 1, 0] rfl)
abbrev rmX3_carryOut : Room := { frames := 2, cells := 0, slots := 0, locals := 63 }
theorem wX3_carryOut_c3 : ∀ w ∈ u_ws RX3 TX3 4, w ∈ wsX3_carryOut := by decide +kernel
theorem wX3_carryOut_f18 : Cond.fieldLink RX3 18 "DueWheels$Settling" "settled" "[J" ∈ wsX3_carryOut := by decide +kernel
theorem wX3_carryOut_c2 : ∀ w ∈ u_ws RX2 TX2 4, w ∈ wsX3_carryOut := by decide +kernel
theorem wX3_carryOut_f36 : Cond.fieldLink RX3 36 "DueWheels$Line" "dues" "[I" ∈ wsX3_carryOut := by decide +kernel
theorem wX3_carryOut_f12 : Cond.fieldLink RX3 12 "DueWheels$Settling" "line" "LDueWheels$Line;" ∈ wsX3_carryOut := by decide +kernel
theorem wX3_carryOut_c4 : ∀ w ∈ u_ws RX4 TX4 8, w ∈ wsX3_carryOut := by decide +kernel
theorem wX3_carryOut_f40 : Cond.fieldLink RX3 40 "DueWheels$State" "dues" "[[J" ∈ wsX3_carryOut := by decide +kernel
theorem wX3_carryOut_f32 : Cond.fieldLink RX3 32 "DueWheels$Line" "size" "I" ∈ wsX3_carryOut := by decide +kernel
def LX3_carryOut_4  (w : LnV) (sv : SvV)   (post : Int32 → StV → Prop) : Nat → Int32 → Int32 → StV → Prop
  | 0, _, _, _ => False
  | n + 1, x2, x3, v => (((l_sz w) ≤ x3 → post x2 v) ∧ (¬ (l_sz w) ≤ x3 → (vp_in x3 200 ∧ (vp_in (l_du w (x3.toNatClampNeg)) 200 ∧ (vp_in x3 200 ∧ (((s_du v 2 ((l_du w (x3.toNatClampNeg)).toNatClampNeg)) = (t_sd sv (x3.toNatClampNeg)) → ∀ x3_6 : Int32, x3_6 = x3 + 1 → LX3_carryOut_4  w sv post n x2 x3_6 v) ∧ (¬ (s_du v 2 ((l_du w (x3.toNatClampNeg)).toNatClampNeg)) = (t_sd sv (x3.toNatClampNeg)) → (vp_in x3 200 ∧ (vp_in x3 200 ∧ (PX4_setTick v (l_du w (x3.toNatClampNeg)) (t_sd sv (x3.toNatClampNeg)) (fun (v_9 : StV) => ∀ x2_10 : Int32, x2_10 = x2 + 1 → ∀ x3_11 : Int32, x3_11 = x3 + 1 → LX3_carryOut_4  w sv post n x2_10 x3_11 v_9)))))))))))
set_option maxHeartbeats 4000000 in
set_option maxRecDepth 100000 in
theorem kX3_carryOut_4 {p : Program} {e : Env} {s : State} {m : MethodId} {args : Array Value} {below : List Frame} {meth : Method} {c : Code} (l : Launch) (dC : Nat → ClassId) (dI : Nat → Nat → Nat) (ad : Nat → Nat) (ci : Nat → ClassId) (A : Nat → Prop) (ns : Nat) (hAD : xw_D (xn ns) ad A) (st : Nat → StV) (ln : Nat → LnV) (w : LnV) (sv : SvV) (kv : KvV) (cu : Nat) (j : Nat) (hj : j < ns)   (post : Int32 → StV → Prop) (C0 : xC p s m args meth c cX3_carryOut 4 (some .int) RX3 wsX3_carryOut (dC, dI) (xT ci)) : ∀ (n : Nat) (x2 : Int32) (x3 : Int32) (v : StV) (H : Heap) (locs : List Loc) (ls : Array Slot), LX3_carryOut_4  w sv post n x2 x3 v → va_P (dC, dI) vwCl (xw (xn ns) ad (xc ad ci (va_up st j v) (va_up ln 1 w) sv kv cu)) H → va_S A s.heap H locs → lv_has ls 4 [(0, .ref (ad 8)), (1, .ref (ad (xaS j))), (2, .int x2), (3, .int x3)] → W p l e rmX3_carryOut s m args below meth c H locs 0 0 (MQ below (va_Qi (fun r9 (u : StV) => post r9 u) (fun u t => va_P (dC, dI) vwCl (xw (xn ns) ad (xc ad ci (va_up st j u) (va_up ln 1 w) sv kv cu)) t.heap) A) args s 0 0 A) (F0 m 4 ls []) := by
  obtain ⟨hx, hb, -, hr, hlocks, hown, hts, hK⟩ := id C0
  intro n
  induction n with
  | zero =>
    intro x2 x3 v H locs ls h
    exact False.elim h
  | succ n ih =>
    intro x2 x3 v H locs ls h hP hS hl
    rw [LX3_carryOut_4] at h
    refine lv_iload_n hx hb dX3_carryOut_4 rfl (lv_at hl 3 rfl) ?_
    refine lv_aload_n hx hb dX3_carryOut_5 rfl (lv_at hl 0 rfl) ?_
    refine xr_get (D := (dC, dI)) (C := RX3) (T := TX3) (N := 4) (v := .ref (ad (xaL 1))) hx hb hts wX3_carryOut_c3 hown hK hP 8 (xq_c (by decide)) xe_T rfl 0 (by decide) wX3_carryOut_f12 rfl rfl dX3_carryOut_6 ?_
    refine xr_get (D := (dC, dI)) (C := RX2) (T := TX2) (N := 4) (v := .int (l_sz w)) hx hb hts wX3_carryOut_c2 hown hK hP (xaL 1) (xq_L (by decide)) (xe_L (by decide) (va_up_self _ _ _)) rfl 0 (by decide) wX3_carryOut_f32 rfl rfl dX3_carryOut_9 ?_
    refine lv_icmp_ge (tgt := 69) hx hb dX3_carryOut_12 (by decide) (fun c_1 => ?_) (fun c_1 => ?_)
    · have h := h.1 c_1
      refine lv_iload_n hx hb dX3_carryOut_69 rfl (lv_at hl 2 rfl) ?_
      exact W.iret (v := x2) hx hb hr (fun t ht hW => ⟨⟨x2, v, rfl, h, x_ht ht hP⟩, hS.F ht⟩) hS.2.2 dX3_carryOut_70
    · have h := h.2 c_1
      refine lv_aload_n hx hb dX3_carryOut_15 rfl (lv_at hl 1 rfl) ?_
      refine xr_get (D := (dC, dI)) (C := RX4) (T := TX4) (N := 8) (v := .ref (ad (xaD0 j))) hx hb hts wX3_carryOut_c4 hown hK hP (xaS j) (xq_S hj) (xe_S (va_up_self _ _ _)) rfl 6 (by decide) wX3_carryOut_f40 rfl rfl dX3_carryOut_16 ?_
      refine lv_iconst (v := (2 : Int32)) hx hb dX3_carryOut_19 (by decide) ?_
      refine xr_aald (k := 2) (b := ad (xaD j 2)) hx hb hK hP (xaD0 j) 4 (xq_D0 hj) xe_D0 rfl rfl rfl (x_in _ _ (by decide)) rfl dX3_carryOut_20 ?_
      refine lv_aload_n hx hb dX3_carryOut_21 rfl (lv_at hl 0 rfl) ?_
      refine xr_get (D := (dC, dI)) (C := RX3) (T := TX3) (N := 4) (v := .ref (ad (xaL 1))) hx hb hts wX3_carryOut_c3 hown hK hP 8 (xq_c (by decide)) xe_T rfl 0 (by decide) wX3_carryOut_f12 rfl rfl dX3_carryOut_22 ?_
      refine xr_get (D := (dC, dI)) (C := RX2) (T := TX2) (N := 4) (v := .ref (ad (xaLd 1))) hx hb hts wX3_carryOut_c2 hown hK hP (xaL 1) (xq_L (by decide)) (xe_L (by decide) (va_up_self _ _ _)) rfl 1 (by decide) wX3_carryOut_f36 rfl rfl dX3_carryOut_25 ?_
      refine lv_iload_n hx hb dX3_carryOut_28 rfl (lv_at hl 3 rfl) ?_
      obtain ⟨g_2, h⟩ := h
      refine xr_iald (k := x3.toNatClampNeg) hx hb hK hP (xaLd 1) 0 (xq_Ld (by decide)) (xe_Ld (by decide) (va_up_self _ _ _)) rfl rfl g_2 dX3_carryOut_29 ?_
      obtain ⟨g_3, h⟩ := h
      refine xr_lald (k := (l_du w (x3.toNatClampNeg)).toNatClampNeg) hx hb hK hP (xaD j 2) 1 (xq_D hj (by decide)) (xe_D (by decide) (va_up_self _ _ _)) rfl rfl g_3 dX3_carryOut_30 ?_
      refine lv_aload_n hx hb dX3_carryOut_31 rfl (lv_at hl 0 rfl) ?_
      refine xr_get (D := (dC, dI)) (C := RX3) (T := TX3) (N := 4) (v := .ref (ad 13)) hx hb hts wX3_carryOut_c3 hown hK hP 8 (xq_c (by decide)) xe_T rfl 1 (by decide) wX3_carryOut_f18 rfl rfl dX3_carryOut_32 ?_
      refine lv_iload_n hx hb dX3_carryOut_35 rfl (lv_at hl 3 rfl) ?_
      obtain ⟨g_4, h⟩ := h
      refine xr_lald (k := x3.toNatClampNeg) hx hb hK hP 13 1 (xq_c (by decide)) xe_sd rfl rfl g_4 dX3_carryOut_36 ?_
      refine xr_if_lcmp_eq (tgt := 63) hx hb dX3_carryOut_37 dX3_carryOut_38 (by decide) (fun c_5 => ?_) (fun c_5 => ?_)
      · have h := h.1 c_5
        obtain ⟨x3_6, ex3_6⟩ : ∃ z : Int32, z = x3 + 1 := ⟨_, rfl⟩
        have h := h x3_6 ex3_6
        refine lv_iinc (v := x3_6) (lv' := [(3, .int x3_6), (0, .ref (ad 8)), (1, .ref (ad (xaS j))), (2, .int x2)]) hx hb dX3_carryOut_63 hl (k := 3) rfl (by rw [ex3_6]; rfl) (by decide) rfl (fun ls hl => ?_)
        refine lv_goto (tgt := 4) hx hb dX3_carryOut_66 (by decide) ?_
        exact ih x2 x3_6 v _ _ _ h hP hS (lv_sub hl [1, 2, 3, 0] rfl)
      · have h := h.2 c_5
        refine lv_aload_n hx hb dX3_carryOut_41 rfl (lv_at hl 1 rfl) ?_
        refine lv_aload_n hx hb dX3_carryOut_42 rfl (lv_at hl 0 rfl) ?_
        refine xr_get (D := (dC, dI)) (C := RX3) (T := TX3) (N := 4) (v := .ref (ad (xaL 1))) hx hb hts wX3_carryOut_c3 hown hK hP 8 (xq_c (by decide)) xe_T rfl 0 (by decide) wX3_carryOut_f12 rfl rfl dX3_carryOut_43 ?_
        refine xr_get (D := (dC, dI)) (C := RX2) (T := TX2) (N := 4) (v := .ref (ad (xaLd 1))) hx hb hts wX3_carryOut_c2 hown hK hP (xaL 1) (xq_L (by decide)) (xe_L (by decide) (va_up_self _ _ _)) rfl 1 (by decide) wX3_carryOut_f36 rfl rfl dX3_carryOut_46 ?_
        refine lv_iload_n hx hb dX3_carryOut_49 rfl (lv_at hl 3 rfl) ?_
        obtain ⟨g_7, h⟩ := h
        refine xr_iald (k := x3.toNatClampNeg) hx hb hK hP (xaLd 1) 0 (xq_Ld (by decide)) (xe_Ld (by decide) (va_up_self _ _ _)) rfl rfl g_7 dX3_carryOut_50 ?_
        refine lv_aload_n hx hb dX3_carryOut_51 rfl (lv_at hl 0 rfl) ?_
        refine xr_get (D := (dC, dI)) (C := RX3) (T := TX3) (N := 4) (v := .ref (ad 13)) hx hb hts wX3_carryOut_c3 hown hK hP 8 (xq_c (by decide)) xe_T rfl 1 (by decide) wX3_carryOut_f18 rfl rfl dX3_carryOut_52 ?_
        refine lv_iload_n hx hb dX3_carryOut_55 rfl (lv_at hl 3 rfl) ?_
        obtain ⟨g_8, h⟩ := h
        refine xr_lald (k := x3.toNatClampNeg) hx hb hK hP 13 1 (xq_c (by decide)) xe_sd rfl rfl g_8 dX3_carryOut_56 ?_
        refine va_callv (va_runV (As := [.int (l_du w (x3.toNatClampNeg)), .long (t_sd sv (x3.toNatClampNeg))]) (rest := []) ⟨hx, hb, C0.2.2.1, hown, hts⟩ (qX4_setTick l dC dI ad ci A ns hAD st v (va_up ln 1 w) sv kv cu j hj (l_du w (x3.toNatClampNeg)) (t_sd sv (x3.toNatClampNeg)) _ h) (cwV 2 hts gX3_carryOut_X4_setTick rfl rfl rfl (by decide +kernel) ⟨Nat.le_of_ble_eq_true rfl, Nat.le_of_ble_eq_true rfl⟩) ⟨xr_blind, xr_recv (r := (RX4, TX4, 8)) hK hP (xaS j) (xq_S hj) (xe_S (va_up_self _ _ _)) rfl, xr_pre hP hK⟩ rfl rfl hl.1 rfl (lv_room (Nat.le_of_ble_eq_true rfl)) dX3_carryOut_57 ⟨Nat.le_of_ble_eq_true rfl, Nat.le_of_ble_eq_true rfl⟩) hS (fun _ _ h => h) (fun _ h => h) (fun v_9 t9 H locs ht hvm h hB _ _ hS => ?_)
        refine W.cs (cells' := 0) (slots' := 0) rfl rfl ?_
        have hP := x_th ht hB
        have hP : va_P (dC, dI) vwCl (xw (xn ns) ad (xc ad ci (va_up st j v_9) (va_up ln 1 w) sv kv cu)) H := hP
        obtain ⟨x2_10, ex2_10⟩ : ∃ z : Int32, z = x2 + 1 := ⟨_, rfl⟩
        have h := h x2_10 ex2_10
        refine lv_iinc (v := x2_10) (lv' := [(2, .int x2_10), (0, .ref (ad 8)), (1, .ref (ad (xaS j))), (3, .int x3)]) hx hb dX3_carryOut_60 hl (k := 2) rfl (by rw [ex2_10]; rfl) (by decide) rfl (fun ls hl => ?_)
        obtain ⟨x3_11, ex3_11⟩ : ∃ z : Int32, z = x3 + 1 := ⟨_, rfl⟩
        have h := h x3_11 ex3_11
        refine lv_iinc (v := x3_11) (lv' := [(3, .int x3_11), (2, .int x2_10), (0, .ref (ad 8)), (1, .ref (ad (xaS j)))]) hx hb dX3_carryOut_63 hl (k := 3) rfl (by rw [ex3_11]; rfl) (by decide) rfl (fun ls hl => ?_)
        refine lv_goto (tgt := 4) hx hb dX3_carryOut_66 (by decide) ?_
        exact ih x2_10 x3_11 v_9 _ _ _ h hP hS (lv_sub hl [2, 3, 1, 0] rfl)
def PX3_carryOut  (v : StV) (w : LnV) (sv : SvV)  (post : Int32 → StV → Prop) : Prop :=
  (∃ n_12 : Nat, LX3_carryOut_4  w sv  post n_12 (0 : Int32) (0 : Int32) v)
set_option maxHeartbeats 4000000 in
set_option maxRecDepth 100000 in
theorem qX3_carryOut (l : Launch) (dC : Nat → ClassId) (dI : Nat → Nat → Nat) (ad : Nat → Nat) (ci : Nat → ClassId) (A : Nat → Prop) (ns : Nat) (hAD : xw_D (xn ns) ad A) (st : Nat → StV) (v : StV) (ln : Nat → LnV) (w : LnV) (sv : SvV) (kv : KvV) (cu : Nat) (j : Nat) (hj : j < ns)  (post : Int32 → StV → Prop) (h : PX3_carryOut v w sv post) : Met l yX3_carryOut wsX3_carryOut rmX3_carryOut (va_Pc [.ref (ad 8), .ref (ad (xaS j))] (fun U => va_P (dC, dI) vwCl (xw (xn ns) ad (xc ad ci (va_up st j v) (va_up ln 1 w) sv kv cu)) U.heap ∧ va_K (dC, dI) vwCl (xT ci) U)) (va_Qi (fun r9 (u : StV) => post r9 u) (fun u t => va_P (dC, dI) vwCl (xw (xn ns) ad (xc ad ci (va_up st j u) (va_up ln 1 w) sv kv cu)) t.heap) A) 0 0 A := by
  refine Met.ofW (cc := cX3_carryOut) (maxL := 4) (ret := (some .int)) (by decide) rfl ?_
  intro p e s m args below meth c s₁ B hml hv
  obtain ⟨eargs, hP, hK⟩ := hv
  have C0 : xC p s m args meth c cX3_carryOut 4 (some .int) RX3 wsX3_carryOut (dC, dI) (xT ci) := ⟨B.exec, B.bytes, hml, B.returns, B.notSynchronized, findClass_of_methodNamed B.named, atoms_spec (ws := wsX3_carryOut) B.pre, hK⟩
  obtain ⟨hx, hb, -, hr, hlocks, hown, hts, -⟩ := id C0
  have hS : va_S A s.heap s.heap [] := va_S.rf
  have hl := lv_entry ([.ref (ad 8), .ref (ad (xaS j))]) (n := 4) (Nat.le_of_ble_eq_true rfl)
  have ef : entryFrame m args 4 = entryFrame m ([.ref (ad 8), .ref (ad (xaS j))] : List Value).toArray 4 := by rw [eargs]
  rw [ef, lg_entry_eq]
  generalize (lg_sl ([.ref (ad 8), .ref (ad (xaS j))]) ++ List.replicate (4 - (lg_sl ([.ref (ad 8), .ref (ad (xaS j))])).length) Slot.unset).toArray = ls at hl ⊢
  have hl : lv_has ls 4 [(0, .ref (ad 8)), (1, .ref (ad (xaS j)))] := hl
  have hP : va_P (dC, dI) vwCl (xw (xn ns) ad (xc ad ci (va_up st j v) (va_up ln 1 w) sv kv cu)) s.heap := hP
  unfold PX3_carryOut at h
  refine lv_iconst (v := (0 : Int32)) hx hb dX3_carryOut_0 (by decide) ?_
  refine lv_istore_n (lv' := [(2, .int (0 : Int32)), (0, .ref (ad 8)), (1, .ref (ad (xaS j)))]) hx hb dX3_carryOut_1 rfl hl (by decide) rfl (fun ls hl => ?_)
  refine lv_iconst (v := (0 : Int32)) hx hb dX3_carryOut_2 (by decide) ?_
  refine lv_istore_n (lv' := [(3, .int (0 : Int32)), (2, .int (0 : Int32)), (0, .ref (ad 8)), (1, .ref (ad (xaS j)))]) hx hb dX3_carryOut_3 rfl hl (by decide) rfl (fun ls hl => ?_)
  obtain ⟨n_12, h⟩ := h
  exact kX3_carryOut_4 l dC dI ad ci A ns hAD st ln w sv kv cu j hj    post C0  n_12 (0 : Int32) (0 : Int32) v _ _ _ h hP hS (lv_sub hl [2, 3, 1, 0] rfl)
