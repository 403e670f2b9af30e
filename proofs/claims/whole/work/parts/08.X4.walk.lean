abbrev rmX4_leastTick : Room := { frames := 0, cells := 0, slots := 0, locals := 0 }
theorem wX4_leastTick_k58 : Cond.constantLong RX4 58 (1125899906842624) ∈ wsX4_leastTick := by decide +kernel
theorem wX4_leastTick_k45 : Cond.constantLong RX4 45 (-2000000005) ∈ wsX4_leastTick := by decide +kernel
theorem wX4_leastTick_c4 : ∀ w ∈ u_ws RX4 TX4 8, w ∈ wsX4_leastTick := by decide +kernel
theorem wX4_leastTick_f11 : Cond.fieldLink RX4 11 "DueWheels$State" "dues" "[[J" ∈ wsX4_leastTick := by decide +kernel
theorem wX4_leastTick_f32 : Cond.fieldLink RX4 32 "DueWheels$State" "end" "I" ∈ wsX4_leastTick := by decide +kernel
def LX4_leastTick_6  (v : StV)   (post : Int64 → Prop) : Nat → Int64 → Int32 → Prop
  | 0, _, _ => False
  | n + 1, x1, x3 => (((s_en v) ≤ x3 → (((1125899906842624 : Int64) ≤ x1 → post (-2000000005 : Int64)) ∧ (¬ (1125899906842624 : Int64) ≤ x1 → post x1))) ∧ (¬ (s_en v) ≤ x3 → (vp_in x3 200 ∧ ∀ x4_4 : Int64, x4_4 = (s_du v 2 (x3.toNatClampNeg)) → ((x4_4 = (-2000000005 : Int64) → ∀ x3_6 : Int32, x3_6 = x3 + 1 → LX4_leastTick_6  v post n x1 x3_6) ∧ (¬ x4_4 = (-2000000005 : Int64) → ((x1 ≤ x4_4 → ∀ x3_8 : Int32, x3_8 = x3 + 1 → LX4_leastTick_6  v post n x1 x3_8) ∧ (¬ x1 ≤ x4_4 → ∀ x3_9 : Int32, x3_9 = x3 + 1 → LX4_leastTick_6  v post n x4_4 x3_9)))))))
set_option maxHeartbeats 4000000 in
set_option maxRecDepth 100000 in
theorem kX4_leastTick_6 {p : Program} {e : Env} {s : State} {m : MethodId} {args : Array Value} {below : List Frame} {meth : Method} {c : Code} (l : Launch) (dC : Nat → ClassId) (dI : Nat → Nat → Nat) (ad : Nat → Nat) (ci : Nat → ClassId) (A : Nat → Prop) (ns : Nat) (hAD : xw_D (xn ns) ad A) (st : Nat → StV) (v : StV) (ln : Nat → LnV) (sv : SvV) (kv : KvV) (cu : Nat) (j : Nat) (hj : j < ns)   (post : Int64 → Prop) (C0 : xC p s m args meth c cX4_leastTick 6 (some .long) RX4 wsX4_leastTick (dC, dI) (xT ci)) : ∀ (n : Nat) (x1 : Int64) (x3 : Int32) (H : Heap) (locs : List Loc) (ls : Array Slot), LX4_leastTick_6  v post n x1 x3 → va_P (dC, dI) vwCl (xw (xn ns) ad (xc ad ci (va_up st j v) ln sv kv cu)) H → va_S A s.heap H locs → lv_has ls 6 [(0, .ref (ad (xaS j))), (1, .long x1), (3, .int x3)] → W p l e rmX4_leastTick s m args below meth c H locs 0 0 (MQ below (va_Ql (fun r9 (u : Unit) => post r9 ) (fun u t => va_P (dC, dI) vwCl (xw (xn ns) ad (xc ad ci (va_up st j v) ln sv kv cu)) t.heap) A) args s 0 0 A) (F0 m 6 ls []) := by
  obtain ⟨hx, hb, -, hr, hlocks, hown, hts, hK⟩ := id C0
  intro n
  induction n with
  | zero =>
    intro x1 x3 H locs ls h
    exact False.elim h
  | succ n ih =>
    intro x1 x3 H locs ls h hP hS hl
    rw [LX4_leastTick_6] at h
    refine lv_iload_n hx hb dX4_leastTick_6 rfl (lv_at hl 2 rfl) ?_
    refine lv_aload_n hx hb dX4_leastTick_7 rfl (lv_at hl 0 rfl) ?_
    refine xr_get (D := (dC, dI)) (C := RX4) (T := TX4) (N := 8) (v := .int (s_en v)) hx hb hts wX4_leastTick_c4 hown hK hP (xaS j) (xq_S hj) (xe_S (va_up_self _ _ _)) rfl 4 (by decide) wX4_leastTick_f32 rfl rfl dX4_leastTick_8 ?_
    refine lv_icmp_ge (tgt := 49) hx hb dX4_leastTick_11 (by decide) (fun c_1 => ?_) (fun c_1 => ?_)
    · have h := h.1 c_1
      refine lv_lload_n hx hb dX4_leastTick_49 rfl (lv_at hl 1 rfl) ?_
      refine lv_ldc2 (v := (1125899906842624 : Int64)) hx hb hown (hts _ wX4_leastTick_k58) dX4_leastTick_50 ?_
      refine xr_if_lcmp_ge (tgt := 61) hx hb dX4_leastTick_53 dX4_leastTick_54 (by decide) (fun c_2 => ?_) (fun c_2 => ?_)
      · have h := h.1 c_2
        refine lv_ldc2 (v := (-2000000005 : Int64)) hx hb hown (hts _ wX4_leastTick_k45) dX4_leastTick_61 ?_
        exact W.lret (v := (-2000000005 : Int64)) hx hb hr (fun t ht hW => ⟨⟨(-2000000005 : Int64), (), rfl, h, x_ht ht hP⟩, hS.F ht⟩) hS.2.2 dX4_leastTick_64
      · have h := h.2 c_2
        refine lv_lload_n hx hb dX4_leastTick_57 rfl (lv_at hl 1 rfl) ?_
        refine lv_goto (tgt := 64) hx hb dX4_leastTick_58 (by decide) ?_
        exact W.lret (v := x1) hx hb hr (fun t ht hW => ⟨⟨x1, (), rfl, h, x_ht ht hP⟩, hS.F ht⟩) hS.2.2 dX4_leastTick_64
    · have h := h.2 c_1
      refine lv_aload_n hx hb dX4_leastTick_14 rfl (lv_at hl 0 rfl) ?_
      refine xr_get (D := (dC, dI)) (C := RX4) (T := TX4) (N := 8) (v := .ref (ad (xaD0 j))) hx hb hts wX4_leastTick_c4 hown hK hP (xaS j) (xq_S hj) (xe_S (va_up_self _ _ _)) rfl 6 (by decide) wX4_leastTick_f11 rfl rfl dX4_leastTick_15 ?_
      refine lv_iconst (v := (2 : Int32)) hx hb dX4_leastTick_18 (by decide) ?_
      refine xr_aald (k := 2) (b := ad (xaD j 2)) hx hb hK hP (xaD0 j) 4 (xq_D0 hj) xe_D0 rfl rfl rfl (x_in _ _ (by decide)) rfl dX4_leastTick_19 ?_
      refine lv_iload_n hx hb dX4_leastTick_20 rfl (lv_at hl 2 rfl) ?_
      obtain ⟨g_3, h⟩ := h
      refine xr_lald (k := x3.toNatClampNeg) hx hb hK hP (xaD j 2) 1 (xq_D hj (by decide)) (xe_D (by decide) (va_up_self _ _ _)) rfl rfl g_3 dX4_leastTick_21 ?_
      refine lv_topl (fun x4_4 ex4_4 => ?_)
      have h := h x4_4 ex4_4
      refine lv_lstore (lv' := [(4, .long x4_4), (0, .ref (ad (xaS j))), (1, .long x1), (3, .int x3)]) hx hb dX4_leastTick_22 hl (by decide) rfl (fun ls hl => ?_)
      refine lv_lload hx hb dX4_leastTick_24 (lv_at hl 0 rfl) ?_
      refine lv_ldc2 (v := (-2000000005 : Int64)) hx hb hown (hts _ wX4_leastTick_k45) dX4_leastTick_26 ?_
      refine xr_if_lcmp_eq (tgt := 43) hx hb dX4_leastTick_29 dX4_leastTick_30 (by decide) (fun c_5 => ?_) (fun c_5 => ?_)
      · have h := h.1 c_5
        obtain ⟨x3_6, ex3_6⟩ : ∃ z : Int32, z = x3 + 1 := ⟨_, rfl⟩
        have h := h x3_6 ex3_6
        refine lv_iinc (v := x3_6) (lv' := [(3, .int x3_6), (4, .long x4_4), (0, .ref (ad (xaS j))), (1, .long x1)]) hx hb dX4_leastTick_43 hl (k := 3) rfl (by rw [ex3_6]; rfl) (by decide) rfl (fun ls hl => ?_)
        refine lv_goto (tgt := 6) hx hb dX4_leastTick_46 (by decide) ?_
        exact ih x1 x3_6 _ _ _ h hP hS (lv_sub hl [2, 3, 0] rfl)
      · have h := h.2 c_5
        refine lv_lload hx hb dX4_leastTick_33 (lv_at hl 0 rfl) ?_
        refine lv_lload_n hx hb dX4_leastTick_35 rfl (lv_at hl 2 rfl) ?_
        refine xr_if_lcmp_ge (tgt := 43) hx hb dX4_leastTick_36 dX4_leastTick_37 (by decide) (fun c_7 => ?_) (fun c_7 => ?_)
        · have h := h.1 c_7
          obtain ⟨x3_8, ex3_8⟩ : ∃ z : Int32, z = x3 + 1 := ⟨_, rfl⟩
          have h := h x3_8 ex3_8
          refine lv_iinc (v := x3_8) (lv' := [(3, .int x3_8), (4, .long x4_4), (0, .ref (ad (xaS j))), (1, .long x1)]) hx hb dX4_leastTick_43 hl (k := 3) rfl (by rw [ex3_8]; rfl) (by decide) rfl (fun ls hl => ?_)
          refine lv_goto (tgt := 6) hx hb dX4_leastTick_46 (by decide) ?_
          exact ih x1 x3_8 _ _ _ h hP hS (lv_sub hl [2, 3, 0] rfl)
        · have h := h.2 c_7
          refine lv_lload hx hb dX4_leastTick_40 (lv_at hl 0 rfl) ?_
          refine lv_lstore_n (lv' := [(1, .long x4_4), (4, .long x4_4), (0, .ref (ad (xaS j))), (3, .int x3)]) hx hb dX4_leastTick_42 rfl hl (by decide) rfl (fun ls hl => ?_)
          obtain ⟨x3_9, ex3_9⟩ : ∃ z : Int32, z = x3 + 1 := ⟨_, rfl⟩
          have h := h x3_9 ex3_9
          refine lv_iinc (v := x3_9) (lv' := [(3, .int x3_9), (1, .long x4_4), (4, .long x4_4), (0, .ref (ad (xaS j)))]) hx hb dX4_leastTick_43 hl (k := 3) rfl (by rw [ex3_9]; rfl) (by decide) rfl (fun ls hl => ?_)
          refine lv_goto (tgt := 6) hx hb dX4_leastTick_46 (by decide) ?_
          exact ih x4_4 x3_9 _ _ _ h hP hS (lv_sub hl [3, 1, 0] rfl)
def PX4_leastTick  (v : StV)  (post : Int64 → Prop) : Prop :=
  (∃ n_10 : Nat, LX4_leastTick_6  v  post n_10 (1125899906842624 : Int64) (0 : Int32))
set_option maxHeartbeats 4000000 in
set_option maxRecDepth 100000 in
theorem qX4_leastTick (l : Launch) (dC : Nat → ClassId) (dI : Nat → Nat → Nat) (ad : Nat → Nat) (ci : Nat → ClassId) (A : Nat → Prop) (ns : Nat) (hAD : xw_D (xn ns) ad A) (st : Nat → StV) (v : StV) (ln : Nat → LnV) (sv : SvV) (kv : KvV) (cu : Nat) (j : Nat) (hj : j < ns)  (post : Int64 → Prop) (h : PX4_leastTick v post) : Met l yX4_leastTick wsX4_leastTick rmX4_leastTick (va_Pc [.ref (ad (xaS j))] (fun U => va_P (dC, dI) vwCl (xw (xn ns) ad (xc ad ci (va_up st j v) ln sv kv cu)) U.heap ∧ va_K (dC, dI) vwCl (xT ci) U)) (va_Ql (fun r9 (u : Unit) => post r9 ) (fun u t => va_P (dC, dI) vwCl (xw (xn ns) ad (xc ad ci (va_up st j v) ln sv kv cu)) t.heap) A) 0 0 A := by
  refine Met.ofW (cc := cX4_leastTick) (maxL := 6) (ret := (some .long)) (by decide) rfl ?_
  intro p e s m args below meth c s₁ B hml hv
  obtain ⟨eargs, hP, hK⟩ := hv
  have C0 : xC p s m args meth c cX4_leastTick 6 (some .long) RX4 wsX4_leastTick (dC, dI) (xT ci) := ⟨B.exec, B.bytes, hml, B.returns, B.notSynchronized, findClass_of_methodNamed B.named, atoms_spec (ws := wsX4_leastTick) B.pre, hK⟩
  obtain ⟨hx, hb, -, hr, hlocks, hown, hts, -⟩ := id C0
  have hS : va_S A s.heap s.heap [] := va_S.rf
  have hl := lv_entry ([.ref (ad (xaS j))]) (n := 6) (Nat.le_of_ble_eq_true rfl)
  have ef : entryFrame m args 6 = entryFrame m ([.ref (ad (xaS j))] : List Value).toArray 6 := by rw [eargs]
  rw [ef, lg_entry_eq]
  generalize (lg_sl ([.ref (ad (xaS j))]) ++ List.replicate (6 - (lg_sl ([.ref (ad (xaS j))])).length) Slot.unset).toArray = ls at hl ⊢
  have hl : lv_has ls 6 [(0, .ref (ad (xaS j)))] := hl
  have hP : va_P (dC, dI) vwCl (xw (xn ns) ad (xc ad ci (va_up st j v) ln sv kv cu)) s.heap := hP
  unfold PX4_leastTick at h
  refine lv_ldc2 (v := (1125899906842624 : Int64)) hx hb hown (hts _ wX4_leastTick_k58) dX4_leastTick_0 ?_
  refine lv_lstore_n (lv' := [(1, .long (1125899906842624 : Int64)), (0, .ref (ad (xaS j)))]) hx hb dX4_leastTick_3 rfl hl (by decide) rfl (fun ls hl => ?_)
  refine lv_iconst (v := (0 : Int32)) hx hb dX4_leastTick_4 (by decide) ?_
  refine lv_istore_n (lv' := [(3, .int (0 : Int32)), (1, .long (1125899906842624 : Int64)), (0, .ref (ad (xaS j)))]) hx hb dX4_leastTick_5 rfl hl (by decide) rfl (fun ls hl => ?_)
  obtain ⟨n_10, h⟩ := h
  exact kX4_leastTick_6 l dC dI ad ci A ns hAD st v ln sv kv cu j hj    post C0  n_10 (1125899906842624 : Int64) (0 : Int32) _ _ _ h hP hS (lv_sub hl [2, 1, 0] rfl)
abbrev rmX4_setTick : Room := { frames := 1, cells := 0, slots := 0, locals := 40 }
theorem wX4_setTick_k58 : Cond.constantLong RX4 58 (1125899906842624) ∈ wsX4_setTick := by decide +kernel
theorem wX4_setTick_m60 : Cond.methodLink RX4 60 Lib.MathLoose.min_long.x ∈ wsX4_setTick := by decide +kernel
theorem wX4_setTick_m60a : Cond.static Lib.MathLoose.min_long.x ∈ wsX4_setTick := by decide +kernel
theorem wX4_setTick_mth : Cond.initialized "java/lang/Math" ∈ wsX4_setTick := by decide +kernel
theorem wX4_setTick_m60b : Cond.code Lib.MathLoose.min_long.x Lib.MathLoose.min_long.code 4 (some .long) ∈ wsX4_setTick := by decide +kernel
theorem wX4_setTick_c4 : ∀ w ∈ u_ws RX4 TX4 8, w ∈ wsX4_setTick := by decide +kernel
theorem wX4_setTick_f11 : Cond.fieldLink RX4 11 "DueWheels$State" "dues" "[[J" ∈ wsX4_setTick := by decide +kernel
def PX4_setTick  (v : StV) (x1 : Int32) (x2 : Int64) (post : StV → Prop) : Prop :=
  (vp_in x1 200 ∧ (∀ v_2 : StV, v_2 = s_wdu v 2 (x1.toNatClampNeg) (if (1125899906842624 : Int64) < x2 then (1125899906842624 : Int64) else x2) → (vp_in x1 200 ∧ (∀ v_4 : StV, v_4 = s_wdu v_2 11 (x1.toNatClampNeg) (0 : Int64) → post v_4))))
set_option maxHeartbeats 4000000 in
set_option maxRecDepth 100000 in
theorem qX4_setTick (l : Launch) (dC : Nat → ClassId) (dI : Nat → Nat → Nat) (ad : Nat → Nat) (ci : Nat → ClassId) (A : Nat → Prop) (ns : Nat) (hAD : xw_D (xn ns) ad A) (st : Nat → StV) (v : StV) (ln : Nat → LnV) (sv : SvV) (kv : KvV) (cu : Nat) (j : Nat) (hj : j < ns) (x1 : Int32) (x2 : Int64) (post : StV → Prop) (h : PX4_setTick v x1 x2 post) : Met l yX4_setTick wsX4_setTick rmX4_setTick (va_Pc [.ref (ad (xaS j)), .int x1, .long x2] (fun U => va_P (dC, dI) vwCl (xw (xn ns) ad (xc ad ci (va_up st j v) ln sv kv cu)) U.heap ∧ va_K (dC, dI) vwCl (xT ci) U)) (va_Qv (fun u : StV => post u) (fun u t => va_P (dC, dI) vwCl (xw (xn ns) ad (xc ad ci (va_up st j u) ln sv kv cu)) t.heap) A) 0 0 A := by
  refine Met.ofW (cc := cX4_setTick) (maxL := 4) (ret := none) (by decide) rfl ?_
  intro p e s m args below meth c s₁ B hml hv
  obtain ⟨eargs, hP, hK⟩ := hv
  have C0 : xC p s m args meth c cX4_setTick 4 none RX4 wsX4_setTick (dC, dI) (xT ci) := ⟨B.exec, B.bytes, hml, B.returns, B.notSynchronized, findClass_of_methodNamed B.named, atoms_spec (ws := wsX4_setTick) B.pre, hK⟩
  obtain ⟨hx, hb, -, hr, hlocks, hown, hts, -⟩ := id C0
  have hS : va_S A s.heap s.heap [] := va_S.rf
  have hl := lv_entry ([.ref (ad (xaS j)), .int x1, .long x2]) (n := 4) (Nat.le_of_ble_eq_true rfl)
  have ef : entryFrame m args 4 = entryFrame m ([.ref (ad (xaS j)), .int x1, .long x2] : List Value).toArray 4 := by rw [eargs]
  rw [ef, lg_entry_eq]
  generalize (lg_sl ([.ref (ad (xaS j)), .int x1, .long x2]) ++ List.replicate (4 - (lg_sl ([.ref (ad (xaS j)), .int x1, .long x2])).length) Slot.unset).toArray = ls at hl ⊢
  have hl : lv_has ls 4 [(0, .ref (ad (xaS j))), (1, .int x1), (2, .long x2)] := hl
  have hP : va_P (dC, dI) vwCl (xw (xn ns) ad (xc ad ci (va_up st j v) ln sv kv cu)) s.heap := hP
  unfold PX4_setTick at h
  refine lv_aload_n hx hb dX4_setTick_0 rfl (lv_at hl 0 rfl) ?_
  refine xr_get (D := (dC, dI)) (C := RX4) (T := TX4) (N := 8) (v := .ref (ad (xaD0 j))) hx hb hts wX4_setTick_c4 hown hK hP (xaS j) (xq_S hj) (xe_S (va_up_self _ _ _)) rfl 6 (by decide) wX4_setTick_f11 rfl rfl dX4_setTick_1 ?_
  refine lv_iconst (v := (2 : Int32)) hx hb dX4_setTick_4 (by decide) ?_
  refine xr_aald (k := 2) (b := ad (xaD j 2)) hx hb hK hP (xaD0 j) 4 (xq_D0 hj) xe_D0 rfl rfl rfl (x_in _ _ (by decide)) rfl dX4_setTick_5 ?_
  refine lv_iload_n hx hb dX4_setTick_6 rfl (lv_at hl 1 rfl) ?_
  refine lv_lload_n hx hb dX4_setTick_7 rfl (lv_at hl 2 rfl) ?_
  refine lv_ldc2 (v := (1125899906842624 : Int64)) hx hb hown (hts _ wX4_setTick_k58) dX4_setTick_8 ?_
  refine va_mmin_long hx hb (by rw [C0.2.2.1]; exact hl.1.symm) hown (hts _ wX4_setTick_m60) (hts _ wX4_setTick_m60a) (hts _ wX4_setTick_mth) (hts _ wX4_setTick_m60b) (Nat.le_of_ble_eq_true rfl) (Nat.le_of_ble_eq_true rfl) (Nat.le_of_ble_eq_true rfl) (Nat.le_of_ble_eq_true rfl) dX4_setTick_11 ?_
  obtain ⟨g_1, h⟩ := h
  obtain ⟨v_2, ev_2⟩ : ∃ z : StV, z = s_wdu v 2 (x1.toNatClampNeg) (if (1125899906842624 : Int64) < x2 then (1125899906842624 : Int64) else x2) := ⟨_, rfl⟩
  have h := h v_2 ev_2
  refine xr_last (k := x1.toNatClampNeg) (x := (if (1125899906842624 : Int64) < x2 then (1125899906842624 : Int64) else x2)) (g := (xc ad ci (va_up st j v_2) ln sv kv cu)) hx hb hK hP hAD hS (xaD j 2) 1 (xq_D hj (by decide)) (xe_D (by decide) (va_up_self _ _ _)) rfl rfl g_1 dX4_setTick_14 (xg_du (by decide) (va_up_self _ _ _) (by rw [ev_2]; exact bx_uu _ _ _ _)) (fun H locs hP hS => ?_)
  refine lv_aload_n hx hb dX4_setTick_15 rfl (lv_at hl 0 rfl) ?_
  refine xr_get (D := (dC, dI)) (C := RX4) (T := TX4) (N := 8) (v := .ref (ad (xaD0 j))) hx hb hts wX4_setTick_c4 hown hK hP (xaS j) (xq_S hj) (xe_S (va_up_self _ _ _)) rfl 6 (by decide) wX4_setTick_f11 rfl rfl dX4_setTick_16 ?_
  refine lv_bipush (v := (11 : Int32)) hx hb dX4_setTick_19 (by decide) ?_
  refine xr_aald (k := 11) (b := ad (xaD j 11)) hx hb hK hP (xaD0 j) 4 (xq_D0 hj) xe_D0 rfl rfl rfl (x_in _ _ (by decide)) rfl dX4_setTick_21 ?_
  refine lv_iload_n hx hb dX4_setTick_22 rfl (lv_at hl 1 rfl) ?_
  refine lv_lconst (v := (0 : Int64)) hx hb dX4_setTick_23 (by decide) ?_
  obtain ⟨g_3, h⟩ := h
  obtain ⟨v_4, ev_4⟩ : ∃ z : StV, z = s_wdu v_2 11 (x1.toNatClampNeg) (0 : Int64) := ⟨_, rfl⟩
  have h := h v_4 ev_4
  refine xr_last (k := x1.toNatClampNeg) (x := (0 : Int64)) (g := (xc ad ci (va_up st j v_4) ln sv kv cu)) hx hb hK hP hAD hS (xaD j 11) 1 (xq_D hj (by decide)) (xe_D (by decide) (va_up_self _ _ _)) rfl rfl g_3 dX4_setTick_24 (xg_du (by decide) (va_up_self _ _ _) (by rw [ev_4]; exact bx_uu _ _ _ _)) (fun H locs hP hS => ?_)
  exact W.vret hx hb hr (fun t ht hW => ⟨⟨v_4, rfl, h, x_ht ht hP⟩, hS.F ht⟩) hS.2.2 dX4_setTick_25
abbrev rmX4_tellGone : Room := { frames := 2, cells := 0, slots := 0, locals := 63 }
theorem wX4_tellGone_k45 : Cond.constantLong RX4 45 (-2000000005) ∈ wsX4_tellGone := by decide +kernel
theorem wX4_tellGone_c4 : ∀ w ∈ u_ws RX4 TX4 8, w ∈ wsX4_tellGone := by decide +kernel
theorem wX4_tellGone_f11 : Cond.fieldLink RX4 11 "DueWheels$State" "dues" "[[J" ∈ wsX4_tellGone := by decide +kernel
theorem wX4_tellGone_f19 : Cond.fieldLink RX4 19 "DueWheels$State" "time" "J" ∈ wsX4_tellGone := by decide +kernel
theorem wX4_tellGone_f32 : Cond.fieldLink RX4 32 "DueWheels$State" "end" "I" ∈ wsX4_tellGone := by decide +kernel
def LX4_tellGone_2   (x1 : Int32)  (post : StV → Prop) : Nat → Int32 → StV → Prop
  | 0, _, _ => False
  | n + 1, x2, v => (((s_en v) ≤ x2 → post v) ∧ (¬ (s_en v) ≤ x2 → (vp_in x2 200 ∧ (((s_du v 6 (x2.toNatClampNeg)) = (x1.toInt64) → (vp_in x2 200 ∧ (∀ v_6 : StV, v_6 = s_wdu v 6 (x2.toNatClampNeg) (-2000000005 : Int64) → (vp_in x2 200 ∧ (PX4_setTick v_6 x2 ((s_tm v_6) + (s_du v_6 9 (x2.toNatClampNeg))) (fun (v_8 : StV) => ∀ x2_9 : Int32, x2_9 = x2 + 1 → LX4_tellGone_2  x1 post n x2_9 v_8)))))) ∧ (¬ (s_du v 6 (x2.toNatClampNeg)) = (x1.toInt64) → ∀ x2_4 : Int32, x2_4 = x2 + 1 → LX4_tellGone_2  x1 post n x2_4 v)))))
set_option maxHeartbeats 4000000 in
set_option maxRecDepth 100000 in
theorem kX4_tellGone_2 {p : Program} {e : Env} {s : State} {m : MethodId} {args : Array Value} {below : List Frame} {meth : Method} {c : Code} (l : Launch) (dC : Nat → ClassId) (dI : Nat → Nat → Nat) (ad : Nat → Nat) (ci : Nat → ClassId) (A : Nat → Prop) (ns : Nat) (hAD : xw_D (xn ns) ad A) (st : Nat → StV) (ln : Nat → LnV) (sv : SvV) (kv : KvV) (cu : Nat) (j : Nat) (hj : j < ns) (x1 : Int32)  (post : StV → Prop) (C0 : xC p s m args meth c cX4_tellGone 3 none RX4 wsX4_tellGone (dC, dI) (xT ci)) : ∀ (n : Nat) (x2 : Int32) (v : StV) (H : Heap) (locs : List Loc) (ls : Array Slot), LX4_tellGone_2  x1 post n x2 v → va_P (dC, dI) vwCl (xw (xn ns) ad (xc ad ci (va_up st j v) ln sv kv cu)) H → va_S A s.heap H locs → lv_has ls 3 [(0, .ref (ad (xaS j))), (1, .int x1), (2, .int x2)] → W p l e rmX4_tellGone s m args below meth c H locs 0 0 (MQ below (va_Qv (fun u : StV => post u) (fun u t => va_P (dC, dI) vwCl (xw (xn ns) ad (xc ad ci (va_up st j u) ln sv kv cu)) t.heap) A) args s 0 0 A) (F0 m 2 ls []) := by
  obtain ⟨hx, hb, -, hr, hlocks, hown, hts, hK⟩ := id C0
  intro n
  induction n with
  | zero =>
    intro x2 v H locs ls h
    exact False.elim h
  | succ n ih =>
    intro x2 v H locs ls h hP hS hl
    rw [LX4_tellGone_2] at h
    refine lv_iload_n hx hb dX4_tellGone_2 rfl (lv_at hl 2 rfl) ?_
    refine lv_aload_n hx hb dX4_tellGone_3 rfl (lv_at hl 0 rfl) ?_
    refine xr_get (D := (dC, dI)) (C := RX4) (T := TX4) (N := 8) (v := .int (s_en v)) hx hb hts wX4_tellGone_c4 hown hK hP (xaS j) (xq_S hj) (xe_S (va_up_self _ _ _)) rfl 4 (by decide) wX4_tellGone_f32 rfl rfl dX4_tellGone_4 ?_
    refine lv_icmp_ge (tgt := 62) hx hb dX4_tellGone_7 (by decide) (fun c_1 => ?_) (fun c_1 => ?_)
    · have h := h.1 c_1
      exact W.vret hx hb hr (fun t ht hW => ⟨⟨v, rfl, h, x_ht ht hP⟩, hS.F ht⟩) hS.2.2 dX4_tellGone_62
    · have h := h.2 c_1
      refine lv_aload_n hx hb dX4_tellGone_10 rfl (lv_at hl 0 rfl) ?_
      refine xr_get (D := (dC, dI)) (C := RX4) (T := TX4) (N := 8) (v := .ref (ad (xaD0 j))) hx hb hts wX4_tellGone_c4 hown hK hP (xaS j) (xq_S hj) (xe_S (va_up_self _ _ _)) rfl 6 (by decide) wX4_tellGone_f11 rfl rfl dX4_tellGone_11 ?_
      refine lv_bipush (v := (6 : Int32)) hx hb dX4_tellGone_14 (by decide) ?_
      refine xr_aald (k := 6) (b := ad (xaD j 6)) hx hb hK hP (xaD0 j) 4 (xq_D0 hj) xe_D0 rfl rfl rfl (x_in _ _ (by decide)) rfl dX4_tellGone_16 ?_
      refine lv_iload_n hx hb dX4_tellGone_17 rfl (lv_at hl 2 rfl) ?_
      obtain ⟨g_2, h⟩ := h
      refine xr_lald (k := x2.toNatClampNeg) hx hb hK hP (xaD j 6) 1 (xq_D hj (by decide)) (xe_D (by decide) (va_up_self _ _ _)) rfl rfl g_2 dX4_tellGone_18 ?_
      refine lv_iload_n hx hb dX4_tellGone_19 rfl (lv_at hl 1 rfl) ?_
      refine lv_i2l hx hb dX4_tellGone_20 rfl ?_
      refine xr_if_lcmp_ne (tgt := 56) hx hb dX4_tellGone_21 dX4_tellGone_22 (by decide) (fun c_3 => ?_) (fun c_3 => ?_)
      · have h := h.2 c_3
        obtain ⟨x2_4, ex2_4⟩ : ∃ z : Int32, z = x2 + 1 := ⟨_, rfl⟩
        have h := h x2_4 ex2_4
        refine lv_iinc (v := x2_4) (lv' := [(2, .int x2_4), (0, .ref (ad (xaS j))), (1, .int x1)]) hx hb dX4_tellGone_56 hl (k := 2) rfl (by rw [ex2_4]; rfl) (by decide) rfl (fun ls hl => ?_)
        refine lv_goto (tgt := 2) hx hb dX4_tellGone_59 (by decide) ?_
        exact ih x2_4 v _ _ _ h hP hS (lv_sub hl [1, 2, 0] rfl)
      · have h := h.1 c_3
        refine lv_aload_n hx hb dX4_tellGone_25 rfl (lv_at hl 0 rfl) ?_
        refine xr_get (D := (dC, dI)) (C := RX4) (T := TX4) (N := 8) (v := .ref (ad (xaD0 j))) hx hb hts wX4_tellGone_c4 hown hK hP (xaS j) (xq_S hj) (xe_S (va_up_self _ _ _)) rfl 6 (by decide) wX4_tellGone_f11 rfl rfl dX4_tellGone_26 ?_
        refine lv_bipush (v := (6 : Int32)) hx hb dX4_tellGone_29 (by decide) ?_
        refine xr_aald (k := 6) (b := ad (xaD j 6)) hx hb hK hP (xaD0 j) 4 (xq_D0 hj) xe_D0 rfl rfl rfl (x_in _ _ (by decide)) rfl dX4_tellGone_31 ?_
        refine lv_iload_n hx hb dX4_tellGone_32 rfl (lv_at hl 2 rfl) ?_
        refine lv_ldc2 (v := (-2000000005 : Int64)) hx hb hown (hts _ wX4_tellGone_k45) dX4_tellGone_33 ?_
        obtain ⟨g_5, h⟩ := h
        obtain ⟨v_6, ev_6⟩ : ∃ z : StV, z = s_wdu v 6 (x2.toNatClampNeg) (-2000000005 : Int64) := ⟨_, rfl⟩
        have h := h v_6 ev_6
        refine xr_last (k := x2.toNatClampNeg) (x := (-2000000005 : Int64)) (g := (xc ad ci (va_up st j v_6) ln sv kv cu)) hx hb hK hP hAD hS (xaD j 6) 1 (xq_D hj (by decide)) (xe_D (by decide) (va_up_self _ _ _)) rfl rfl g_5 dX4_tellGone_36 (xg_du (by decide) (va_up_self _ _ _) (by rw [ev_6]; exact bx_uu _ _ _ _)) (fun H locs hP hS => ?_)
        refine lv_aload_n hx hb dX4_tellGone_37 rfl (lv_at hl 0 rfl) ?_
        refine lv_iload_n hx hb dX4_tellGone_38 rfl (lv_at hl 2 rfl) ?_
        refine lv_aload_n hx hb dX4_tellGone_39 rfl (lv_at hl 0 rfl) ?_
        refine xr_get (D := (dC, dI)) (C := RX4) (T := TX4) (N := 8) (v := .long (s_tm v_6)) hx hb hts wX4_tellGone_c4 hown hK hP (xaS j) (xq_S hj) (xe_S (va_up_self _ _ _)) rfl 0 (by decide) wX4_tellGone_f19 rfl rfl dX4_tellGone_40 ?_
        refine lv_aload_n hx hb dX4_tellGone_43 rfl (lv_at hl 0 rfl) ?_
        refine xr_get (D := (dC, dI)) (C := RX4) (T := TX4) (N := 8) (v := .ref (ad (xaD0 j))) hx hb hts wX4_tellGone_c4 hown hK hP (xaS j) (xq_S hj) (xe_S (va_up_self _ _ _)) rfl 6 (by decide) wX4_tellGone_f11 rfl rfl dX4_tellGone_44 ?_
        refine lv_bipush (v := (9 : Int32)) hx hb dX4_tellGone_47 (by decide) ?_
        refine xr_aald (k := 9) (b := ad (xaD j 9)) hx hb hK hP (xaD0 j) 4 (xq_D0 hj) xe_D0 rfl rfl rfl (x_in _ _ (by decide)) rfl dX4_tellGone_49 ?_
        refine lv_iload_n hx hb dX4_tellGone_50 rfl (lv_at hl 2 rfl) ?_
        obtain ⟨g_7, h⟩ := h
        refine xr_lald (k := x2.toNatClampNeg) hx hb hK hP (xaD j 9) 1 (xq_D hj (by decide)) (xe_D (by decide) (va_up_self _ _ _)) rfl rfl g_7 dX4_tellGone_51 ?_
        refine lv_ladd hx hb dX4_tellGone_52 ?_
        refine va_callv (va_runV (As := [.int x2, .long ((s_tm v_6) + (s_du v_6 9 (x2.toNatClampNeg)))]) (rest := []) ⟨hx, hb, C0.2.2.1, hown, hts⟩ (qX4_setTick l dC dI ad ci A ns hAD st v_6 ln sv kv cu j hj x2 ((s_tm v_6) + (s_du v_6 9 (x2.toNatClampNeg))) _ h) (cwV 2 hts gX4_tellGone_X4_setTick rfl rfl rfl (by decide +kernel) ⟨Nat.le_of_ble_eq_true rfl, Nat.le_of_ble_eq_true rfl⟩) ⟨xr_blind, xr_recv (r := (RX4, TX4, 8)) hK hP (xaS j) (xq_S hj) (xe_S (va_up_self _ _ _)) rfl, xr_pre hP hK⟩ rfl rfl hl.1 rfl (lv_room (Nat.le_of_ble_eq_true rfl)) dX4_tellGone_53 ⟨Nat.le_of_ble_eq_true rfl, Nat.le_of_ble_eq_true rfl⟩) hS (fun _ _ h => h) (fun _ h => h) (fun v_8 t9 H locs ht hvm h hB _ _ hS => ?_)
        refine W.cs (cells' := 0) (slots' := 0) rfl rfl ?_
        have hP := x_th ht hB
        have hP : va_P (dC, dI) vwCl (xw (xn ns) ad (xc ad ci (va_up st j v_8) ln sv kv cu)) H := hP
        obtain ⟨x2_9, ex2_9⟩ : ∃ z : Int32, z = x2 + 1 := ⟨_, rfl⟩
        have h := h x2_9 ex2_9
        refine lv_iinc (v := x2_9) (lv' := [(2, .int x2_9), (0, .ref (ad (xaS j))), (1, .int x1)]) hx hb dX4_tellGone_56 hl (k := 2) rfl (by rw [ex2_9]; rfl) (by decide) rfl (fun ls hl => ?_)
        refine lv_goto (tgt := 2) hx hb dX4_tellGone_59 (by decide) ?_
        exact ih x2_9 v_8 _ _ _ h hP hS (lv_sub hl [1, 2, 0] rfl)
def PX4_tellGone  (v : StV) (x1 : Int32) (post : StV → Prop) : Prop :=
  (∃ n_10 : Nat, LX4_tellGone_2  x1  post n_10 (0 : Int32) v)
set_option maxHeartbeats 4000000 in
set_option maxRecDepth 100000 in
theorem qX4_tellGone (l : Launch) (dC : Nat → ClassId) (dI : Nat → Nat → Nat) (ad : Nat → Nat) (ci : Nat → ClassId) (A : Nat → Prop) (ns : Nat) (hAD : xw_D (xn ns) ad A) (st : Nat → StV) (v : StV) (ln : Nat → LnV) (sv : SvV) (kv : KvV) (cu : Nat) (j : Nat) (hj : j < ns) (x1 : Int32) (post : StV → Prop) (h : PX4_tellGone v x1 post) : Met l yX4_tellGone wsX4_tellGone rmX4_tellGone (va_Pc [.ref (ad (xaS j)), .int x1] (fun U => va_P (dC, dI) vwCl (xw (xn ns) ad (xc ad ci (va_up st j v) ln sv kv cu)) U.heap ∧ va_K (dC, dI) vwCl (xT ci) U)) (va_Qv (fun u : StV => post u) (fun u t => va_P (dC, dI) vwCl (xw (xn ns) ad (xc ad ci (va_up st j u) ln sv kv cu)) t.heap) A) 0 0 A := by
  refine Met.ofW (cc := cX4_tellGone) (maxL := 3) (ret := none) (by decide) rfl ?_
  intro p e s m args below meth c s₁ B hml hv
  obtain ⟨eargs, hP, hK⟩ := hv
  have C0 : xC p s m args meth c cX4_tellGone 3 none RX4 wsX4_tellGone (dC, dI) (xT ci) := ⟨B.exec, B.bytes, hml, B.returns, B.notSynchronized, findClass_of_methodNamed B.named, atoms_spec (ws := wsX4_tellGone) B.pre, hK⟩
  obtain ⟨hx, hb, -, hr, hlocks, hown, hts, -⟩ := id C0
  have hS : va_S A s.heap s.heap [] := va_S.rf
  have hl := lv_entry ([.ref (ad (xaS j)), .int x1]) (n := 3) (Nat.le_of_ble_eq_true rfl)
  have ef : entryFrame m args 3 = entryFrame m ([.ref (ad (xaS j)), .int x1] : List Value).toArray 3 := by rw [eargs]
  rw [ef, lg_entry_eq]
  generalize (lg_sl ([.ref (ad (xaS j)), .int x1]) ++ List.replicate (3 - (lg_sl ([.ref (ad (xaS j)), .int x1])).length) Slot.unset).toArray = ls at hl ⊢
  have hl : lv_has ls 3 [(0, .ref (ad (xaS j))), (1, .int x1)] := hl
  have hP : va_P (dC, dI) vwCl (xw (xn ns) ad (xc ad ci (va_up st j v) ln sv kv cu)) s.heap := hP
  unfold PX4_tellGone at h
  refine lv_iconst (v := (0 : Int32)) hx hb dX4_tellGone_0 (by decide) ?_
  refine lv_istore_n (lv' := [(2, .int (0 : Int32)), (0, .ref (ad (xaS j))), (1, .int x1)]) hx hb dX4_tellGone_1 rfl hl (by decide) rfl (fun ls hl => ?_)
  obtain ⟨n_10, h⟩ := h
  exact kX4_tellGone_2 l dC dI ad ci A ns hAD st ln sv kv cu j hj  x1  post C0  n_10 (0 : Int32) v _ _ _ h hP hS (lv_sub hl [1, 2, 0] rfl)
abbrev rmX4_clear : Room := { frames := 0, cells := 0, slots := 0, locals := 0 }
theorem wX4_clear_c4 : ∀ w ∈ u_ws RX4 TX4 8, w ∈ wsX4_clear := by decide +kernel
theorem wX4_clear_f11 : Cond.fieldLink RX4 11 "DueWheels$State" "dues" "[[J" ∈ wsX4_clear := by decide +kernel
theorem wX4_clear_k45 : Cond.constantLong RX4 45 (-2000000005) ∈ wsX4_clear := by decide +kernel
def LX4_clear_2   (x1 : Int32)  (post : StV → Prop) : Nat → Int32 → StV → Prop
  | 0, _, _ => False
  | n + 1, x2, v => (((12 : Int32) ≤ x2 → (vp_in x1 200 ∧ (∀ v_3 : StV, v_3 = s_wdu v 11 (x1.toNatClampNeg) (0 : Int64) → post v_3))) ∧ (¬ (12 : Int32) ≤ x2 → (vp_in x2 12 ∧ (vp_in x1 200 ∧ (∀ v_6 : StV, v_6 = s_wdu v x2.toNatClampNeg (x1.toNatClampNeg) (-2000000005 : Int64) → ∀ x2_7 : Int32, x2_7 = x2 + 1 → LX4_clear_2  x1 post n x2_7 v_6)))))
set_option maxHeartbeats 4000000 in
set_option maxRecDepth 100000 in
theorem kX4_clear_2 {p : Program} {e : Env} {s : State} {m : MethodId} {args : Array Value} {below : List Frame} {meth : Method} {c : Code} (l : Launch) (dC : Nat → ClassId) (dI : Nat → Nat → Nat) (ad : Nat → Nat) (ci : Nat → ClassId) (A : Nat → Prop) (ns : Nat) (hAD : xw_D (xn ns) ad A) (st : Nat → StV) (ln : Nat → LnV) (sv : SvV) (kv : KvV) (cu : Nat) (j : Nat) (hj : j < ns) (x1 : Int32)  (post : StV → Prop) (C0 : xC p s m args meth c cX4_clear 3 none RX4 wsX4_clear (dC, dI) (xT ci)) : ∀ (n : Nat) (x2 : Int32) (v : StV) (H : Heap) (locs : List Loc) (ls : Array Slot), LX4_clear_2  x1 post n x2 v → va_P (dC, dI) vwCl (xw (xn ns) ad (xc ad ci (va_up st j v) ln sv kv cu)) H → va_S A s.heap H locs → lv_has ls 3 [(0, .ref (ad (xaS j))), (1, .int x1), (2, .int x2)] → W p l e rmX4_clear s m args below meth c H locs 0 0 (MQ below (va_Qv (fun u : StV => post u) (fun u t => va_P (dC, dI) vwCl (xw (xn ns) ad (xc ad ci (va_up st j u) ln sv kv cu)) t.heap) A) args s 0 0 A) (F0 m 2 ls []) := by
  obtain ⟨hx, hb, -, hr, hlocks, hown, hts, hK⟩ := id C0
  intro n
  induction n with
  | zero =>
    intro x2 v H locs ls h
    exact False.elim h
  | succ n ih =>
    intro x2 v H locs ls h hP hS hl
    rw [LX4_clear_2] at h
    refine lv_iload_n hx hb dX4_clear_2 rfl (lv_at hl 2 rfl) ?_
    refine lv_bipush (v := (12 : Int32)) hx hb dX4_clear_3 (by decide) ?_
    refine lv_icmp_ge (tgt := 25) hx hb dX4_clear_5 (by decide) (fun c_1 => ?_) (fun c_1 => ?_)
    · have h := h.1 c_1
      refine lv_aload_n hx hb dX4_clear_25 rfl (lv_at hl 0 rfl) ?_
      refine xr_get (D := (dC, dI)) (C := RX4) (T := TX4) (N := 8) (v := .ref (ad (xaD0 j))) hx hb hts wX4_clear_c4 hown hK hP (xaS j) (xq_S hj) (xe_S (va_up_self _ _ _)) rfl 6 (by decide) wX4_clear_f11 rfl rfl dX4_clear_26 ?_
      refine lv_bipush (v := (11 : Int32)) hx hb dX4_clear_29 (by decide) ?_
      refine xr_aald (k := 11) (b := ad (xaD j 11)) hx hb hK hP (xaD0 j) 4 (xq_D0 hj) xe_D0 rfl rfl rfl (x_in _ _ (by decide)) rfl dX4_clear_31 ?_
      refine lv_iload_n hx hb dX4_clear_32 rfl (lv_at hl 1 rfl) ?_
      refine lv_lconst (v := (0 : Int64)) hx hb dX4_clear_33 (by decide) ?_
      obtain ⟨g_2, h⟩ := h
      obtain ⟨v_3, ev_3⟩ : ∃ z : StV, z = s_wdu v 11 (x1.toNatClampNeg) (0 : Int64) := ⟨_, rfl⟩
      have h := h v_3 ev_3
      refine xr_last (k := x1.toNatClampNeg) (x := (0 : Int64)) (g := (xc ad ci (va_up st j v_3) ln sv kv cu)) hx hb hK hP hAD hS (xaD j 11) 1 (xq_D hj (by decide)) (xe_D (by decide) (va_up_self _ _ _)) rfl rfl g_2 dX4_clear_34 (xg_du (by decide) (va_up_self _ _ _) (by rw [ev_3]; exact bx_uu _ _ _ _)) (fun H locs hP hS => ?_)
      exact W.vret hx hb hr (fun t ht hW => ⟨⟨v_3, rfl, h, x_ht ht hP⟩, hS.F ht⟩) hS.2.2 dX4_clear_35
    · have h := h.2 c_1
      refine lv_aload_n hx hb dX4_clear_8 rfl (lv_at hl 0 rfl) ?_
      refine xr_get (D := (dC, dI)) (C := RX4) (T := TX4) (N := 8) (v := .ref (ad (xaD0 j))) hx hb hts wX4_clear_c4 hown hK hP (xaS j) (xq_S hj) (xe_S (va_up_self _ _ _)) rfl 6 (by decide) wX4_clear_f11 rfl rfl dX4_clear_9 ?_
      refine lv_iload_n hx hb dX4_clear_12 rfl (lv_at hl 2 rfl) ?_
      obtain ⟨g_4, h⟩ := h
      refine xr_aald (k := x2.toNatClampNeg) (b := ad (xaD j x2.toNatClampNeg)) hx hb hK hP (xaD0 j) 4 (xq_D0 hj) xe_D0 rfl rfl rfl g_4 rfl dX4_clear_13 ?_
      refine lv_iload_n hx hb dX4_clear_14 rfl (lv_at hl 1 rfl) ?_
      refine lv_ldc2 (v := (-2000000005 : Int64)) hx hb hown (hts _ wX4_clear_k45) dX4_clear_15 ?_
      obtain ⟨g_5, h⟩ := h
      obtain ⟨v_6, ev_6⟩ : ∃ z : StV, z = s_wdu v x2.toNatClampNeg (x1.toNatClampNeg) (-2000000005 : Int64) := ⟨_, rfl⟩
      have h := h v_6 ev_6
      refine xr_last (k := x1.toNatClampNeg) (x := (-2000000005 : Int64)) (g := (xc ad ci (va_up st j v_6) ln sv kv cu)) hx hb hK hP hAD hS (xaD j x2.toNatClampNeg) 1 (xq_D hj (x_lt g_4)) (xe_D (x_lt g_4) (va_up_self _ _ _)) rfl rfl g_5 dX4_clear_18 (xg_du (x_lt g_4) (va_up_self _ _ _) (by rw [ev_6]; exact bx_uu _ _ _ _)) (fun H locs hP hS => ?_)
      obtain ⟨x2_7, ex2_7⟩ : ∃ z : Int32, z = x2 + 1 := ⟨_, rfl⟩
      have h := h x2_7 ex2_7
      refine lv_iinc (v := x2_7) (lv' := [(2, .int x2_7), (0, .ref (ad (xaS j))), (1, .int x1)]) hx hb dX4_clear_19 hl (k := 2) rfl (by rw [ex2_7]; rfl) (by decide) rfl (fun ls hl => ?_)
      refine lv_goto (tgt := 2) hx hb dX4_clear_22 (by decide) ?_
      exact ih x2_7 v_6 _ _ _ h hP hS (lv_sub hl [1, 2, 0] rfl)
def PX4_clear  (v : StV) (x1 : Int32) (post : StV → Prop) : Prop :=
  (∃ n_8 : Nat, LX4_clear_2  x1  post n_8 (0 : Int32) v)
set_option maxHeartbeats 4000000 in
set_option maxRecDepth 100000 in
theorem qX4_clear (l : Launch) (dC : Nat → ClassId) (dI : Nat → Nat → Nat) (ad : Nat → Nat) (ci : Nat → ClassId) (A : Nat → Prop) (ns : Nat) (hAD : xw_D (xn ns) ad A) (st : Nat → StV) (v : StV) (ln : Nat → LnV) (sv : SvV) (kv : KvV) (cu : Nat) (j : Nat) (hj : j < ns) (x1 : Int32) (post : StV → Prop) (h : PX4_clear v x1 post) : Met l yX4_clear wsX4_clear rmX4_clear (va_Pc [.ref (ad (xaS j)), .int x1] (fun U => va_P (dC, dI) vwCl (xw (xn ns) ad (xc ad ci (va_up st j v) ln sv kv cu)) U.heap ∧ va_K (dC, dI) vwCl (xT ci) U)) (va_Qv (fun u : StV => post u) (fun u t => va_P (dC, dI) vwCl (xw (xn ns) ad (xc ad ci (va_up st j u) ln sv kv cu)) t.heap) A) 0 0 A := by
  refine Met.ofW (cc := cX4_clear) (maxL := 3) (ret := none) (by decide) rfl ?_
  intro p e s m args below meth c s₁ B hml hv
  obtain ⟨eargs, hP, hK⟩ := hv
  have C0 : xC p s m args meth c cX4_clear 3 none RX4 wsX4_clear (dC, dI) (xT ci) := ⟨B.exec, B.bytes, hml, B.returns, B.notSynchronized, findClass_of_methodNamed B.named, atoms_spec (ws := wsX4_clear) B.pre, hK⟩
  obtain ⟨hx, hb, -, hr, hlocks, hown, hts, -⟩ := id C0
  have hS : va_S A s.heap s.heap [] := va_S.rf
  have hl := lv_entry ([.ref (ad (xaS j)), .int x1]) (n := 3) (Nat.le_of_ble_eq_true rfl)
  have ef : entryFrame m args 3 = entryFrame m ([.ref (ad (xaS j)), .int x1] : List Value).toArray 3 := by rw [eargs]
  rw [ef, lg_entry_eq]
  generalize (lg_sl ([.ref (ad (xaS j)), .int x1]) ++ List.replicate (3 - (lg_sl ([.ref (ad (xaS j)), .int x1])).length) Slot.unset).toArray = ls at hl ⊢
  have hl : lv_has ls 3 [(0, .ref (ad (xaS j))), (1, .int x1)] := hl
  have hP : va_P (dC, dI) vwCl (xw (xn ns) ad (xc ad ci (va_up st j v) ln sv kv cu)) s.heap := hP
  unfold PX4_clear at h
  refine lv_iconst (v := (0 : Int32)) hx hb dX4_clear_0 (by decide) ?_
  refine lv_istore_n (lv' := [(2, .int (0 : Int32)), (0, .ref (ad (xaS j))), (1, .int x1)]) hx hb dX4_clear_1 rfl hl (by decide) rfl (fun ls hl => ?_)
  obtain ⟨n_8, h⟩ := h
  exact kX4_clear_2 l dC dI ad ci A ns hAD st ln sv kv cu j hj  x1  post C0  n_8 (0 : Int32) v _ _ _ h hP hS (lv_sub hl [1, 2, 0] rfl)
abbrev rmX4_close : Room := { frames := 1, cells := 0, slots := 0, locals := 22 }
theorem wX4_close_k45 : Cond.constantLong RX4 45 (-2000000005) ∈ wsX4_close := by decide +kernel
theorem wX4_close_c4 : ∀ w ∈ u_ws RX4 TX4 8, w ∈ wsX4_close := by decide +kernel
theorem wX4_close_f32 : Cond.fieldLink RX4 32 "DueWheels$State" "end" "I" ∈ wsX4_close := by decide +kernel
theorem wX4_close_f11 : Cond.fieldLink RX4 11 "DueWheels$State" "dues" "[[J" ∈ wsX4_close := by decide +kernel
def LX4_close_12     (post : StV → Prop) : Nat → Int32 → StV → Prop
  | 0, _, _ => False
  | n + 1, x2, v => ((x2 < 0 → post v) ∧ (¬ x2 < 0 → (vp_in x2 200 ∧ (((s_du v 0 (x2.toNatClampNeg)) = (-2000000005 : Int64) → ∀ v_6 : StV, v_6 = s_wen v x2 → ∀ x2_7 : Int32, x2_7 = x2 + (-1) → LX4_close_12  post n x2_7 v_6) ∧ (¬ (s_du v 0 (x2.toNatClampNeg)) = (-2000000005 : Int64) → post v)))))
set_option maxHeartbeats 4000000 in
set_option maxRecDepth 100000 in
theorem kX4_close_12 {p : Program} {e : Env} {s : State} {m : MethodId} {args : Array Value} {below : List Frame} {meth : Method} {c : Code} (l : Launch) (dC : Nat → ClassId) (dI : Nat → Nat → Nat) (ad : Nat → Nat) (ci : Nat → ClassId) (A : Nat → Prop) (ns : Nat) (hAD : xw_D (xn ns) ad A) (st : Nat → StV) (ln : Nat → LnV) (sv : SvV) (kv : KvV) (cu : Nat) (j : Nat) (hj : j < ns)   (post : StV → Prop) (C0 : xC p s m args meth c cX4_close 3 none RX4 wsX4_close (dC, dI) (xT ci)) : ∀ (n : Nat) (x2 : Int32) (v : StV) (H : Heap) (locs : List Loc) (ls : Array Slot), LX4_close_12  post n x2 v → va_P (dC, dI) vwCl (xw (xn ns) ad (xc ad ci (va_up st j v) ln sv kv cu)) H → va_S A s.heap H locs → lv_has ls 3 [(0, .ref (ad (xaS j))), (2, .int x2)] → W p l e rmX4_close s m args below meth c H locs 0 0 (MQ below (va_Qv (fun u : StV => post u) (fun u t => va_P (dC, dI) vwCl (xw (xn ns) ad (xc ad ci (va_up st j u) ln sv kv cu)) t.heap) A) args s 0 0 A) (F0 m 12 ls []) := by
  obtain ⟨hx, hb, -, hr, hlocks, hown, hts, hK⟩ := id C0
  intro n
  induction n with
  | zero =>
    intro x2 v H locs ls h
    exact False.elim h
  | succ n ih =>
    intro x2 v H locs ls h hP hS hl
    rw [LX4_close_12] at h
    refine lv_iload_n hx hb dX4_close_12 rfl (lv_at hl 1 rfl) ?_
    refine lv_if_lt (tgt := 42) hx hb dX4_close_13 (by decide) (fun c_3 => ?_) (fun c_3 => ?_)
    · have h := h.1 c_3
      exact W.vret hx hb hr (fun t ht hW => ⟨⟨v, rfl, h, x_ht ht hP⟩, hS.F ht⟩) hS.2.2 dX4_close_42
    · have h := h.2 c_3
      refine lv_aload_n hx hb dX4_close_16 rfl (lv_at hl 0 rfl) ?_
      refine xr_get (D := (dC, dI)) (C := RX4) (T := TX4) (N := 8) (v := .ref (ad (xaD0 j))) hx hb hts wX4_close_c4 hown hK hP (xaS j) (xq_S hj) (xe_S (va_up_self _ _ _)) rfl 6 (by decide) wX4_close_f11 rfl rfl dX4_close_17 ?_
      refine lv_iconst (v := (0 : Int32)) hx hb dX4_close_20 (by decide) ?_
      refine xr_aald (k := 0) (b := ad (xaD j 0)) hx hb hK hP (xaD0 j) 4 (xq_D0 hj) xe_D0 rfl rfl rfl (x_in _ _ (by decide)) rfl dX4_close_21 ?_
      refine lv_iload_n hx hb dX4_close_22 rfl (lv_at hl 1 rfl) ?_
      obtain ⟨g_4, h⟩ := h
      refine xr_lald (k := x2.toNatClampNeg) hx hb hK hP (xaD j 0) 1 (xq_D hj (by decide)) (xe_D (by decide) (va_up_self _ _ _)) rfl rfl g_4 dX4_close_23 ?_
      refine lv_ldc2 (v := (-2000000005 : Int64)) hx hb hown (hts _ wX4_close_k45) dX4_close_24 ?_
      refine xr_if_lcmp_ne (tgt := 42) hx hb dX4_close_27 dX4_close_28 (by decide) (fun c_5 => ?_) (fun c_5 => ?_)
      · have h := h.2 c_5
        exact W.vret hx hb hr (fun t ht hW => ⟨⟨v, rfl, h, x_ht ht hP⟩, hS.F ht⟩) hS.2.2 dX4_close_42
      · have h := h.1 c_5
        refine lv_aload_n hx hb dX4_close_31 rfl (lv_at hl 0 rfl) ?_
        refine lv_iload_n hx hb dX4_close_32 rfl (lv_at hl 1 rfl) ?_
        obtain ⟨v_6, ev_6⟩ : ∃ z : StV, z = s_wen v x2 := ⟨_, rfl⟩
        have h := h v_6 ev_6
        refine xr_put (D := (dC, dI)) (C := RX4) (T := TX4) (N := 8) (ty := .int) (v := .int x2) (g := (xc ad ci (va_up st j v_6) ln sv kv cu)) hx hb hts wX4_close_c4 tyX4 tyX4_ok nmX4 hown hK hP hAD hS (xaS j) (xq_S hj) (xe_S (va_up_self _ _ _)) rfl 4 (by decide) wX4_close_f32 rfl rfl (by decide +kernel) rfl rfl (Nat.le_of_ble_eq_true rfl) dX4_close_33 (xg_en (va_up_self _ _ _) (by rw [ev_6]; exact bx_uu _ _ _ _)) (fun H locs hP hS => ?_)
        obtain ⟨x2_7, ex2_7⟩ : ∃ z : Int32, z = x2 + (-1) := ⟨_, rfl⟩
        have h := h x2_7 ex2_7
        refine lv_iinc (v := x2_7) (lv' := [(2, .int x2_7), (0, .ref (ad (xaS j)))]) hx hb dX4_close_36 hl (k := 1) rfl (by rw [ex2_7]; rfl) (by decide) rfl (fun ls hl => ?_)
        refine lv_goto (tgt := 12) hx hb dX4_close_39 (by decide) ?_
        exact ih x2_7 v_6 _ _ _ h hP hS (lv_sub hl [1, 0] rfl)
def PX4_close  (v : StV) (x1 : Int32) (post : StV → Prop) : Prop :=
  (PX4_clear v x1 (fun (v_1 : StV) => ∀ x2_2 : Int32, x2_2 = ((s_en v_1) - (1 : Int32)) → (∃ n_8 : Nat, LX4_close_12    post n_8 x2_2 v_1)))
set_option maxHeartbeats 4000000 in
set_option maxRecDepth 100000 in
theorem qX4_close (l : Launch) (dC : Nat → ClassId) (dI : Nat → Nat → Nat) (ad : Nat → Nat) (ci : Nat → ClassId) (A : Nat → Prop) (ns : Nat) (hAD : xw_D (xn ns) ad A) (st : Nat → StV) (v : StV) (ln : Nat → LnV) (sv : SvV) (kv : KvV) (cu : Nat) (j : Nat) (hj : j < ns) (x1 : Int32) (post : StV → Prop) (h : PX4_close v x1 post) : Met l yX4_close wsX4_close rmX4_close (va_Pc [.ref (ad (xaS j)), .int x1] (fun U => va_P (dC, dI) vwCl (xw (xn ns) ad (xc ad ci (va_up st j v) ln sv kv cu)) U.heap ∧ va_K (dC, dI) vwCl (xT ci) U)) (va_Qv (fun u : StV => post u) (fun u t => va_P (dC, dI) vwCl (xw (xn ns) ad (xc ad ci (va_up st j u) ln sv kv cu)) t.heap) A) 0 0 A := by
  refine Met.ofW (cc := cX4_close) (maxL := 3) (ret := none) (by decide) rfl ?_
  intro p e s m args below meth c s₁ B hml hv
  obtain ⟨eargs, hP, hK⟩ := hv
  have C0 : xC p s m args meth c cX4_close 3 none RX4 wsX4_close (dC, dI) (xT ci) := ⟨B.exec, B.bytes, hml, B.returns, B.notSynchronized, findClass_of_methodNamed B.named, atoms_spec (ws := wsX4_close) B.pre, hK⟩
  obtain ⟨hx, hb, -, hr, hlocks, hown, hts, -⟩ := id C0
  have hS : va_S A s.heap s.heap [] := va_S.rf
  have hl := lv_entry ([.ref (ad (xaS j)), .int x1]) (n := 3) (Nat.le_of_ble_eq_true rfl)
  have ef : entryFrame m args 3 = entryFrame m ([.ref (ad (xaS j)), .int x1] : List Value).toArray 3 := by rw [eargs]
  rw [ef, lg_entry_eq]
  generalize (lg_sl ([.ref (ad (xaS j)), .int x1]) ++ List.replicate (3 - (lg_sl ([.ref (ad (xaS j)), .int x1])).length) Slot.unset).toArray = ls at hl ⊢
  have hl : lv_has ls 3 [(0, .ref (ad (xaS j))), (1, .int x1)] := hl
  have hP : va_P (dC, dI) vwCl (xw (xn ns) ad (xc ad ci (va_up st j v) ln sv kv cu)) s.heap := hP
  unfold PX4_close at h
  refine lv_aload_n hx hb dX4_close_0 rfl (lv_at hl 0 rfl) ?_
  refine lv_iload_n hx hb dX4_close_1 rfl (lv_at hl 1 rfl) ?_
  refine va_callv (va_runV (As := [.int x1]) (rest := []) ⟨hx, hb, C0.2.2.1, hown, hts⟩ (qX4_clear l dC dI ad ci A ns hAD st v ln sv kv cu j hj x1 _ h) (cwV 1 hts gX4_close_X4_clear rfl rfl rfl (by decide +kernel) ⟨Nat.le_of_ble_eq_true rfl, Nat.le_of_ble_eq_true rfl⟩) ⟨xr_blind, xr_recv (r := (RX4, TX4, 8)) hK hP (xaS j) (xq_S hj) (xe_S (va_up_self _ _ _)) rfl, xr_pre hP hK⟩ rfl rfl hl.1 rfl (lv_room (Nat.le_of_ble_eq_true rfl)) dX4_close_2 ⟨Nat.le_of_ble_eq_true rfl, Nat.le_of_ble_eq_true rfl⟩) hS (fun _ _ h => h) (fun _ h => h) (fun v_1 t9 H locs ht hvm h hB _ _ hS => ?_)
  refine W.cs (cells' := 0) (slots' := 0) rfl rfl ?_
  have hP := x_th ht hB
  have hP : va_P (dC, dI) vwCl (xw (xn ns) ad (xc ad ci (va_up st j v_1) ln sv kv cu)) H := hP
  refine lv_aload_n hx hb dX4_close_5 rfl (lv_at hl 0 rfl) ?_
  refine xr_get (D := (dC, dI)) (C := RX4) (T := TX4) (N := 8) (v := .int (s_en v_1)) hx hb hts wX4_close_c4 hown hK hP (xaS j) (xq_S hj) (xe_S (va_up_self _ _ _)) rfl 4 (by decide) wX4_close_f32 rfl rfl dX4_close_6 ?_
  refine lv_iconst (v := (1 : Int32)) hx hb dX4_close_9 (by decide) ?_
  refine lv_isub hx hb dX4_close_10 ?_
  refine lv_topi (fun x2_2 ex2_2 => ?_)
  have h := h x2_2 ex2_2
  refine lv_istore_n (lv' := [(2, .int x2_2), (0, .ref (ad (xaS j))), (1, .int x1)]) hx hb dX4_close_11 rfl hl (by decide) rfl (fun ls hl => ?_)
  obtain ⟨n_8, h⟩ := h
  exact kX4_close_12 l dC dI ad ci A ns hAD st ln sv kv cu j hj    post C0  n_8 x2_2 v_1 _ _ _ h hP hS (lv_sub hl [1, 0] rfl)
abbrev rmX4_copyOf : Room := { frames := 1, cells := 0, slots := 0, locals := 40 }
theorem wX4_copyOf_m39 : Cond.methodLink RX4 39 arraycopyName ∈ wsX4_copyOf := by decide +kernel
theorem wX4_copyOf_ac1 : Cond.native arraycopyName ∈ wsX4_copyOf := by decide +kernel
theorem wX4_copyOf_ac2 : Cond.static arraycopyName ∈ wsX4_copyOf := by decide +kernel
theorem wX4_copyOf_ac3 : Cond.initialized "java/lang/System" ∈ wsX4_copyOf := by decide +kernel
theorem wX4_copyOf_c4 : ∀ w ∈ u_ws RX4 TX4 8, w ∈ wsX4_copyOf := by decide +kernel
theorem wX4_copyOf_f32 : Cond.fieldLink RX4 32 "DueWheels$State" "end" "I" ∈ wsX4_copyOf := by decide +kernel
theorem wX4_copyOf_f11 : Cond.fieldLink RX4 11 "DueWheels$State" "dues" "[[J" ∈ wsX4_copyOf := by decide +kernel
theorem wX4_copyOf_f36 : Cond.fieldLink RX4 36 "DueWheels$State" "rowSize" "I" ∈ wsX4_copyOf := by decide +kernel
theorem wX4_copyOf_f16 : Cond.fieldLink RX4 16 "DueWheels$State" "row" "[[J" ∈ wsX4_copyOf := by decide +kernel
theorem wX4_copyOf_f29 : Cond.fieldLink RX4 29 "DueWheels$State" "moves" "J" ∈ wsX4_copyOf := by decide +kernel
theorem wX4_copyOf_f26 : Cond.fieldLink RX4 26 "DueWheels$State" "goings" "J" ∈ wsX4_copyOf := by decide +kernel
theorem wX4_copyOf_f23 : Cond.fieldLink RX4 23 "DueWheels$State" "places" "J" ∈ wsX4_copyOf := by decide +kernel
theorem wX4_copyOf_f19 : Cond.fieldLink RX4 19 "DueWheels$State" "time" "J" ∈ wsX4_copyOf := by decide +kernel
def LX4_copyOf_50  (o : StV)  (K83 : StV → Prop) (post : StV → Prop) : Nat → Int32 → StV → Prop
  | 0, _, _ => False
  | n + 1, x2, v => (((12 : Int32) ≤ x2 → K83 v) ∧ (¬ (12 : Int32) ≤ x2 → (vp_in x2 12 ∧ (vp_in x2 12 ∧ (¬ (s_en v) < 0 ∧ (s_en v).toNatClampNeg ≤ 200 ∧ (∀ v_12 : StV, v_12 = s_rdu v (x2.toNatClampNeg) (va_cpy (s_du o (x2.toNatClampNeg)) (s_du v (x2.toNatClampNeg)) 0 0 ((s_en v).toNatClampNeg)) → ∀ x2_13 : Int32, x2_13 = x2 + 1 → LX4_copyOf_50  o K83 post n x2_13 v_12))))))
set_option maxHeartbeats 4000000 in
set_option maxRecDepth 100000 in
theorem kX4_copyOf_50 {p : Program} {e : Env} {s : State} {m : MethodId} {args : Array Value} {below : List Frame} {meth : Method} {c : Code} (l : Launch) (dC : Nat → ClassId) (dI : Nat → Nat → Nat) (ad : Nat → Nat) (ci : Nat → ClassId) (A : Nat → Prop) (ns : Nat) (hAD : xw_D (xn ns) ad A) (st : Nat → StV) (o : StV) (ln : Nat → LnV) (sv : SvV) (kv : KvV) (cu : Nat) (j : Nat) (hj : j < ns) (j2 : Nat) (hj2 : j2 < ns) (hne : j2 ≠ j) (ho : st j2 = o)  (K83 : StV → Prop) (post : StV → Prop) (C0 : xC p s m args meth c cX4_copyOf 3 none RX4 wsX4_copyOf (dC, dI) (xT ci)) (hK83 : ∀ (v : StV) (H : Heap) (locs : List Loc) (ls : Array Slot), K83 v → va_P (dC, dI) vwCl (xw (xn ns) ad (xc ad ci (va_up st j v) ln sv kv cu)) H → va_S A s.heap H locs → lv_has ls 3 [(0, .ref (ad (xaS j))), (1, .ref (ad (xaS j2)))] → W p l e rmX4_copyOf s m args below meth c H locs 0 0 (MQ below (va_Qv (fun u : StV => post u) (fun u t => va_P (dC, dI) vwCl (xw (xn ns) ad (xc ad ci (va_up st j u) ln sv kv cu)) t.heap) A) args s 0 0 A) (F0 m 83 ls [])) : ∀ (n : Nat) (x2 : Int32) (v : StV) (H : Heap) (locs : List Loc) (ls : Array Slot), LX4_copyOf_50  o K83 post n x2 v → va_P (dC, dI) vwCl (xw (xn ns) ad (xc ad ci (va_up st j v) ln sv kv cu)) H → va_S A s.heap H locs → lv_has ls 3 [(0, .ref (ad (xaS j))), (1, .ref (ad (xaS j2))), (2, .int x2)] → W p l e rmX4_copyOf s m args below meth c H locs 0 0 (MQ below (va_Qv (fun u : StV => post u) (fun u t => va_P (dC, dI) vwCl (xw (xn ns) ad (xc ad ci (va_up st j u) ln sv kv cu)) t.heap) A) args s 0 0 A) (F0 m 50 ls []) := by
  obtain ⟨hx, hb, -, hr, hlocks, hown, hts, hK⟩ := id C0
  intro n
  induction n with
  | zero =>
    intro x2 v H locs ls h
    exact False.elim h
  | succ n ih =>
    intro x2 v H locs ls h hP hS hl
    rw [LX4_copyOf_50] at h
    refine lv_iload_n hx hb dX4_copyOf_50 rfl (lv_at hl 2 rfl) ?_
    refine lv_bipush (v := (12 : Int32)) hx hb dX4_copyOf_51 (by decide) ?_
    refine lv_icmp_ge (tgt := 83) hx hb dX4_copyOf_53 (by decide) (fun c_7 => ?_) (fun c_7 => ?_)
    · have h := h.1 c_7
      exact hK83 v _ _ _ h hP hS (lv_sub hl [0, 1] rfl)
    · have h := h.2 c_7
      refine lv_aload_n hx hb dX4_copyOf_56 rfl (lv_at hl 1 rfl) ?_
      refine xr_get (D := (dC, dI)) (C := RX4) (T := TX4) (N := 8) (v := .ref (ad (xaD0 j2))) hx hb hts wX4_copyOf_c4 hown hK hP (xaS j2) (xq_S hj2) (xe_S (x_oth hne ho)) rfl 6 (by decide) wX4_copyOf_f11 rfl rfl dX4_copyOf_57 ?_
      refine lv_iload_n hx hb dX4_copyOf_60 rfl (lv_at hl 2 rfl) ?_
      obtain ⟨g_8, h⟩ := h
      refine xr_aald (k := x2.toNatClampNeg) (b := ad (xaD j2 x2.toNatClampNeg)) hx hb hK hP (xaD0 j2) 4 (xq_D0 hj2) xe_D0 rfl rfl rfl g_8 rfl dX4_copyOf_61 ?_
      refine lv_iconst (v := (0 : Int32)) hx hb dX4_copyOf_62 (by decide) ?_
      refine lv_aload_n hx hb dX4_copyOf_63 rfl (lv_at hl 0 rfl) ?_
      refine xr_get (D := (dC, dI)) (C := RX4) (T := TX4) (N := 8) (v := .ref (ad (xaD0 j))) hx hb hts wX4_copyOf_c4 hown hK hP (xaS j) (xq_S hj) (xe_S (va_up_self _ _ _)) rfl 6 (by decide) wX4_copyOf_f11 rfl rfl dX4_copyOf_64 ?_
      refine lv_iload_n hx hb dX4_copyOf_67 rfl (lv_at hl 2 rfl) ?_
      obtain ⟨g_9, h⟩ := h
      refine xr_aald (k := x2.toNatClampNeg) (b := ad (xaD j x2.toNatClampNeg)) hx hb hK hP (xaD0 j) 4 (xq_D0 hj) xe_D0 rfl rfl rfl g_9 rfl dX4_copyOf_68 ?_
      refine lv_iconst (v := (0 : Int32)) hx hb dX4_copyOf_69 (by decide) ?_
      refine lv_aload_n hx hb dX4_copyOf_70 rfl (lv_at hl 0 rfl) ?_
      refine xr_get (D := (dC, dI)) (C := RX4) (T := TX4) (N := 8) (v := .int (s_en v)) hx hb hts wX4_copyOf_c4 hown hK hP (xaS j) (xq_S hj) (xe_S (va_up_self _ _ _)) rfl 4 (by decide) wX4_copyOf_f32 rfl rfl dX4_copyOf_71 ?_
      obtain ⟨g_10, g_11, h⟩ := h
      obtain ⟨v_12, ev_12⟩ : ∃ z : StV, z = s_rdu v (x2.toNatClampNeg) (va_cpy (s_du o (x2.toNatClampNeg)) (s_du v (x2.toNatClampNeg)) 0 0 ((s_en v).toNatClampNeg)) := ⟨_, rfl⟩
      have h := h v_12 ev_12
      refine xr_copyl (k := (s_en v).toNatClampNeg) (g := (xc ad ci (va_up st j v_12) ln sv kv cu)) hx hb (by rw [C0.2.2.1]; exact hl.1.symm) hts hown wX4_copyOf_m39 wX4_copyOf_ac1 wX4_copyOf_ac2 wX4_copyOf_ac3 hK hP hAD hS (xaD j2 x2.toNatClampNeg) (xaD j x2.toNatClampNeg) 1 (xq_D hj2 (x_lt g_9)) (xq_D hj (x_lt g_9)) (xe_D (x_lt g_9) (x_oth hne ho)) (xe_D (x_lt g_9) (va_up_self _ _ _)) rfl rfl g_10 g_11 g_11 (Nat.le_of_ble_eq_true rfl) (Nat.le_of_ble_eq_true rfl) dX4_copyOf_74 (xg_rdu (x_lt g_9) (va_up_self _ _ _) (by rw [ev_12]; exact bx_uu _ _ _ _)) (fun H locs hP hS => ?_)
      obtain ⟨x2_13, ex2_13⟩ : ∃ z : Int32, z = x2 + 1 := ⟨_, rfl⟩
      have h := h x2_13 ex2_13
      refine lv_iinc (v := x2_13) (lv' := [(2, .int x2_13), (0, .ref (ad (xaS j))), (1, .ref (ad (xaS j2)))]) hx hb dX4_copyOf_77 hl (k := 2) rfl (by rw [ex2_13]; rfl) (by decide) rfl (fun ls hl => ?_)
      refine lv_goto (tgt := 50) hx hb dX4_copyOf_80 (by decide) ?_
      exact ih x2_13 v_12 _ _ _ h hP hS (lv_sub hl [1, 2, 0] rfl)
def LX4_copyOf_85  (o : StV)   (post : StV → Prop) : Nat → Int32 → StV → Prop
  | 0, _, _ => False
  | n + 1, x2, v => (((3 : Int32) ≤ x2 → post v) ∧ (¬ (3 : Int32) ≤ x2 → (vp_in x2 3 ∧ (vp_in x2 3 ∧ (¬ (s_rs v) < 0 ∧ (s_rs v).toNatClampNeg ≤ 300 ∧ (∀ v_20 : StV, v_20 = s_rro v (x2.toNatClampNeg) (va_cpy (s_ro o (x2.toNatClampNeg)) (s_ro v (x2.toNatClampNeg)) 0 0 ((s_rs v).toNatClampNeg)) → ∀ x2_21 : Int32, x2_21 = x2 + 1 → LX4_copyOf_85  o post n x2_21 v_20))))))
set_option maxHeartbeats 4000000 in
set_option maxRecDepth 100000 in
theorem kX4_copyOf_85 {p : Program} {e : Env} {s : State} {m : MethodId} {args : Array Value} {below : List Frame} {meth : Method} {c : Code} (l : Launch) (dC : Nat → ClassId) (dI : Nat → Nat → Nat) (ad : Nat → Nat) (ci : Nat → ClassId) (A : Nat → Prop) (ns : Nat) (hAD : xw_D (xn ns) ad A) (st : Nat → StV) (o : StV) (ln : Nat → LnV) (sv : SvV) (kv : KvV) (cu : Nat) (j : Nat) (hj : j < ns) (j2 : Nat) (hj2 : j2 < ns) (hne : j2 ≠ j) (ho : st j2 = o)   (post : StV → Prop) (C0 : xC p s m args meth c cX4_copyOf 3 none RX4 wsX4_copyOf (dC, dI) (xT ci)) : ∀ (n : Nat) (x2 : Int32) (v : StV) (H : Heap) (locs : List Loc) (ls : Array Slot), LX4_copyOf_85  o post n x2 v → va_P (dC, dI) vwCl (xw (xn ns) ad (xc ad ci (va_up st j v) ln sv kv cu)) H → va_S A s.heap H locs → lv_has ls 3 [(0, .ref (ad (xaS j))), (1, .ref (ad (xaS j2))), (2, .int x2)] → W p l e rmX4_copyOf s m args below meth c H locs 0 0 (MQ below (va_Qv (fun u : StV => post u) (fun u t => va_P (dC, dI) vwCl (xw (xn ns) ad (xc ad ci (va_up st j u) ln sv kv cu)) t.heap) A) args s 0 0 A) (F0 m 85 ls []) := by
  obtain ⟨hx, hb, -, hr, hlocks, hown, hts, hK⟩ := id C0
  intro n
  induction n with
  | zero =>
    intro x2 v H locs ls h
    exact False.elim h
  | succ n ih =>
    intro x2 v H locs ls h hP hS hl
    rw [LX4_copyOf_85] at h
    refine lv_iload_n hx hb dX4_copyOf_85 rfl (lv_at hl 2 rfl) ?_
    refine lv_iconst (v := (3 : Int32)) hx hb dX4_copyOf_86 (by decide) ?_
    refine lv_icmp_ge (tgt := 117) hx hb dX4_copyOf_87 (by decide) (fun c_15 => ?_) (fun c_15 => ?_)
    · have h := h.1 c_15
      exact W.vret hx hb hr (fun t ht hW => ⟨⟨v, rfl, h, x_ht ht hP⟩, hS.F ht⟩) hS.2.2 dX4_copyOf_117
    · have h := h.2 c_15
      refine lv_aload_n hx hb dX4_copyOf_90 rfl (lv_at hl 1 rfl) ?_
      refine xr_get (D := (dC, dI)) (C := RX4) (T := TX4) (N := 8) (v := .ref (ad (xaR0 j2))) hx hb hts wX4_copyOf_c4 hown hK hP (xaS j2) (xq_S hj2) (xe_S (x_oth hne ho)) rfl 7 (by decide) wX4_copyOf_f16 rfl rfl dX4_copyOf_91 ?_
      refine lv_iload_n hx hb dX4_copyOf_94 rfl (lv_at hl 2 rfl) ?_
      obtain ⟨g_16, h⟩ := h
      refine xr_aald (k := x2.toNatClampNeg) (b := ad (xaR j2 x2.toNatClampNeg)) hx hb hK hP (xaR0 j2) 4 (xq_R0 hj2) xe_R0 rfl rfl rfl g_16 rfl dX4_copyOf_95 ?_
      refine lv_iconst (v := (0 : Int32)) hx hb dX4_copyOf_96 (by decide) ?_
      refine lv_aload_n hx hb dX4_copyOf_97 rfl (lv_at hl 0 rfl) ?_
      refine xr_get (D := (dC, dI)) (C := RX4) (T := TX4) (N := 8) (v := .ref (ad (xaR0 j))) hx hb hts wX4_copyOf_c4 hown hK hP (xaS j) (xq_S hj) (xe_S (va_up_self _ _ _)) rfl 7 (by decide) wX4_copyOf_f16 rfl rfl dX4_copyOf_98 ?_
      refine lv_iload_n hx hb dX4_copyOf_101 rfl (lv_at hl 2 rfl) ?_
      obtain ⟨g_17, h⟩ := h
      refine xr_aald (k := x2.toNatClampNeg) (b := ad (xaR j x2.toNatClampNeg)) hx hb hK hP (xaR0 j) 4 (xq_R0 hj) xe_R0 rfl rfl rfl g_17 rfl dX4_copyOf_102 ?_
      refine lv_iconst (v := (0 : Int32)) hx hb dX4_copyOf_103 (by decide) ?_
      refine lv_aload_n hx hb dX4_copyOf_104 rfl (lv_at hl 0 rfl) ?_
      refine xr_get (D := (dC, dI)) (C := RX4) (T := TX4) (N := 8) (v := .int (s_rs v)) hx hb hts wX4_copyOf_c4 hown hK hP (xaS j) (xq_S hj) (xe_S (va_up_self _ _ _)) rfl 5 (by decide) wX4_copyOf_f36 rfl rfl dX4_copyOf_105 ?_
      obtain ⟨g_18, g_19, h⟩ := h
      obtain ⟨v_20, ev_20⟩ : ∃ z : StV, z = s_rro v (x2.toNatClampNeg) (va_cpy (s_ro o (x2.toNatClampNeg)) (s_ro v (x2.toNatClampNeg)) 0 0 ((s_rs v).toNatClampNeg)) := ⟨_, rfl⟩
      have h := h v_20 ev_20
      refine xr_copyl (k := (s_rs v).toNatClampNeg) (g := (xc ad ci (va_up st j v_20) ln sv kv cu)) hx hb (by rw [C0.2.2.1]; exact hl.1.symm) hts hown wX4_copyOf_m39 wX4_copyOf_ac1 wX4_copyOf_ac2 wX4_copyOf_ac3 hK hP hAD hS (xaR j2 x2.toNatClampNeg) (xaR j x2.toNatClampNeg) 1 (xq_R hj2 (x_lt g_17)) (xq_R hj (x_lt g_17)) (xe_R (x_lt g_17) (x_oth hne ho)) (xe_R (x_lt g_17) (va_up_self _ _ _)) rfl rfl g_18 g_19 g_19 (Nat.le_of_ble_eq_true rfl) (Nat.le_of_ble_eq_true rfl) dX4_copyOf_108 (xg_rro (x_lt g_17) (va_up_self _ _ _) (by rw [ev_20]; exact bx_uu _ _ _ _)) (fun H locs hP hS => ?_)
      obtain ⟨x2_21, ex2_21⟩ : ∃ z : Int32, z = x2 + 1 := ⟨_, rfl⟩
      have h := h x2_21 ex2_21
      refine lv_iinc (v := x2_21) (lv' := [(2, .int x2_21), (0, .ref (ad (xaS j))), (1, .ref (ad (xaS j2)))]) hx hb dX4_copyOf_111 hl (k := 2) rfl (by rw [ex2_21]; rfl) (by decide) rfl (fun ls hl => ?_)
      refine lv_goto (tgt := 85) hx hb dX4_copyOf_114 (by decide) ?_
      exact ih x2_21 v_20 _ _ _ h hP hS (lv_sub hl [1, 2, 0] rfl)
def PX4_copyOf  (v : StV) (o : StV)  (post : StV → Prop) : Prop :=
  ∀ v_1 : StV, v_1 = s_wtm v (s_tm o) → ∀ v_2 : StV, v_2 = s_wpl v_1 (s_pl o) → ∀ v_3 : StV, v_3 = s_wgo v_2 (s_go o) → ∀ v_4 : StV, v_4 = s_wmv v_3 (s_mv o) → ∀ v_5 : StV, v_5 = s_wen v_4 (s_en o) → ∀ v_6 : StV, v_6 = s_wrs v_5 (s_rs o) → (∃ n_23 : Nat, LX4_copyOf_50  o (fun (v_14 : StV) => (∃ n_22 : Nat, LX4_copyOf_85  o  post n_22 (0 : Int32) v_14)) post n_23 (0 : Int32) v_6)
set_option maxHeartbeats 4000000 in
set_option maxRecDepth 100000 in
theorem qX4_copyOf (l : Launch) (dC : Nat → ClassId) (dI : Nat → Nat → Nat) (ad : Nat → Nat) (ci : Nat → ClassId) (A : Nat → Prop) (ns : Nat) (hAD : xw_D (xn ns) ad A) (st : Nat → StV) (v : StV) (o : StV) (ln : Nat → LnV) (sv : SvV) (kv : KvV) (cu : Nat) (j : Nat) (hj : j < ns) (j2 : Nat) (hj2 : j2 < ns) (hne : j2 ≠ j) (ho : st j2 = o)  (post : StV → Prop) (h : PX4_copyOf v o post) : Met l yX4_copyOf wsX4_copyOf rmX4_copyOf (va_Pc [.ref (ad (xaS j)), .ref (ad (xaS j2))] (fun U => va_P (dC, dI) vwCl (xw (xn ns) ad (xc ad ci (va_up st j v) ln sv kv cu)) U.heap ∧ va_K (dC, dI) vwCl (xT ci) U)) (va_Qv (fun u : StV => post u) (fun u t => va_P (dC, dI) vwCl (xw (xn ns) ad (xc ad ci (va_up st j u) ln sv kv cu)) t.heap) A) 0 0 A := by
  refine Met.ofW (cc := cX4_copyOf) (maxL := 3) (ret := none) (by decide) rfl ?_
  intro p e s m args below meth c s₁ B hml hv
  obtain ⟨eargs, hP, hK⟩ := hv
  have C0 : xC p s m args meth c cX4_copyOf 3 none RX4 wsX4_copyOf (dC, dI) (xT ci) := ⟨B.exec, B.bytes, hml, B.returns, B.notSynchronized, findClass_of_methodNamed B.named, atoms_spec (ws := wsX4_copyOf) B.pre, hK⟩
  obtain ⟨hx, hb, -, hr, hlocks, hown, hts, -⟩ := id C0
  have hS : va_S A s.heap s.heap [] := va_S.rf
  have hl := lv_entry ([.ref (ad (xaS j)), .ref (ad (xaS j2))]) (n := 3) (Nat.le_of_ble_eq_true rfl)
  have ef : entryFrame m args 3 = entryFrame m ([.ref (ad (xaS j)), .ref (ad (xaS j2))] : List Value).toArray 3 := by rw [eargs]
  rw [ef, lg_entry_eq]
  generalize (lg_sl ([.ref (ad (xaS j)), .ref (ad (xaS j2))]) ++ List.replicate (3 - (lg_sl ([.ref (ad (xaS j)), .ref (ad (xaS j2))])).length) Slot.unset).toArray = ls at hl ⊢
  have hl : lv_has ls 3 [(0, .ref (ad (xaS j))), (1, .ref (ad (xaS j2)))] := hl
  have hP : va_P (dC, dI) vwCl (xw (xn ns) ad (xc ad ci (va_up st j v) ln sv kv cu)) s.heap := hP
  unfold PX4_copyOf at h
  refine lv_aload_n hx hb dX4_copyOf_0 rfl (lv_at hl 0 rfl) ?_
  refine lv_aload_n hx hb dX4_copyOf_1 rfl (lv_at hl 1 rfl) ?_
  refine xr_get (D := (dC, dI)) (C := RX4) (T := TX4) (N := 8) (v := .long (s_tm o)) hx hb hts wX4_copyOf_c4 hown hK hP (xaS j2) (xq_S hj2) (xe_S (x_oth hne ho)) rfl 0 (by decide) wX4_copyOf_f19 rfl rfl dX4_copyOf_2 ?_
  obtain ⟨v_1, ev_1⟩ : ∃ z : StV, z = s_wtm v (s_tm o) := ⟨_, rfl⟩
  have h := h v_1 ev_1
  refine xr_put (D := (dC, dI)) (C := RX4) (T := TX4) (N := 8) (ty := .long) (v := .long (s_tm o)) (g := (xc ad ci (va_up st j v_1) ln sv kv cu)) hx hb hts wX4_copyOf_c4 tyX4 tyX4_ok nmX4 hown hK hP hAD hS (xaS j) (xq_S hj) (xe_S (va_up_self _ _ _)) rfl 0 (by decide) wX4_copyOf_f19 rfl rfl (by decide +kernel) rfl rfl (Nat.le_of_ble_eq_true rfl) dX4_copyOf_5 (xg_tm (va_up_self _ _ _) (by rw [ev_1]; exact bx_uu _ _ _ _)) (fun H locs hP hS => ?_)
  refine lv_aload_n hx hb dX4_copyOf_8 rfl (lv_at hl 0 rfl) ?_
  refine lv_aload_n hx hb dX4_copyOf_9 rfl (lv_at hl 1 rfl) ?_
  refine xr_get (D := (dC, dI)) (C := RX4) (T := TX4) (N := 8) (v := .long (s_pl o)) hx hb hts wX4_copyOf_c4 hown hK hP (xaS j2) (xq_S hj2) (xe_S (x_oth hne ho)) rfl 1 (by decide) wX4_copyOf_f23 rfl rfl dX4_copyOf_10 ?_
  obtain ⟨v_2, ev_2⟩ : ∃ z : StV, z = s_wpl v_1 (s_pl o) := ⟨_, rfl⟩
  have h := h v_2 ev_2
  refine xr_put (D := (dC, dI)) (C := RX4) (T := TX4) (N := 8) (ty := .long) (v := .long (s_pl o)) (g := (xc ad ci (va_up st j v_2) ln sv kv cu)) hx hb hts wX4_copyOf_c4 tyX4 tyX4_ok nmX4 hown hK hP hAD hS (xaS j) (xq_S hj) (xe_S (va_up_self _ _ _)) rfl 1 (by decide) wX4_copyOf_f23 rfl rfl (by decide +kernel) rfl rfl (Nat.le_of_ble_eq_true rfl) dX4_copyOf_13 (xg_pl (va_up_self _ _ _) (by rw [ev_2]; exact bx_uu _ _ _ _)) (fun H locs hP hS => ?_)
  refine lv_aload_n hx hb dX4_copyOf_16 rfl (lv_at hl 0 rfl) ?_
  refine lv_aload_n hx hb dX4_copyOf_17 rfl (lv_at hl 1 rfl) ?_
  refine xr_get (D := (dC, dI)) (C := RX4) (T := TX4) (N := 8) (v := .long (s_go o)) hx hb hts wX4_copyOf_c4 hown hK hP (xaS j2) (xq_S hj2) (xe_S (x_oth hne ho)) rfl 2 (by decide) wX4_copyOf_f26 rfl rfl dX4_copyOf_18 ?_
  obtain ⟨v_3, ev_3⟩ : ∃ z : StV, z = s_wgo v_2 (s_go o) := ⟨_, rfl⟩
  have h := h v_3 ev_3
  refine xr_put (D := (dC, dI)) (C := RX4) (T := TX4) (N := 8) (ty := .long) (v := .long (s_go o)) (g := (xc ad ci (va_up st j v_3) ln sv kv cu)) hx hb hts wX4_copyOf_c4 tyX4 tyX4_ok nmX4 hown hK hP hAD hS (xaS j) (xq_S hj) (xe_S (va_up_self _ _ _)) rfl 2 (by decide) wX4_copyOf_f26 rfl rfl (by decide +kernel) rfl rfl (Nat.le_of_ble_eq_true rfl) dX4_copyOf_21 (xg_go (va_up_self _ _ _) (by rw [ev_3]; exact bx_uu _ _ _ _)) (fun H locs hP hS => ?_)
  refine lv_aload_n hx hb dX4_copyOf_24 rfl (lv_at hl 0 rfl) ?_
  refine lv_aload_n hx hb dX4_copyOf_25 rfl (lv_at hl 1 rfl) ?_
  refine xr_get (D := (dC, dI)) (C := RX4) (T := TX4) (N := 8) (v := .long (s_mv o)) hx hb hts wX4_copyOf_c4 hown hK hP (xaS j2) (xq_S hj2) (xe_S (x_oth hne ho)) rfl 3 (by decide) wX4_copyOf_f29 rfl rfl dX4_copyOf_26 ?_
  obtain ⟨v_4, ev_4⟩ : ∃ z : StV, z = s_wmv v_3 (s_mv o) := ⟨_, rfl⟩
  have h := h v_4 ev_4
  refine xr_put (D := (dC, dI)) (C := RX4) (T := TX4) (N := 8) (ty := .long) (v := .long (s_mv o)) (g := (xc ad ci (va_up st j v_4) ln sv kv cu)) hx hb hts wX4_copyOf_c4 tyX4 tyX4_ok nmX4 hown hK hP hAD hS (xaS j) (xq_S hj) (xe_S (va_up_self _ _ _)) rfl 3 (by decide) wX4_copyOf_f29 rfl rfl (by decide +kernel) rfl rfl (Nat.le_of_ble_eq_true rfl) dX4_copyOf_29 (xg_mv (va_up_self _ _ _) (by rw [ev_4]; exact bx_uu _ _ _ _)) (fun H locs hP hS => ?_)
  refine lv_aload_n hx hb dX4_copyOf_32 rfl (lv_at hl 0 rfl) ?_
  refine lv_aload_n hx hb dX4_copyOf_33 rfl (lv_at hl 1 rfl) ?_
  refine xr_get (D := (dC, dI)) (C := RX4) (T := TX4) (N := 8) (v := .int (s_en o)) hx hb hts wX4_copyOf_c4 hown hK hP (xaS j2) (xq_S hj2) (xe_S (x_oth hne ho)) rfl 4 (by decide) wX4_copyOf_f32 rfl rfl dX4_copyOf_34 ?_
  obtain ⟨v_5, ev_5⟩ : ∃ z : StV, z = s_wen v_4 (s_en o) := ⟨_, rfl⟩
  have h := h v_5 ev_5
  refine xr_put (D := (dC, dI)) (C := RX4) (T := TX4) (N := 8) (ty := .int) (v := .int (s_en o)) (g := (xc ad ci (va_up st j v_5) ln sv kv cu)) hx hb hts wX4_copyOf_c4 tyX4 tyX4_ok nmX4 hown hK hP hAD hS (xaS j) (xq_S hj) (xe_S (va_up_self _ _ _)) rfl 4 (by decide) wX4_copyOf_f32 rfl rfl (by decide +kernel) rfl rfl (Nat.le_of_ble_eq_true rfl) dX4_copyOf_37 (xg_en (va_up_self _ _ _) (by rw [ev_5]; exact bx_uu _ _ _ _)) (fun H locs hP hS => ?_)
  refine lv_aload_n hx hb dX4_copyOf_40 rfl (lv_at hl 0 rfl) ?_
  refine lv_aload_n hx hb dX4_copyOf_41 rfl (lv_at hl 1 rfl) ?_
  refine xr_get (D := (dC, dI)) (C := RX4) (T := TX4) (N := 8) (v := .int (s_rs o)) hx hb hts wX4_copyOf_c4 hown hK hP (xaS j2) (xq_S hj2) (xe_S (x_oth hne ho)) rfl 5 (by decide) wX4_copyOf_f36 rfl rfl dX4_copyOf_42 ?_
  obtain ⟨v_6, ev_6⟩ : ∃ z : StV, z = s_wrs v_5 (s_rs o) := ⟨_, rfl⟩
  have h := h v_6 ev_6
  refine xr_put (D := (dC, dI)) (C := RX4) (T := TX4) (N := 8) (ty := .int) (v := .int (s_rs o)) (g := (xc ad ci (va_up st j v_6) ln sv kv cu)) hx hb hts wX4_copyOf_c4 tyX4 tyX4_ok nmX4 hown hK hP hAD hS (xaS j) (xq_S hj) (xe_S (va_up_self _ _ _)) rfl 5 (by decide) wX4_copyOf_f36 rfl rfl (by decide +kernel) rfl rfl (Nat.le_of_ble_eq_true rfl) dX4_copyOf_45 (xg_rs (va_up_self _ _ _) (by rw [ev_6]; exact bx_uu _ _ _ _)) (fun H locs hP hS => ?_)
  refine lv_iconst (v := (0 : Int32)) hx hb dX4_copyOf_48 (by decide) ?_
  refine lv_istore_n (lv' := [(2, .int (0 : Int32)), (0, .ref (ad (xaS j))), (1, .ref (ad (xaS j2)))]) hx hb dX4_copyOf_49 rfl hl (by decide) rfl (fun ls hl => ?_)
  obtain ⟨n_23, h⟩ := h
  refine kX4_copyOf_50 l dC dI ad ci A ns hAD st o ln sv kv cu j hj j2 hj2 hne ho  _ post C0 ?_ n_23 (0 : Int32) v_6 _ _ _ h hP hS (lv_sub hl [1, 2, 0] rfl)
  · intro v_14 H locs ls h hP hS hl
    refine lv_iconst (v := (0 : Int32)) hx hb dX4_copyOf_83 (by decide) ?_
    refine lv_istore_n (lv' := [(2, .int (0 : Int32)), (0, .ref (ad (xaS j))), (1, .ref (ad (xaS j2)))]) hx hb dX4_copyOf_84 rfl hl (by decide) rfl (fun ls hl => ?_)
    obtain ⟨n_22, h⟩ := h
    exact kX4_copyOf_85 l dC dI ad ci A ns hAD st o ln sv kv cu j hj j2 hj2 hne ho   post C0  n_22 (0 : Int32) v_14 _ _ _ h hP hS (lv_sub hl [1, 2, 0] rfl)
abbrev rmX4_isDue : Room := { frames := 0, cells := 0, slots := 0, locals := 0 }
theorem wX4_isDue_k45 : Cond.constantLong RX4 45 (-2000000005) ∈ wsX4_isDue := by decide +kernel
theorem wX4_isDue_c4 : ∀ w ∈ u_ws RX4 TX4 8, w ∈ wsX4_isDue := by decide +kernel
theorem wX4_isDue_f11 : Cond.fieldLink RX4 11 "DueWheels$State" "dues" "[[J" ∈ wsX4_isDue := by decide +kernel
theorem wX4_isDue_f32 : Cond.fieldLink RX4 32 "DueWheels$State" "end" "I" ∈ wsX4_isDue := by decide +kernel
def PX4_isDue  (v : StV) (x1 : Int32) (post : Int32 → Prop) : Prop :=
  ((x1 < 0 → post (0 : Int32)) ∧ (¬ x1 < 0 → (((s_en v) ≤ x1 → post (0 : Int32)) ∧ (¬ (s_en v) ≤ x1 → (vp_in x1 200 ∧ (((s_du v 0 (x1.toNatClampNeg)) = (-2000000005 : Int64) → post (0 : Int32)) ∧ (¬ (s_du v 0 (x1.toNatClampNeg)) = (-2000000005 : Int64) → post (1 : Int32))))))))
set_option maxHeartbeats 4000000 in
set_option maxRecDepth 100000 in
theorem qX4_isDue (l : Launch) (dC : Nat → ClassId) (dI : Nat → Nat → Nat) (ad : Nat → Nat) (ci : Nat → ClassId) (A : Nat → Prop) (ns : Nat) (hAD : xw_D (xn ns) ad A) (st : Nat → StV) (v : StV) (ln : Nat → LnV) (sv : SvV) (kv : KvV) (cu : Nat) (j : Nat) (hj : j < ns) (x1 : Int32) (post : Int32 → Prop) (h : PX4_isDue v x1 post) : Met l yX4_isDue wsX4_isDue rmX4_isDue (va_Pc [.ref (ad (xaS j)), .int x1] (fun U => va_P (dC, dI) vwCl (xw (xn ns) ad (xc ad ci (va_up st j v) ln sv kv cu)) U.heap ∧ va_K (dC, dI) vwCl (xT ci) U)) (va_Qi (fun r9 (u : Unit) => post r9 ) (fun u t => va_P (dC, dI) vwCl (xw (xn ns) ad (xc ad ci (va_up st j v) ln sv kv cu)) t.heap) A) 0 0 A := by
  refine Met.ofW (cc := cX4_isDue) (maxL := 2) (ret := (some .boolean)) (by decide) rfl ?_
  intro p e s m args below meth c s₁ B hml hv
  obtain ⟨eargs, hP, hK⟩ := hv
  have C0 : xC p s m args meth c cX4_isDue 2 (some .boolean) RX4 wsX4_isDue (dC, dI) (xT ci) := ⟨B.exec, B.bytes, hml, B.returns, B.notSynchronized, findClass_of_methodNamed B.named, atoms_spec (ws := wsX4_isDue) B.pre, hK⟩
  obtain ⟨hx, hb, -, hr, hlocks, hown, hts, -⟩ := id C0
  have hS : va_S A s.heap s.heap [] := va_S.rf
  have hl := lv_entry ([.ref (ad (xaS j)), .int x1]) (n := 2) (Nat.le_of_ble_eq_true rfl)
  have ef : entryFrame m args 2 = entryFrame m ([.ref (ad (xaS j)), .int x1] : List Value).toArray 2 := by rw [eargs]
  rw [ef, lg_entry_eq]
  generalize (lg_sl ([.ref (ad (xaS j)), .int x1]) ++ List.replicate (2 - (lg_sl ([.ref (ad (xaS j)), .int x1])).length) Slot.unset).toArray = ls at hl ⊢
  have hl : lv_has ls 2 [(0, .ref (ad (xaS j))), (1, .int x1)] := hl
  have hP : va_P (dC, dI) vwCl (xw (xn ns) ad (xc ad ci (va_up st j v) ln sv kv cu)) s.heap := hP
  unfold PX4_isDue at h
  refine lv_iload_n hx hb dX4_isDue_0 rfl (lv_at hl 1 rfl) ?_
  refine lv_if_lt (tgt := 31) hx hb dX4_isDue_1 (by decide) (fun c_1 => ?_) (fun c_1 => ?_)
  · have h := h.1 c_1
    refine lv_iconst (v := (0 : Int32)) hx hb dX4_isDue_31 (by decide) ?_
    exact W.zret (v := (0 : Int32)) (ty := .boolean) hx hb hr (by decide) (fun t ht hW => ⟨⟨(0 : Int32), (), rfl, h, x_ht ht hP⟩, hS.F ht⟩) hS.2.2 dX4_isDue_32
  · have h := h.2 c_1
    refine lv_iload_n hx hb dX4_isDue_4 rfl (lv_at hl 1 rfl) ?_
    refine lv_aload_n hx hb dX4_isDue_5 rfl (lv_at hl 0 rfl) ?_
    refine xr_get (D := (dC, dI)) (C := RX4) (T := TX4) (N := 8) (v := .int (s_en v)) hx hb hts wX4_isDue_c4 hown hK hP (xaS j) (xq_S hj) (xe_S (va_up_self _ _ _)) rfl 4 (by decide) wX4_isDue_f32 rfl rfl dX4_isDue_6 ?_
    refine lv_icmp_ge (tgt := 31) hx hb dX4_isDue_9 (by decide) (fun c_2 => ?_) (fun c_2 => ?_)
    · have h := h.1 c_2
      refine lv_iconst (v := (0 : Int32)) hx hb dX4_isDue_31 (by decide) ?_
      exact W.zret (v := (0 : Int32)) (ty := .boolean) hx hb hr (by decide) (fun t ht hW => ⟨⟨(0 : Int32), (), rfl, h, x_ht ht hP⟩, hS.F ht⟩) hS.2.2 dX4_isDue_32
    · have h := h.2 c_2
      refine lv_aload_n hx hb dX4_isDue_12 rfl (lv_at hl 0 rfl) ?_
      refine xr_get (D := (dC, dI)) (C := RX4) (T := TX4) (N := 8) (v := .ref (ad (xaD0 j))) hx hb hts wX4_isDue_c4 hown hK hP (xaS j) (xq_S hj) (xe_S (va_up_self _ _ _)) rfl 6 (by decide) wX4_isDue_f11 rfl rfl dX4_isDue_13 ?_
      refine lv_iconst (v := (0 : Int32)) hx hb dX4_isDue_16 (by decide) ?_
      refine xr_aald (k := 0) (b := ad (xaD j 0)) hx hb hK hP (xaD0 j) 4 (xq_D0 hj) xe_D0 rfl rfl rfl (x_in _ _ (by decide)) rfl dX4_isDue_17 ?_
      refine lv_iload_n hx hb dX4_isDue_18 rfl (lv_at hl 1 rfl) ?_
      obtain ⟨g_3, h⟩ := h
      refine xr_lald (k := x1.toNatClampNeg) hx hb hK hP (xaD j 0) 1 (xq_D hj (by decide)) (xe_D (by decide) (va_up_self _ _ _)) rfl rfl g_3 dX4_isDue_19 ?_
      refine lv_ldc2 (v := (-2000000005 : Int64)) hx hb hown (hts _ wX4_isDue_k45) dX4_isDue_20 ?_
      refine xr_if_lcmp_eq (tgt := 31) hx hb dX4_isDue_23 dX4_isDue_24 (by decide) (fun c_4 => ?_) (fun c_4 => ?_)
      · have h := h.1 c_4
        refine lv_iconst (v := (0 : Int32)) hx hb dX4_isDue_31 (by decide) ?_
        exact W.zret (v := (0 : Int32)) (ty := .boolean) hx hb hr (by decide) (fun t ht hW => ⟨⟨(0 : Int32), (), rfl, h, x_ht ht hP⟩, hS.F ht⟩) hS.2.2 dX4_isDue_32
      · have h := h.2 c_4
        refine lv_iconst (v := (1 : Int32)) hx hb dX4_isDue_27 (by decide) ?_
        refine lv_goto (tgt := 32) hx hb dX4_isDue_28 (by decide) ?_
        exact W.zret (v := (1 : Int32)) (ty := .boolean) hx hb hr (by decide) (fun t ht hW => ⟨⟨(1 : Int32), (), rfl, h, x_ht ht hP⟩, hS.F ht⟩) hS.2.2 dX4_isDue_32
abbrev rmX4_leastFree : Room := { frames := 0, cells := 0, slots := 0, locals := 0 }
theorem wX4_leastFree_c4 : ∀ w ∈ u_ws RX4 TX4 8, w ∈ wsX4_leastFree := by decide +kernel
theorem wX4_leastFree_f32 : Cond.fieldLink RX4 32 "DueWheels$State" "end" "I" ∈ wsX4_leastFree := by decide +kernel
theorem wX4_leastFree_k45 : Cond.constantLong RX4 45 (-2000000005) ∈ wsX4_leastFree := by decide +kernel
theorem wX4_leastFree_f11 : Cond.fieldLink RX4 11 "DueWheels$State" "dues" "[[J" ∈ wsX4_leastFree := by decide +kernel
def LX4_leastFree_2  (v : StV)   (post : Int32 → Prop) : Nat → Int32 → Prop
  | 0, _ => False
  | n + 1, x1 => (((s_en v) ≤ x1 → post (s_en v)) ∧ (¬ (s_en v) ≤ x1 → (vp_in x1 200 ∧ (((s_du v 0 (x1.toNatClampNeg)) = (-2000000005 : Int64) → post x1) ∧ (¬ (s_du v 0 (x1.toNatClampNeg)) = (-2000000005 : Int64) → ∀ x1_4 : Int32, x1_4 = x1 + 1 → LX4_leastFree_2  v post n x1_4)))))
set_option maxHeartbeats 4000000 in
set_option maxRecDepth 100000 in
theorem kX4_leastFree_2 {p : Program} {e : Env} {s : State} {m : MethodId} {args : Array Value} {below : List Frame} {meth : Method} {c : Code} (l : Launch) (dC : Nat → ClassId) (dI : Nat → Nat → Nat) (ad : Nat → Nat) (ci : Nat → ClassId) (A : Nat → Prop) (ns : Nat) (hAD : xw_D (xn ns) ad A) (st : Nat → StV) (v : StV) (ln : Nat → LnV) (sv : SvV) (kv : KvV) (cu : Nat) (j : Nat) (hj : j < ns)   (post : Int32 → Prop) (C0 : xC p s m args meth c cX4_leastFree 2 (some .int) RX4 wsX4_leastFree (dC, dI) (xT ci)) : ∀ (n : Nat) (x1 : Int32) (H : Heap) (locs : List Loc) (ls : Array Slot), LX4_leastFree_2  v post n x1 → va_P (dC, dI) vwCl (xw (xn ns) ad (xc ad ci (va_up st j v) ln sv kv cu)) H → va_S A s.heap H locs → lv_has ls 2 [(0, .ref (ad (xaS j))), (1, .int x1)] → W p l e rmX4_leastFree s m args below meth c H locs 0 0 (MQ below (va_Qi (fun r9 (u : Unit) => post r9 ) (fun u t => va_P (dC, dI) vwCl (xw (xn ns) ad (xc ad ci (va_up st j v) ln sv kv cu)) t.heap) A) args s 0 0 A) (F0 m 2 ls []) := by
  obtain ⟨hx, hb, -, hr, hlocks, hown, hts, hK⟩ := id C0
  intro n
  induction n with
  | zero =>
    intro x1 H locs ls h
    exact False.elim h
  | succ n ih =>
    intro x1 H locs ls h hP hS hl
    rw [LX4_leastFree_2] at h
    refine lv_iload_n hx hb dX4_leastFree_2 rfl (lv_at hl 1 rfl) ?_
    refine lv_aload_n hx hb dX4_leastFree_3 rfl (lv_at hl 0 rfl) ?_
    refine xr_get (D := (dC, dI)) (C := RX4) (T := TX4) (N := 8) (v := .int (s_en v)) hx hb hts wX4_leastFree_c4 hown hK hP (xaS j) (xq_S hj) (xe_S (va_up_self _ _ _)) rfl 4 (by decide) wX4_leastFree_f32 rfl rfl dX4_leastFree_4 ?_
    refine lv_icmp_ge (tgt := 33) hx hb dX4_leastFree_7 (by decide) (fun c_1 => ?_) (fun c_1 => ?_)
    · have h := h.1 c_1
      refine lv_aload_n hx hb dX4_leastFree_33 rfl (lv_at hl 0 rfl) ?_
      refine xr_get (D := (dC, dI)) (C := RX4) (T := TX4) (N := 8) (v := .int (s_en v)) hx hb hts wX4_leastFree_c4 hown hK hP (xaS j) (xq_S hj) (xe_S (va_up_self _ _ _)) rfl 4 (by decide) wX4_leastFree_f32 rfl rfl dX4_leastFree_34 ?_
      exact W.iret (v := (s_en v)) hx hb hr (fun t ht hW => ⟨⟨(s_en v), (), rfl, h, x_ht ht hP⟩, hS.F ht⟩) hS.2.2 dX4_leastFree_37
    · have h := h.2 c_1
      refine lv_aload_n hx hb dX4_leastFree_10 rfl (lv_at hl 0 rfl) ?_
      refine xr_get (D := (dC, dI)) (C := RX4) (T := TX4) (N := 8) (v := .ref (ad (xaD0 j))) hx hb hts wX4_leastFree_c4 hown hK hP (xaS j) (xq_S hj) (xe_S (va_up_self _ _ _)) rfl 6 (by decide) wX4_leastFree_f11 rfl rfl dX4_leastFree_11 ?_
      refine lv_iconst (v := (0 : Int32)) hx hb dX4_leastFree_14 (by decide) ?_
      refine xr_aald (k := 0) (b := ad (xaD j 0)) hx hb hK hP (xaD0 j) 4 (xq_D0 hj) xe_D0 rfl rfl rfl (x_in _ _ (by decide)) rfl dX4_leastFree_15 ?_
      refine lv_iload_n hx hb dX4_leastFree_16 rfl (lv_at hl 1 rfl) ?_
      obtain ⟨g_2, h⟩ := h
      refine xr_lald (k := x1.toNatClampNeg) hx hb hK hP (xaD j 0) 1 (xq_D hj (by decide)) (xe_D (by decide) (va_up_self _ _ _)) rfl rfl g_2 dX4_leastFree_17 ?_
      refine lv_ldc2 (v := (-2000000005 : Int64)) hx hb hown (hts _ wX4_leastFree_k45) dX4_leastFree_18 ?_
      refine xr_if_lcmp_ne (tgt := 27) hx hb dX4_leastFree_21 dX4_leastFree_22 (by decide) (fun c_3 => ?_) (fun c_3 => ?_)
      · have h := h.2 c_3
        obtain ⟨x1_4, ex1_4⟩ : ∃ z : Int32, z = x1 + 1 := ⟨_, rfl⟩
        have h := h x1_4 ex1_4
        refine lv_iinc (v := x1_4) (lv' := [(1, .int x1_4), (0, .ref (ad (xaS j)))]) hx hb dX4_leastFree_27 hl (k := 1) rfl (by rw [ex1_4]; rfl) (by decide) rfl (fun ls hl => ?_)
        refine lv_goto (tgt := 2) hx hb dX4_leastFree_30 (by decide) ?_
        exact ih x1_4 _ _ _ h hP hS (lv_sub hl [1, 0] rfl)
      · have h := h.1 c_3
        refine lv_iload_n hx hb dX4_leastFree_25 rfl (lv_at hl 1 rfl) ?_
        exact W.iret (v := x1) hx hb hr (fun t ht hW => ⟨⟨x1, (), rfl, h, x_ht ht hP⟩, hS.F ht⟩) hS.2.2 dX4_leastFree_26
def PX4_leastFree  (v : StV)  (post : Int32 → Prop) : Prop :=
  (∃ n_5 : Nat, LX4_leastFree_2  v  post n_5 (0 : Int32))
set_option maxHeartbeats 4000000 in
set_option maxRecDepth 100000 in
theorem qX4_leastFree (l : Launch) (dC : Nat → ClassId) (dI : Nat → Nat → Nat) (ad : Nat → Nat) (ci : Nat → ClassId) (A : Nat → Prop) (ns : Nat) (hAD : xw_D (xn ns) ad A) (st : Nat → StV) (v : StV) (ln : Nat → LnV) (sv : SvV) (kv : KvV) (cu : Nat) (j : Nat) (hj : j < ns)  (post : Int32 → Prop) (h : PX4_leastFree v post) : Met l yX4_leastFree wsX4_leastFree rmX4_leastFree (va_Pc [.ref (ad (xaS j))] (fun U => va_P (dC, dI) vwCl (xw (xn ns) ad (xc ad ci (va_up st j v) ln sv kv cu)) U.heap ∧ va_K (dC, dI) vwCl (xT ci) U)) (va_Qi (fun r9 (u : Unit) => post r9 ) (fun u t => va_P (dC, dI) vwCl (xw (xn ns) ad (xc ad ci (va_up st j v) ln sv kv cu)) t.heap) A) 0 0 A := by
  refine Met.ofW (cc := cX4_leastFree) (maxL := 2) (ret := (some .int)) (by decide) rfl ?_
  intro p e s m args below meth c s₁ B hml hv
  obtain ⟨eargs, hP, hK⟩ := hv
  have C0 : xC p s m args meth c cX4_leastFree 2 (some .int) RX4 wsX4_leastFree (dC, dI) (xT ci) := ⟨B.exec, B.bytes, hml, B.returns, B.notSynchronized, findClass_of_methodNamed B.named, atoms_spec (ws := wsX4_leastFree) B.pre, hK⟩
  obtain ⟨hx, hb, -, hr, hlocks, hown, hts, -⟩ := id C0
  have hS : va_S A s.heap s.heap [] := va_S.rf
  have hl := lv_entry ([.ref (ad (xaS j))]) (n := 2) (Nat.le_of_ble_eq_true rfl)
  have ef : entryFrame m args 2 = entryFrame m ([.ref (ad (xaS j))] : List Value).toArray 2 := by rw [eargs]
  rw [ef, lg_entry_eq]
  generalize (lg_sl ([.ref (ad (xaS j))]) ++ List.replicate (2 - (lg_sl ([.ref (ad (xaS j))])).length) Slot.unset).toArray = ls at hl ⊢
  have hl : lv_has ls 2 [(0, .ref (ad (xaS j)))] := hl
  have hP : va_P (dC, dI) vwCl (xw (xn ns) ad (xc ad ci (va_up st j v) ln sv kv cu)) s.heap := hP
  unfold PX4_leastFree at h
  refine lv_iconst (v := (0 : Int32)) hx hb dX4_leastFree_0 (by decide) ?_
  refine lv_istore_n (lv' := [(1, .int (0 : Int32)), (0, .ref (ad (xaS j)))]) hx hb dX4_leastFree_1 rfl hl (by decide) rfl (fun ls hl => ?_)
  obtain ⟨n_5, h⟩ := h
  exact kX4_leastFree_2 l dC dI ad ci A ns hAD st v ln sv kv cu j hj    post C0  n_5 (0 : Int32) _ _ _ h hP hS (lv_sub hl [1, 0] rfl)
abbrev rmX4_isFull : Room := { frames := 1, cells := 0, slots := 0, locals := 21 }
def PX4_isFull  (v : StV)  (post : Int32 → Prop) : Prop :=
  (PX4_leastFree v (fun (r_1 : Int32) => ((r_1 < (200 : Int32) → post (0 : Int32)) ∧ (¬ r_1 < (200 : Int32) → post (1 : Int32)))))
set_option maxHeartbeats 4000000 in
set_option maxRecDepth 100000 in
theorem qX4_isFull (l : Launch) (dC : Nat → ClassId) (dI : Nat → Nat → Nat) (ad : Nat → Nat) (ci : Nat → ClassId) (A : Nat → Prop) (ns : Nat) (hAD : xw_D (xn ns) ad A) (st : Nat → StV) (v : StV) (ln : Nat → LnV) (sv : SvV) (kv : KvV) (cu : Nat) (j : Nat) (hj : j < ns)  (post : Int32 → Prop) (h : PX4_isFull v post) : Met l yX4_isFull wsX4_isFull rmX4_isFull (va_Pc [.ref (ad (xaS j))] (fun U => va_P (dC, dI) vwCl (xw (xn ns) ad (xc ad ci (va_up st j v) ln sv kv cu)) U.heap ∧ va_K (dC, dI) vwCl (xT ci) U)) (va_Qi (fun r9 (u : Unit) => post r9 ) (fun u t => va_P (dC, dI) vwCl (xw (xn ns) ad (xc ad ci (va_up st j v) ln sv kv cu)) t.heap) A) 0 0 A := by
  refine Met.ofW (cc := cX4_isFull) (maxL := 1) (ret := (some .boolean)) (by decide) rfl ?_
  intro p e s m args below meth c s₁ B hml hv
  obtain ⟨eargs, hP, hK⟩ := hv
  have C0 : xC p s m args meth c cX4_isFull 1 (some .boolean) RX4 wsX4_isFull (dC, dI) (xT ci) := ⟨B.exec, B.bytes, hml, B.returns, B.notSynchronized, findClass_of_methodNamed B.named, atoms_spec (ws := wsX4_isFull) B.pre, hK⟩
  obtain ⟨hx, hb, -, hr, hlocks, hown, hts, -⟩ := id C0
  have hS : va_S A s.heap s.heap [] := va_S.rf
  have hl := lv_entry ([.ref (ad (xaS j))]) (n := 1) (Nat.le_of_ble_eq_true rfl)
  have ef : entryFrame m args 1 = entryFrame m ([.ref (ad (xaS j))] : List Value).toArray 1 := by rw [eargs]
  rw [ef, lg_entry_eq]
  generalize (lg_sl ([.ref (ad (xaS j))]) ++ List.replicate (1 - (lg_sl ([.ref (ad (xaS j))])).length) Slot.unset).toArray = ls at hl ⊢
  have hl : lv_has ls 1 [(0, .ref (ad (xaS j)))] := hl
  have hP : va_P (dC, dI) vwCl (xw (xn ns) ad (xc ad ci (va_up st j v) ln sv kv cu)) s.heap := hP
  unfold PX4_isFull at h
  refine lv_aload_n hx hb dX4_isFull_0 rfl (lv_at hl 0 rfl) ?_
  refine va_calli (va_runV (As := []) (rest := []) ⟨hx, hb, C0.2.2.1, hown, hts⟩ (qX4_leastFree l dC dI ad ci A ns hAD st v ln sv kv cu j hj  _ h) (cwV 0 hts gX4_isFull_X4_leastFree rfl rfl rfl (by decide +kernel) ⟨Nat.le_of_ble_eq_true rfl, Nat.le_of_ble_eq_true rfl⟩) ⟨xr_blind, xr_recv (r := (RX4, TX4, 8)) hK hP (xaS j) (xq_S hj) (xe_S (va_up_self _ _ _)) rfl, xr_pre hP hK⟩ rfl rfl hl.1 rfl (lv_room (Nat.le_of_ble_eq_true rfl)) dX4_isFull_1 ⟨Nat.le_of_ble_eq_true rfl, Nat.le_of_ble_eq_true rfl⟩) hS (fun _ _ h => h) (fun _ h => h) (fun r_1 _ t9 H locs ht hvm h hB _ _ hS => ?_)
  refine W.cs (cells' := 0) (slots' := 0) rfl rfl ?_
  have hP := x_th ht hB
  have hP : va_P (dC, dI) vwCl (xw (xn ns) ad (xc ad ci (va_up st j v) ln sv kv cu)) H := hP
  refine lv_sipush (v := (200 : Int32)) hx hb dX4_isFull_4 (by decide) ?_
  refine lv_icmp_lt (tgt := 14) hx hb dX4_isFull_7 (by decide) (fun c_2 => ?_) (fun c_2 => ?_)
  · have h := h.1 c_2
    refine lv_iconst (v := (0 : Int32)) hx hb dX4_isFull_14 (by decide) ?_
    exact W.zret (v := (0 : Int32)) (ty := .boolean) hx hb hr (by decide) (fun t ht hW => ⟨⟨(0 : Int32), (), rfl, h, x_ht ht hP⟩, hS.F ht⟩) hS.2.2 dX4_isFull_15
  · have h := h.2 c_2
    refine lv_iconst (v := (1 : Int32)) hx hb dX4_isFull_10 (by decide) ?_
    refine lv_goto (tgt := 15) hx hb dX4_isFull_11 (by decide) ?_
    exact W.zret (v := (1 : Int32)) (ty := .boolean) hx hb hr (by decide) (fun t ht hW => ⟨⟨(1 : Int32), (), rfl, h, x_ht ht hP⟩, hS.F ht⟩) hS.2.2 dX4_isFull_15
abbrev rmX4_setPlace : Room := { frames := 0, cells := 0, slots := 0, locals := 0 }
theorem wX4_setPlace_c4 : ∀ w ∈ u_ws RX4 TX4 8, w ∈ wsX4_setPlace := by decide +kernel
theorem wX4_setPlace_f23 : Cond.fieldLink RX4 23 "DueWheels$State" "places" "J" ∈ wsX4_setPlace := by decide +kernel
theorem wX4_setPlace_f11 : Cond.fieldLink RX4 11 "DueWheels$State" "dues" "[[J" ∈ wsX4_setPlace := by decide +kernel
def PX4_setPlace  (v : StV) (x1 : Int32) (post : StV → Prop) : Prop :=
  (vp_in x1 200 ∧ (∀ v_2 : StV, v_2 = s_wdu v 8 (x1.toNatClampNeg) (s_pl v) → ∀ v_3 : StV, v_3 = s_wpl v_2 ((s_pl v_2) + (1 : Int64)) → post v_3))
set_option maxHeartbeats 4000000 in
set_option maxRecDepth 100000 in
theorem qX4_setPlace (l : Launch) (dC : Nat → ClassId) (dI : Nat → Nat → Nat) (ad : Nat → Nat) (ci : Nat → ClassId) (A : Nat → Prop) (ns : Nat) (hAD : xw_D (xn ns) ad A) (st : Nat → StV) (v : StV) (ln : Nat → LnV) (sv : SvV) (kv : KvV) (cu : Nat) (j : Nat) (hj : j < ns) (x1 : Int32) (post : StV → Prop) (h : PX4_setPlace v x1 post) : Met l yX4_setPlace wsX4_setPlace rmX4_setPlace (va_Pc [.ref (ad (xaS j)), .int x1] (fun U => va_P (dC, dI) vwCl (xw (xn ns) ad (xc ad ci (va_up st j v) ln sv kv cu)) U.heap ∧ va_K (dC, dI) vwCl (xT ci) U)) (va_Qv (fun u : StV => post u) (fun u t => va_P (dC, dI) vwCl (xw (xn ns) ad (xc ad ci (va_up st j u) ln sv kv cu)) t.heap) A) 0 0 A := by
  refine Met.ofW (cc := cX4_setPlace) (maxL := 2) (ret := none) (by decide) rfl ?_
  intro p e s m args below meth c s₁ B hml hv
  obtain ⟨eargs, hP, hK⟩ := hv
  have C0 : xC p s m args meth c cX4_setPlace 2 none RX4 wsX4_setPlace (dC, dI) (xT ci) := ⟨B.exec, B.bytes, hml, B.returns, B.notSynchronized, findClass_of_methodNamed B.named, atoms_spec (ws := wsX4_setPlace) B.pre, hK⟩
  obtain ⟨hx, hb, -, hr, hlocks, hown, hts, -⟩ := id C0
  have hS : va_S A s.heap s.heap [] := va_S.rf
  have hl := lv_entry ([.ref (ad (xaS j)), .int x1]) (n := 2) (Nat.le_of_ble_eq_true rfl)
  have ef : entryFrame m args 2 = entryFrame m ([.ref (ad (xaS j)), .int x1] : List Value).toArray 2 := by rw [eargs]
  rw [ef, lg_entry_eq]
  generalize (lg_sl ([.ref (ad (xaS j)), .int x1]) ++ List.replicate (2 - (lg_sl ([.ref (ad (xaS j)), .int x1])).length) Slot.unset).toArray = ls at hl ⊢
  have hl : lv_has ls 2 [(0, .ref (ad (xaS j))), (1, .int x1)] := hl
  have hP : va_P (dC, dI) vwCl (xw (xn ns) ad (xc ad ci (va_up st j v) ln sv kv cu)) s.heap := hP
  unfold PX4_setPlace at h
  refine lv_aload_n hx hb dX4_setPlace_0 rfl (lv_at hl 0 rfl) ?_
  refine xr_get (D := (dC, dI)) (C := RX4) (T := TX4) (N := 8) (v := .ref (ad (xaD0 j))) hx hb hts wX4_setPlace_c4 hown hK hP (xaS j) (xq_S hj) (xe_S (va_up_self _ _ _)) rfl 6 (by decide) wX4_setPlace_f11 rfl rfl dX4_setPlace_1 ?_
  refine lv_bipush (v := (8 : Int32)) hx hb dX4_setPlace_4 (by decide) ?_
  refine xr_aald (k := 8) (b := ad (xaD j 8)) hx hb hK hP (xaD0 j) 4 (xq_D0 hj) xe_D0 rfl rfl rfl (x_in _ _ (by decide)) rfl dX4_setPlace_6 ?_
  refine lv_iload_n hx hb dX4_setPlace_7 rfl (lv_at hl 1 rfl) ?_
  refine lv_aload_n hx hb dX4_setPlace_8 rfl (lv_at hl 0 rfl) ?_
  refine xr_get (D := (dC, dI)) (C := RX4) (T := TX4) (N := 8) (v := .long (s_pl v)) hx hb hts wX4_setPlace_c4 hown hK hP (xaS j) (xq_S hj) (xe_S (va_up_self _ _ _)) rfl 1 (by decide) wX4_setPlace_f23 rfl rfl dX4_setPlace_9 ?_
  obtain ⟨g_1, h⟩ := h
  obtain ⟨v_2, ev_2⟩ : ∃ z : StV, z = s_wdu v 8 (x1.toNatClampNeg) (s_pl v) := ⟨_, rfl⟩
  have h := h v_2 ev_2
  refine xr_last (k := x1.toNatClampNeg) (x := (s_pl v)) (g := (xc ad ci (va_up st j v_2) ln sv kv cu)) hx hb hK hP hAD hS (xaD j 8) 1 (xq_D hj (by decide)) (xe_D (by decide) (va_up_self _ _ _)) rfl rfl g_1 dX4_setPlace_12 (xg_du (by decide) (va_up_self _ _ _) (by rw [ev_2]; exact bx_uu _ _ _ _)) (fun H locs hP hS => ?_)
  refine lv_aload_n hx hb dX4_setPlace_13 rfl (lv_at hl 0 rfl) ?_
  refine lv_dup hx hb dX4_setPlace_14 rfl ?_
  refine xr_get (D := (dC, dI)) (C := RX4) (T := TX4) (N := 8) (v := .long (s_pl v_2)) hx hb hts wX4_setPlace_c4 hown hK hP (xaS j) (xq_S hj) (xe_S (va_up_self _ _ _)) rfl 1 (by decide) wX4_setPlace_f23 rfl rfl dX4_setPlace_15 ?_
  refine lv_lconst (v := (1 : Int64)) hx hb dX4_setPlace_18 (by decide) ?_
  refine lv_ladd hx hb dX4_setPlace_19 ?_
  obtain ⟨v_3, ev_3⟩ : ∃ z : StV, z = s_wpl v_2 ((s_pl v_2) + (1 : Int64)) := ⟨_, rfl⟩
  have h := h v_3 ev_3
  refine xr_put (D := (dC, dI)) (C := RX4) (T := TX4) (N := 8) (ty := .long) (v := .long ((s_pl v_2) + (1 : Int64))) (g := (xc ad ci (va_up st j v_3) ln sv kv cu)) hx hb hts wX4_setPlace_c4 tyX4 tyX4_ok nmX4 hown hK hP hAD hS (xaS j) (xq_S hj) (xe_S (va_up_self _ _ _)) rfl 1 (by decide) wX4_setPlace_f23 rfl rfl (by decide +kernel) rfl rfl (Nat.le_of_ble_eq_true rfl) dX4_setPlace_20 (xg_pl (va_up_self _ _ _) (by rw [ev_3]; exact bx_uu _ _ _ _)) (fun H locs hP hS => ?_)
  exact W.vret hx hb hr (fun t ht hW => ⟨⟨v_3, rfl, h, x_ht ht hP⟩, hS.F ht⟩) hS.2.2 dX4_setPlace_23
abbrev rmX4_open : Room := { frames := 1, cells := 0, slots := 0, locals := 22 }
theorem wX4_open_c4 : ∀ w ∈ u_ws RX4 TX4 8, w ∈ wsX4_open := by decide +kernel
theorem wX4_open_f11 : Cond.fieldLink RX4 11 "DueWheels$State" "dues" "[[J" ∈ wsX4_open := by decide +kernel
theorem wX4_open_f32 : Cond.fieldLink RX4 32 "DueWheels$State" "end" "I" ∈ wsX4_open := by decide +kernel
def PX4_open  (v : StV) (x1 : Int32) (x2 : Int32) (post : Int32 → StV → Prop) : Prop :=
  (PX4_leastFree v (fun (r_1 : Int32) => ((r_1 = (s_en v) → ∀ v_9 : StV, v_9 = s_wen v ((s_en v) + (1 : Int32)) → (PX4_clear v_9 r_1 (fun (v_10 : StV) => (vp_in r_1 200 ∧ (∀ v_12 : StV, v_12 = s_wdu v_10 0 (r_1.toNatClampNeg) (x1.toInt64) → (vp_in r_1 200 ∧ (∀ v_14 : StV, v_14 = s_wdu v_12 1 (r_1.toNatClampNeg) (x2.toInt64) → (PX4_setPlace v_14 r_1 (fun (v_15 : StV) => post r_1 v_15))))))))) ∧ (¬ r_1 = (s_en v) → (PX4_clear v r_1 (fun (v_3 : StV) => (vp_in r_1 200 ∧ (∀ v_5 : StV, v_5 = s_wdu v_3 0 (r_1.toNatClampNeg) (x1.toInt64) → (vp_in r_1 200 ∧ (∀ v_7 : StV, v_7 = s_wdu v_5 1 (r_1.toNatClampNeg) (x2.toInt64) → (PX4_setPlace v_7 r_1 (fun (v_8 : StV) => post r_1 v_8))))))))))))
set_option maxHeartbeats 4000000 in
set_option maxRecDepth 100000 in
theorem qX4_open (l : Launch) (dC : Nat → ClassId) (dI : Nat → Nat → Nat) (ad : Nat → Nat) (ci : Nat → ClassId) (A : Nat → Prop) (ns : Nat) (hAD : xw_D (xn ns) ad A) (st : Nat → StV) (v : StV) (ln : Nat → LnV) (sv : SvV) (kv : KvV) (cu : Nat) (j : Nat) (hj : j < ns) (x1 : Int32) (x2 : Int32) (post : Int32 → StV → Prop) (h : PX4_open v x1 x2 post) : Met l yX4_open wsX4_open rmX4_open (va_Pc [.ref (ad (xaS j)), .int x1, .int x2] (fun U => va_P (dC, dI) vwCl (xw (xn ns) ad (xc ad ci (va_up st j v) ln sv kv cu)) U.heap ∧ va_K (dC, dI) vwCl (xT ci) U)) (va_Qi (fun r9 (u : StV) => post r9 u) (fun u t => va_P (dC, dI) vwCl (xw (xn ns) ad (xc ad ci (va_up st j u) ln sv kv cu)) t.heap) A) 0 0 A := by
  refine Met.ofW (cc := cX4_open) (maxL := 4) (ret := (some .int)) (by decide) rfl ?_
  intro p e s m args below meth c s₁ B hml hv
  obtain ⟨eargs, hP, hK⟩ := hv
  have C0 : xC p s m args meth c cX4_open 4 (some .int) RX4 wsX4_open (dC, dI) (xT ci) := ⟨B.exec, B.bytes, hml, B.returns, B.notSynchronized, findClass_of_methodNamed B.named, atoms_spec (ws := wsX4_open) B.pre, hK⟩
  obtain ⟨hx, hb, -, hr, hlocks, hown, hts, -⟩ := id C0
  have hS : va_S A s.heap s.heap [] := va_S.rf
  have hl := lv_entry ([.ref (ad (xaS j)), .int x1, .int x2]) (n := 4) (Nat.le_of_ble_eq_true rfl)
  have ef : entryFrame m args 4 = entryFrame m ([.ref (ad (xaS j)), .int x1, .int x2] : List Value).toArray 4 := by rw [eargs]
  rw [ef, lg_entry_eq]
  generalize (lg_sl ([.ref (ad (xaS j)), .int x1, .int x2]) ++ List.replicate (4 - (lg_sl ([.ref (ad (xaS j)), .int x1, .int x2])).length) Slot.unset).toArray = ls at hl ⊢
  have hl : lv_has ls 4 [(0, .ref (ad (xaS j))), (1, .int x1), (2, .int x2)] := hl
  have hP : va_P (dC, dI) vwCl (xw (xn ns) ad (xc ad ci (va_up st j v) ln sv kv cu)) s.heap := hP
  unfold PX4_open at h
  refine lv_aload_n hx hb dX4_open_0 rfl (lv_at hl 0 rfl) ?_
  refine va_calli (va_runV (As := []) (rest := []) ⟨hx, hb, C0.2.2.1, hown, hts⟩ (qX4_leastFree l dC dI ad ci A ns hAD st v ln sv kv cu j hj  _ h) (cwV 0 hts gX4_open_X4_leastFree rfl rfl rfl (by decide +kernel) ⟨Nat.le_of_ble_eq_true rfl, Nat.le_of_ble_eq_true rfl⟩) ⟨xr_blind, xr_recv (r := (RX4, TX4, 8)) hK hP (xaS j) (xq_S hj) (xe_S (va_up_self _ _ _)) rfl, xr_pre hP hK⟩ rfl rfl hl.1 rfl (lv_room (Nat.le_of_ble_eq_true rfl)) dX4_open_1 ⟨Nat.le_of_ble_eq_true rfl, Nat.le_of_ble_eq_true rfl⟩) hS (fun _ _ h => h) (fun _ h => h) (fun r_1 _ t9 H locs ht hvm h hB _ _ hS => ?_)
  refine W.cs (cells' := 0) (slots' := 0) rfl rfl ?_
  have hP := x_th ht hB
  have hP : va_P (dC, dI) vwCl (xw (xn ns) ad (xc ad ci (va_up st j v) ln sv kv cu)) H := hP
  refine lv_istore_n (lv' := [(3, .int r_1), (0, .ref (ad (xaS j))), (1, .int x1), (2, .int x2)]) hx hb dX4_open_4 rfl hl (by decide) rfl (fun ls hl => ?_)
  refine lv_iload_n hx hb dX4_open_5 rfl (lv_at hl 0 rfl) ?_
  refine lv_aload_n hx hb dX4_open_6 rfl (lv_at hl 1 rfl) ?_
  refine xr_get (D := (dC, dI)) (C := RX4) (T := TX4) (N := 8) (v := .int (s_en v)) hx hb hts wX4_open_c4 hown hK hP (xaS j) (xq_S hj) (xe_S (va_up_self _ _ _)) rfl 4 (by decide) wX4_open_f32 rfl rfl dX4_open_7 ?_
  refine lv_icmp_ne (tgt := 23) hx hb dX4_open_10 (by decide) (fun c_2 => ?_) (fun c_2 => ?_)
  · have h := h.2 c_2
    refine lv_aload_n hx hb dX4_open_23 rfl (lv_at hl 1 rfl) ?_
    refine lv_iload_n hx hb dX4_open_24 rfl (lv_at hl 0 rfl) ?_
    refine va_callv (va_runV (As := [.int r_1]) (rest := []) ⟨hx, hb, C0.2.2.1, hown, hts⟩ (qX4_clear l dC dI ad ci A ns hAD st v ln sv kv cu j hj r_1 _ h) (cwV 1 hts gX4_open_X4_clear rfl rfl rfl (by decide +kernel) ⟨Nat.le_of_ble_eq_true rfl, Nat.le_of_ble_eq_true rfl⟩) ⟨xr_blind, xr_recv (r := (RX4, TX4, 8)) hK hP (xaS j) (xq_S hj) (xe_S (va_up_self _ _ _)) rfl, xr_pre hP hK⟩ rfl rfl hl.1 rfl (lv_room (Nat.le_of_ble_eq_true rfl)) dX4_open_25 ⟨Nat.le_of_ble_eq_true rfl, Nat.le_of_ble_eq_true rfl⟩) hS (fun _ _ h => h) (fun _ h => h) (fun v_3 t9 H locs ht hvm h hB _ _ hS => ?_)
    refine W.cs (cells' := 0) (slots' := 0) rfl rfl ?_
    have hP := x_th ht hB
    have hP : va_P (dC, dI) vwCl (xw (xn ns) ad (xc ad ci (va_up st j v_3) ln sv kv cu)) H := hP
    refine lv_aload_n hx hb dX4_open_28 rfl (lv_at hl 1 rfl) ?_
    refine xr_get (D := (dC, dI)) (C := RX4) (T := TX4) (N := 8) (v := .ref (ad (xaD0 j))) hx hb hts wX4_open_c4 hown hK hP (xaS j) (xq_S hj) (xe_S (va_up_self _ _ _)) rfl 6 (by decide) wX4_open_f11 rfl rfl dX4_open_29 ?_
    refine lv_iconst (v := (0 : Int32)) hx hb dX4_open_32 (by decide) ?_
    refine xr_aald (k := 0) (b := ad (xaD j 0)) hx hb hK hP (xaD0 j) 4 (xq_D0 hj) xe_D0 rfl rfl rfl (x_in _ _ (by decide)) rfl dX4_open_33 ?_
    refine lv_iload_n hx hb dX4_open_34 rfl (lv_at hl 0 rfl) ?_
    refine lv_iload_n hx hb dX4_open_35 rfl (lv_at hl 2 rfl) ?_
    refine lv_i2l hx hb dX4_open_36 rfl ?_
    obtain ⟨g_4, h⟩ := h
    obtain ⟨v_5, ev_5⟩ : ∃ z : StV, z = s_wdu v_3 0 (r_1.toNatClampNeg) (x1.toInt64) := ⟨_, rfl⟩
    have h := h v_5 ev_5
    refine xr_last (k := r_1.toNatClampNeg) (x := (x1.toInt64)) (g := (xc ad ci (va_up st j v_5) ln sv kv cu)) hx hb hK hP hAD hS (xaD j 0) 1 (xq_D hj (by decide)) (xe_D (by decide) (va_up_self _ _ _)) rfl rfl g_4 dX4_open_37 (xg_du (by decide) (va_up_self _ _ _) (by rw [ev_5]; exact bx_uu _ _ _ _)) (fun H locs hP hS => ?_)
    refine lv_aload_n hx hb dX4_open_38 rfl (lv_at hl 1 rfl) ?_
    refine xr_get (D := (dC, dI)) (C := RX4) (T := TX4) (N := 8) (v := .ref (ad (xaD0 j))) hx hb hts wX4_open_c4 hown hK hP (xaS j) (xq_S hj) (xe_S (va_up_self _ _ _)) rfl 6 (by decide) wX4_open_f11 rfl rfl dX4_open_39 ?_
    refine lv_iconst (v := (1 : Int32)) hx hb dX4_open_42 (by decide) ?_
    refine xr_aald (k := 1) (b := ad (xaD j 1)) hx hb hK hP (xaD0 j) 4 (xq_D0 hj) xe_D0 rfl rfl rfl (x_in _ _ (by decide)) rfl dX4_open_43 ?_
    refine lv_iload_n hx hb dX4_open_44 rfl (lv_at hl 0 rfl) ?_
    refine lv_iload_n hx hb dX4_open_45 rfl (lv_at hl 3 rfl) ?_
    refine lv_i2l hx hb dX4_open_46 rfl ?_
    obtain ⟨g_6, h⟩ := h
    obtain ⟨v_7, ev_7⟩ : ∃ z : StV, z = s_wdu v_5 1 (r_1.toNatClampNeg) (x2.toInt64) := ⟨_, rfl⟩
    have h := h v_7 ev_7
    refine xr_last (k := r_1.toNatClampNeg) (x := (x2.toInt64)) (g := (xc ad ci (va_up st j v_7) ln sv kv cu)) hx hb hK hP hAD hS (xaD j 1) 1 (xq_D hj (by decide)) (xe_D (by decide) (va_up_self _ _ _)) rfl rfl g_6 dX4_open_47 (xg_du (by decide) (va_up_self _ _ _) (by rw [ev_7]; exact bx_uu _ _ _ _)) (fun H locs hP hS => ?_)
    refine lv_aload_n hx hb dX4_open_48 rfl (lv_at hl 1 rfl) ?_
    refine lv_iload_n hx hb dX4_open_49 rfl (lv_at hl 0 rfl) ?_
    refine va_callv (va_runV (As := [.int r_1]) (rest := []) ⟨hx, hb, C0.2.2.1, hown, hts⟩ (qX4_setPlace l dC dI ad ci A ns hAD st v_7 ln sv kv cu j hj r_1 _ h) (cwV 1 hts gX4_open_X4_setPlace rfl rfl rfl (by decide +kernel) ⟨Nat.le_of_ble_eq_true rfl, Nat.le_of_ble_eq_true rfl⟩) ⟨xr_blind, xr_recv (r := (RX4, TX4, 8)) hK hP (xaS j) (xq_S hj) (xe_S (va_up_self _ _ _)) rfl, xr_pre hP hK⟩ rfl rfl hl.1 rfl (lv_room (Nat.le_of_ble_eq_true rfl)) dX4_open_50 ⟨Nat.le_of_ble_eq_true rfl, Nat.le_of_ble_eq_true rfl⟩) hS (fun _ _ h => h) (fun _ h => h) (fun v_8 t9 H locs ht hvm h hB _ _ hS => ?_)
    refine W.cs (cells' := 0) (slots' := 0) rfl rfl ?_
    have hP := x_th ht hB
    have hP : va_P (dC, dI) vwCl (xw (xn ns) ad (xc ad ci (va_up st j v_8) ln sv kv cu)) H := hP
    refine lv_iload_n hx hb dX4_open_53 rfl (lv_at hl 0 rfl) ?_
    exact W.iret (v := r_1) hx hb hr (fun t ht hW => ⟨⟨r_1, v_8, rfl, h, x_ht ht hP⟩, hS.F ht⟩) hS.2.2 dX4_open_54
  · have h := h.1 c_2
    refine lv_aload_n hx hb dX4_open_13 rfl (lv_at hl 1 rfl) ?_
    refine lv_dup hx hb dX4_open_14 rfl ?_
    refine xr_get (D := (dC, dI)) (C := RX4) (T := TX4) (N := 8) (v := .int (s_en v)) hx hb hts wX4_open_c4 hown hK hP (xaS j) (xq_S hj) (xe_S (va_up_self _ _ _)) rfl 4 (by decide) wX4_open_f32 rfl rfl dX4_open_15 ?_
    refine lv_iconst (v := (1 : Int32)) hx hb dX4_open_18 (by decide) ?_
    refine lv_iadd hx hb dX4_open_19 ?_
    obtain ⟨v_9, ev_9⟩ : ∃ z : StV, z = s_wen v ((s_en v) + (1 : Int32)) := ⟨_, rfl⟩
    have h := h v_9 ev_9
    refine xr_put (D := (dC, dI)) (C := RX4) (T := TX4) (N := 8) (ty := .int) (v := .int ((s_en v) + (1 : Int32))) (g := (xc ad ci (va_up st j v_9) ln sv kv cu)) hx hb hts wX4_open_c4 tyX4 tyX4_ok nmX4 hown hK hP hAD hS (xaS j) (xq_S hj) (xe_S (va_up_self _ _ _)) rfl 4 (by decide) wX4_open_f32 rfl rfl (by decide +kernel) rfl rfl (Nat.le_of_ble_eq_true rfl) dX4_open_20 (xg_en (va_up_self _ _ _) (by rw [ev_9]; exact bx_uu _ _ _ _)) (fun H locs hP hS => ?_)
    refine lv_aload_n hx hb dX4_open_23 rfl (lv_at hl 1 rfl) ?_
    refine lv_iload_n hx hb dX4_open_24 rfl (lv_at hl 0 rfl) ?_
    refine va_callv (va_runV (As := [.int r_1]) (rest := []) ⟨hx, hb, C0.2.2.1, hown, hts⟩ (qX4_clear l dC dI ad ci A ns hAD st v_9 ln sv kv cu j hj r_1 _ h) (cwV 1 hts gX4_open_X4_clear rfl rfl rfl (by decide +kernel) ⟨Nat.le_of_ble_eq_true rfl, Nat.le_of_ble_eq_true rfl⟩) ⟨xr_blind, xr_recv (r := (RX4, TX4, 8)) hK hP (xaS j) (xq_S hj) (xe_S (va_up_self _ _ _)) rfl, xr_pre hP hK⟩ rfl rfl hl.1 rfl (lv_room (Nat.le_of_ble_eq_true rfl)) dX4_open_25 ⟨Nat.le_of_ble_eq_true rfl, Nat.le_of_ble_eq_true rfl⟩) hS (fun _ _ h => h) (fun _ h => h) (fun v_10 t9 H locs ht hvm h hB _ _ hS => ?_)
    refine W.cs (cells' := 0) (slots' := 0) rfl rfl ?_
    have hP := x_th ht hB
    have hP : va_P (dC, dI) vwCl (xw (xn ns) ad (xc ad ci (va_up st j v_10) ln sv kv cu)) H := hP
    refine lv_aload_n hx hb dX4_open_28 rfl (lv_at hl 1 rfl) ?_
    refine xr_get (D := (dC, dI)) (C := RX4) (T := TX4) (N := 8) (v := .ref (ad (xaD0 j))) hx hb hts wX4_open_c4 hown hK hP (xaS j) (xq_S hj) (xe_S (va_up_self _ _ _)) rfl 6 (by decide) wX4_open_f11 rfl rfl dX4_open_29 ?_
    refine lv_iconst (v := (0 : Int32)) hx hb dX4_open_32 (by decide) ?_
    refine xr_aald (k := 0) (b := ad (xaD j 0)) hx hb hK hP (xaD0 j) 4 (xq_D0 hj) xe_D0 rfl rfl rfl (x_in _ _ (by decide)) rfl dX4_open_33 ?_
    refine lv_iload_n hx hb dX4_open_34 rfl (lv_at hl 0 rfl) ?_
    refine lv_iload_n hx hb dX4_open_35 rfl (lv_at hl 2 rfl) ?_
    refine lv_i2l hx hb dX4_open_36 rfl ?_
    obtain ⟨g_11, h⟩ := h
    obtain ⟨v_12, ev_12⟩ : ∃ z : StV, z = s_wdu v_10 0 (r_1.toNatClampNeg) (x1.toInt64) := ⟨_, rfl⟩
    have h := h v_12 ev_12
    refine xr_last (k := r_1.toNatClampNeg) (x := (x1.toInt64)) (g := (xc ad ci (va_up st j v_12) ln sv kv cu)) hx hb hK hP hAD hS (xaD j 0) 1 (xq_D hj (by decide)) (xe_D (by decide) (va_up_self _ _ _)) rfl rfl g_11 dX4_open_37 (xg_du (by decide) (va_up_self _ _ _) (by rw [ev_12]; exact bx_uu _ _ _ _)) (fun H locs hP hS => ?_)
    refine lv_aload_n hx hb dX4_open_38 rfl (lv_at hl 1 rfl) ?_
    refine xr_get (D := (dC, dI)) (C := RX4) (T := TX4) (N := 8) (v := .ref (ad (xaD0 j))) hx hb hts wX4_open_c4 hown hK hP (xaS j) (xq_S hj) (xe_S (va_up_self _ _ _)) rfl 6 (by decide) wX4_open_f11 rfl rfl dX4_open_39 ?_
    refine lv_iconst (v := (1 : Int32)) hx hb dX4_open_42 (by decide) ?_
    refine xr_aald (k := 1) (b := ad (xaD j 1)) hx hb hK hP (xaD0 j) 4 (xq_D0 hj) xe_D0 rfl rfl rfl (x_in _ _ (by decide)) rfl dX4_open_43 ?_
    refine lv_iload_n hx hb dX4_open_44 rfl (lv_at hl 0 rfl) ?_
    refine lv_iload_n hx hb dX4_open_45 rfl (lv_at hl 3 rfl) ?_
    refine lv_i2l hx hb dX4_open_46 rfl ?_
    obtain ⟨g_13, h⟩ := h
    obtain ⟨v_14, ev_14⟩ : ∃ z : StV, z = s_wdu v_12 1 (r_1.toNatClampNeg) (x2.toInt64) := ⟨_, rfl⟩
    have h := h v_14 ev_14
    refine xr_last (k := r_1.toNatClampNeg) (x := (x2.toInt64)) (g := (xc ad ci (va_up st j v_14) ln sv kv cu)) hx hb hK hP hAD hS (xaD j 1) 1 (xq_D hj (by decide)) (xe_D (by decide) (va_up_self _ _ _)) rfl rfl g_13 dX4_open_47 (xg_du (by decide) (va_up_self _ _ _) (by rw [ev_14]; exact bx_uu _ _ _ _)) (fun H locs hP hS => ?_)
    refine lv_aload_n hx hb dX4_open_48 rfl (lv_at hl 1 rfl) ?_
    refine lv_iload_n hx hb dX4_open_49 rfl (lv_at hl 0 rfl) ?_
    refine va_callv (va_runV (As := [.int r_1]) (rest := []) ⟨hx, hb, C0.2.2.1, hown, hts⟩ (qX4_setPlace l dC dI ad ci A ns hAD st v_14 ln sv kv cu j hj r_1 _ h) (cwV 1 hts gX4_open_X4_setPlace rfl rfl rfl (by decide +kernel) ⟨Nat.le_of_ble_eq_true rfl, Nat.le_of_ble_eq_true rfl⟩) ⟨xr_blind, xr_recv (r := (RX4, TX4, 8)) hK hP (xaS j) (xq_S hj) (xe_S (va_up_self _ _ _)) rfl, xr_pre hP hK⟩ rfl rfl hl.1 rfl (lv_room (Nat.le_of_ble_eq_true rfl)) dX4_open_50 ⟨Nat.le_of_ble_eq_true rfl, Nat.le_of_ble_eq_true rfl⟩) hS (fun _ _ h => h) (fun _ h => h) (fun v_15 t9 H locs ht hvm h hB _ _ hS => ?_)
    refine W.cs (cells' := 0) (slots' := 0) rfl rfl ?_
    have hP := x_th ht hB
    have hP : va_P (dC, dI) vwCl (xw (xn ns) ad (xc ad ci (va_up st j v_15) ln sv kv cu)) H := hP
    refine lv_iload_n hx hb dX4_open_53 rfl (lv_at hl 0 rfl) ?_
    exact W.iret (v := r_1) hx hb hr (fun t ht hW => ⟨⟨r_1, v_15, rfl, h, x_ht ht hP⟩, hS.F ht⟩) hS.2.2 dX4_open_54
abbrev rmX4_isBehind : Room := { frames := 0, cells := 0, slots := 0, locals := 0 }
theorem wX4_isBehind_c4 : ∀ w ∈ u_ws RX4 TX4 8, w ∈ wsX4_isBehind := by decide +kernel
theorem wX4_isBehind_f11 : Cond.fieldLink RX4 11 "DueWheels$State" "dues" "[[J" ∈ wsX4_isBehind := by decide +kernel
theorem wX4_isBehind_f32 : Cond.fieldLink RX4 32 "DueWheels$State" "end" "I" ∈ wsX4_isBehind := by decide +kernel
def LX4_isBehind_6  (v : StV) (x2 : Int32)  (post : Int32 → Prop) : Nat → Int64 → Int32 → Prop
  | 0, _, _ => False
  | n + 1, x3, x5 => (((200 : Int32) ≤ x5 → post (0 : Int32)) ∧ (¬ (200 : Int32) ≤ x5 → ((x3 < (0 : Int64) → post (0 : Int32)) ∧ (¬ x3 < (0 : Int64) → ((((s_en v).toInt64) ≤ x3 → post (0 : Int32)) ∧ (¬ ((s_en v).toInt64) ≤ x3 → ((x3 = (x2.toInt64) → post (1 : Int32)) ∧ (¬ x3 = (x2.toInt64) → (vp_in (x3.toInt32) 200 ∧ ∀ x3_7 : Int64, x3_7 = (s_du v 6 ((x3.toInt32).toNatClampNeg)) → ∀ x5_8 : Int32, x5_8 = x5 + 1 → LX4_isBehind_6  v x2 post n x3_7 x5_8)))))))))
set_option maxHeartbeats 4000000 in
set_option maxRecDepth 100000 in
theorem kX4_isBehind_6 {p : Program} {e : Env} {s : State} {m : MethodId} {args : Array Value} {below : List Frame} {meth : Method} {c : Code} (l : Launch) (dC : Nat → ClassId) (dI : Nat → Nat → Nat) (ad : Nat → Nat) (ci : Nat → ClassId) (A : Nat → Prop) (ns : Nat) (hAD : xw_D (xn ns) ad A) (st : Nat → StV) (v : StV) (ln : Nat → LnV) (sv : SvV) (kv : KvV) (cu : Nat) (j : Nat) (hj : j < ns) (x2 : Int32)  (post : Int32 → Prop) (C0 : xC p s m args meth c cX4_isBehind 6 (some .boolean) RX4 wsX4_isBehind (dC, dI) (xT ci)) : ∀ (n : Nat) (x3 : Int64) (x5 : Int32) (H : Heap) (locs : List Loc) (ls : Array Slot), LX4_isBehind_6  v x2 post n x3 x5 → va_P (dC, dI) vwCl (xw (xn ns) ad (xc ad ci (va_up st j v) ln sv kv cu)) H → va_S A s.heap H locs → lv_has ls 6 [(0, .ref (ad (xaS j))), (2, .int x2), (3, .long x3), (5, .int x5)] → W p l e rmX4_isBehind s m args below meth c H locs 0 0 (MQ below (va_Qi (fun r9 (u : Unit) => post r9 ) (fun u t => va_P (dC, dI) vwCl (xw (xn ns) ad (xc ad ci (va_up st j v) ln sv kv cu)) t.heap) A) args s 0 0 A) (F0 m 6 ls []) := by
  obtain ⟨hx, hb, -, hr, hlocks, hown, hts, hK⟩ := id C0
  intro n
  induction n with
  | zero =>
    intro x3 x5 H locs ls h
    exact False.elim h
  | succ n ih =>
    intro x3 x5 H locs ls h hP hS hl
    rw [LX4_isBehind_6] at h
    refine lv_iload hx hb dX4_isBehind_6 (lv_at hl 3 rfl) ?_
    refine lv_sipush (v := (200 : Int32)) hx hb dX4_isBehind_8 (by decide) ?_
    refine lv_icmp_ge (tgt := 56) hx hb dX4_isBehind_11 (by decide) (fun c_2 => ?_) (fun c_2 => ?_)
    · have h := h.1 c_2
      refine lv_iconst (v := (0 : Int32)) hx hb dX4_isBehind_56 (by decide) ?_
      exact W.zret (v := (0 : Int32)) (ty := .boolean) hx hb hr (by decide) (fun t ht hW => ⟨⟨(0 : Int32), (), rfl, h, x_ht ht hP⟩, hS.F ht⟩) hS.2.2 dX4_isBehind_57
    · have h := h.2 c_2
      refine lv_lload_n hx hb dX4_isBehind_14 rfl (lv_at hl 2 rfl) ?_
      refine lv_lconst (v := (0 : Int64)) hx hb dX4_isBehind_15 (by decide) ?_
      refine xr_if_lcmp_lt (tgt := 56) hx hb dX4_isBehind_16 dX4_isBehind_17 (by decide) (fun c_3 => ?_) (fun c_3 => ?_)
      · have h := h.1 c_3
        refine lv_iconst (v := (0 : Int32)) hx hb dX4_isBehind_56 (by decide) ?_
        exact W.zret (v := (0 : Int32)) (ty := .boolean) hx hb hr (by decide) (fun t ht hW => ⟨⟨(0 : Int32), (), rfl, h, x_ht ht hP⟩, hS.F ht⟩) hS.2.2 dX4_isBehind_57
      · have h := h.2 c_3
        refine lv_lload_n hx hb dX4_isBehind_20 rfl (lv_at hl 2 rfl) ?_
        refine lv_aload_n hx hb dX4_isBehind_21 rfl (lv_at hl 0 rfl) ?_
        refine xr_get (D := (dC, dI)) (C := RX4) (T := TX4) (N := 8) (v := .int (s_en v)) hx hb hts wX4_isBehind_c4 hown hK hP (xaS j) (xq_S hj) (xe_S (va_up_self _ _ _)) rfl 4 (by decide) wX4_isBehind_f32 rfl rfl dX4_isBehind_22 ?_
        refine lv_i2l hx hb dX4_isBehind_25 rfl ?_
        refine xr_if_lcmp_ge (tgt := 56) hx hb dX4_isBehind_26 dX4_isBehind_27 (by decide) (fun c_4 => ?_) (fun c_4 => ?_)
        · have h := h.1 c_4
          refine lv_iconst (v := (0 : Int32)) hx hb dX4_isBehind_56 (by decide) ?_
          exact W.zret (v := (0 : Int32)) (ty := .boolean) hx hb hr (by decide) (fun t ht hW => ⟨⟨(0 : Int32), (), rfl, h, x_ht ht hP⟩, hS.F ht⟩) hS.2.2 dX4_isBehind_57
        · have h := h.2 c_4
          refine lv_lload_n hx hb dX4_isBehind_30 rfl (lv_at hl 2 rfl) ?_
          refine lv_iload_n hx hb dX4_isBehind_31 rfl (lv_at hl 1 rfl) ?_
          refine lv_i2l hx hb dX4_isBehind_32 rfl ?_
          refine xr_if_lcmp_ne (tgt := 39) hx hb dX4_isBehind_33 dX4_isBehind_34 (by decide) (fun c_5 => ?_) (fun c_5 => ?_)
          · have h := h.2 c_5
            refine lv_aload_n hx hb dX4_isBehind_39 rfl (lv_at hl 0 rfl) ?_
            refine xr_get (D := (dC, dI)) (C := RX4) (T := TX4) (N := 8) (v := .ref (ad (xaD0 j))) hx hb hts wX4_isBehind_c4 hown hK hP (xaS j) (xq_S hj) (xe_S (va_up_self _ _ _)) rfl 6 (by decide) wX4_isBehind_f11 rfl rfl dX4_isBehind_40 ?_
            refine lv_bipush (v := (6 : Int32)) hx hb dX4_isBehind_43 (by decide) ?_
            refine xr_aald (k := 6) (b := ad (xaD j 6)) hx hb hK hP (xaD0 j) 4 (xq_D0 hj) xe_D0 rfl rfl rfl (x_in _ _ (by decide)) rfl dX4_isBehind_45 ?_
            refine lv_lload_n hx hb dX4_isBehind_46 rfl (lv_at hl 2 rfl) ?_
            refine lv_l2i hx hb dX4_isBehind_47 rfl ?_
            obtain ⟨g_6, h⟩ := h
            refine xr_lald (k := (x3.toInt32).toNatClampNeg) hx hb hK hP (xaD j 6) 1 (xq_D hj (by decide)) (xe_D (by decide) (va_up_self _ _ _)) rfl rfl g_6 dX4_isBehind_48 ?_
            refine lv_topl (fun x3_7 ex3_7 => ?_)
            have h := h x3_7 ex3_7
            refine lv_lstore_n (lv' := [(3, .long x3_7), (0, .ref (ad (xaS j))), (2, .int x2), (5, .int x5)]) hx hb dX4_isBehind_49 rfl hl (by decide) rfl (fun ls hl => ?_)
            obtain ⟨x5_8, ex5_8⟩ : ∃ z : Int32, z = x5 + 1 := ⟨_, rfl⟩
            have h := h x5_8 ex5_8
            refine lv_iinc (v := x5_8) (lv' := [(5, .int x5_8), (3, .long x3_7), (0, .ref (ad (xaS j))), (2, .int x2)]) hx hb dX4_isBehind_50 hl (k := 3) rfl (by rw [ex5_8]; rfl) (by decide) rfl (fun ls hl => ?_)
            refine lv_goto (tgt := 6) hx hb dX4_isBehind_53 (by decide) ?_
            exact ih x3_7 x5_8 _ _ _ h hP hS (lv_sub hl [2, 3, 1, 0] rfl)
          · have h := h.1 c_5
            refine lv_iconst (v := (1 : Int32)) hx hb dX4_isBehind_37 (by decide) ?_
            exact W.zret (v := (1 : Int32)) (ty := .boolean) hx hb hr (by decide) (fun t ht hW => ⟨⟨(1 : Int32), (), rfl, h, x_ht ht hP⟩, hS.F ht⟩) hS.2.2 dX4_isBehind_38
def PX4_isBehind  (v : StV) (x1 : Int32) (x2 : Int32) (post : Int32 → Prop) : Prop :=
  ∀ x3_1 : Int64, x3_1 = (x1.toInt64) → (∃ n_9 : Nat, LX4_isBehind_6  v x2  post n_9 x3_1 (0 : Int32))
set_option maxHeartbeats 4000000 in
set_option maxRecDepth 100000 in
theorem qX4_isBehind (l : Launch) (dC : Nat → ClassId) (dI : Nat → Nat → Nat) (ad : Nat → Nat) (ci : Nat → ClassId) (A : Nat → Prop) (ns : Nat) (hAD : xw_D (xn ns) ad A) (st : Nat → StV) (v : StV) (ln : Nat → LnV) (sv : SvV) (kv : KvV) (cu : Nat) (j : Nat) (hj : j < ns) (x1 : Int32) (x2 : Int32) (post : Int32 → Prop) (h : PX4_isBehind v x1 x2 post) : Met l yX4_isBehind wsX4_isBehind rmX4_isBehind (va_Pc [.ref (ad (xaS j)), .int x1, .int x2] (fun U => va_P (dC, dI) vwCl (xw (xn ns) ad (xc ad ci (va_up st j v) ln sv kv cu)) U.heap ∧ va_K (dC, dI) vwCl (xT ci) U)) (va_Qi (fun r9 (u : Unit) => post r9 ) (fun u t => va_P (dC, dI) vwCl (xw (xn ns) ad (xc ad ci (va_up st j v) ln sv kv cu)) t.heap) A) 0 0 A := by
  refine Met.ofW (cc := cX4_isBehind) (maxL := 6) (ret := (some .boolean)) (by decide) rfl ?_
  intro p e s m args below meth c s₁ B hml hv
  obtain ⟨eargs, hP, hK⟩ := hv
  have C0 : xC p s m args meth c cX4_isBehind 6 (some .boolean) RX4 wsX4_isBehind (dC, dI) (xT ci) := ⟨B.exec, B.bytes, hml, B.returns, B.notSynchronized, findClass_of_methodNamed B.named, atoms_spec (ws := wsX4_isBehind) B.pre, hK⟩
  obtain ⟨hx, hb, -, hr, hlocks, hown, hts, -⟩ := id C0
  have hS : va_S A s.heap s.heap [] := va_S.rf
  have hl := lv_entry ([.ref (ad (xaS j)), .int x1, .int x2]) (n := 6) (Nat.le_of_ble_eq_true rfl)
  have ef : entryFrame m args 6 = entryFrame m ([.ref (ad (xaS j)), .int x1, .int x2] : List Value).toArray 6 := by rw [eargs]
  rw [ef, lg_entry_eq]
  generalize (lg_sl ([.ref (ad (xaS j)), .int x1, .int x2]) ++ List.replicate (6 - (lg_sl ([.ref (ad (xaS j)), .int x1, .int x2])).length) Slot.unset).toArray = ls at hl ⊢
  have hl : lv_has ls 6 [(0, .ref (ad (xaS j))), (1, .int x1), (2, .int x2)] := hl
  have hP : va_P (dC, dI) vwCl (xw (xn ns) ad (xc ad ci (va_up st j v) ln sv kv cu)) s.heap := hP
  unfold PX4_isBehind at h
  refine lv_iload_n hx hb dX4_isBehind_0 rfl (lv_at hl 1 rfl) ?_
  refine lv_i2l hx hb dX4_isBehind_1 rfl ?_
  refine lv_topl (fun x3_1 ex3_1 => ?_)
  have h := h x3_1 ex3_1
  refine lv_lstore_n (lv' := [(3, .long x3_1), (0, .ref (ad (xaS j))), (1, .int x1), (2, .int x2)]) hx hb dX4_isBehind_2 rfl hl (by decide) rfl (fun ls hl => ?_)
  refine lv_iconst (v := (0 : Int32)) hx hb dX4_isBehind_3 (by decide) ?_
  refine lv_istore (lv' := [(5, .int (0 : Int32)), (3, .long x3_1), (0, .ref (ad (xaS j))), (1, .int x1), (2, .int x2)]) hx hb dX4_isBehind_4 hl (by decide) rfl (fun ls hl => ?_)
  obtain ⟨n_9, h⟩ := h
  exact kX4_isBehind_6 l dC dI ad ci A ns hAD st v ln sv kv cu j hj  x2  post C0  n_9 x3_1 (0 : Int32) _ _ _ h hP hS (lv_sub hl [2, 4, 1, 0] rfl)
abbrev rmX4_tellDropped : Room := { frames := 2, cells := 0, slots := 0, locals := 63 }
theorem wX4_tellDropped_k45 : Cond.constantLong RX4 45 (-2000000005) ∈ wsX4_tellDropped := by decide +kernel
theorem wX4_tellDropped_m66 : Cond.methodLink RX4 66 Lib.MathLoose.max_long.x ∈ wsX4_tellDropped := by decide +kernel
theorem wX4_tellDropped_m66a : Cond.static Lib.MathLoose.max_long.x ∈ wsX4_tellDropped := by decide +kernel
theorem wX4_tellDropped_mth : Cond.initialized "java/lang/Math" ∈ wsX4_tellDropped := by decide +kernel
theorem wX4_tellDropped_m66b : Cond.code Lib.MathLoose.max_long.x Lib.MathLoose.max_long.code 4 (some .long) ∈ wsX4_tellDropped := by decide +kernel
theorem wX4_tellDropped_c4 : ∀ w ∈ u_ws RX4 TX4 8, w ∈ wsX4_tellDropped := by decide +kernel
theorem wX4_tellDropped_f19 : Cond.fieldLink RX4 19 "DueWheels$State" "time" "J" ∈ wsX4_tellDropped := by decide +kernel
theorem wX4_tellDropped_f11 : Cond.fieldLink RX4 11 "DueWheels$State" "dues" "[[J" ∈ wsX4_tellDropped := by decide +kernel
theorem wX4_tellDropped_f32 : Cond.fieldLink RX4 32 "DueWheels$State" "end" "I" ∈ wsX4_tellDropped := by decide +kernel
def LX4_tellDropped_2   (x1 : Int32)  (post : StV → Prop) : Nat → Int32 → StV → Prop
  | 0, _, _ => False
  | n + 1, x2, v => (((s_en v) ≤ x2 → post v) ∧ (¬ (s_en v) ≤ x2 → (vp_in x2 200 ∧ (((s_du v 6 (x2.toNatClampNeg)) = (x1.toInt64) → (vp_in x2 200 ∧ (∀ v_6 : StV, v_6 = s_wdu v 6 (x2.toNatClampNeg) (-2000000005 : Int64) → (vp_in x2 200 ∧ (PX4_setTick v_6 x2 (if ((s_tm v_6) + (1 : Int64)) < (s_du v_6 10 (x2.toNatClampNeg)) then (s_du v_6 10 (x2.toNatClampNeg)) else ((s_tm v_6) + (1 : Int64))) (fun (v_8 : StV) => ∀ x2_9 : Int32, x2_9 = x2 + 1 → LX4_tellDropped_2  x1 post n x2_9 v_8)))))) ∧ (¬ (s_du v 6 (x2.toNatClampNeg)) = (x1.toInt64) → ∀ x2_4 : Int32, x2_4 = x2 + 1 → LX4_tellDropped_2  x1 post n x2_4 v)))))
set_option maxHeartbeats 4000000 in
set_option maxRecDepth 100000 in
theorem kX4_tellDropped_2 {p : Program} {e : Env} {s : State} {m : MethodId} {args : Array Value} {below : List Frame} {meth : Method} {c : Code} (l : Launch) (dC : Nat → ClassId) (dI : Nat → Nat → Nat) (ad : Nat → Nat) (ci : Nat → ClassId) (A : Nat → Prop) (ns : Nat) (hAD : xw_D (xn ns) ad A) (st : Nat → StV) (ln : Nat → LnV) (sv : SvV) (kv : KvV) (cu : Nat) (j : Nat) (hj : j < ns) (x1 : Int32)  (post : StV → Prop) (C0 : xC p s m args meth c cX4_tellDropped 3 none RX4 wsX4_tellDropped (dC, dI) (xT ci)) : ∀ (n : Nat) (x2 : Int32) (v : StV) (H : Heap) (locs : List Loc) (ls : Array Slot), LX4_tellDropped_2  x1 post n x2 v → va_P (dC, dI) vwCl (xw (xn ns) ad (xc ad ci (va_up st j v) ln sv kv cu)) H → va_S A s.heap H locs → lv_has ls 3 [(0, .ref (ad (xaS j))), (1, .int x1), (2, .int x2)] → W p l e rmX4_tellDropped s m args below meth c H locs 0 0 (MQ below (va_Qv (fun u : StV => post u) (fun u t => va_P (dC, dI) vwCl (xw (xn ns) ad (xc ad ci (va_up st j u) ln sv kv cu)) t.heap) A) args s 0 0 A) (F0 m 2 ls []) := by
  obtain ⟨hx, hb, -, hr, hlocks, hown, hts, hK⟩ := id C0
  intro n
  induction n with
  | zero =>
    intro x2 v H locs ls h
    exact False.elim h
  | succ n ih =>
    intro x2 v H locs ls h hP hS hl
    rw [LX4_tellDropped_2] at h
    refine lv_iload_n hx hb dX4_tellDropped_2 rfl (lv_at hl 2 rfl) ?_
    refine lv_aload_n hx hb dX4_tellDropped_3 rfl (lv_at hl 0 rfl) ?_
    refine xr_get (D := (dC, dI)) (C := RX4) (T := TX4) (N := 8) (v := .int (s_en v)) hx hb hts wX4_tellDropped_c4 hown hK hP (xaS j) (xq_S hj) (xe_S (va_up_self _ _ _)) rfl 4 (by decide) wX4_tellDropped_f32 rfl rfl dX4_tellDropped_4 ?_
    refine lv_icmp_ge (tgt := 66) hx hb dX4_tellDropped_7 (by decide) (fun c_1 => ?_) (fun c_1 => ?_)
    · have h := h.1 c_1
      exact W.vret hx hb hr (fun t ht hW => ⟨⟨v, rfl, h, x_ht ht hP⟩, hS.F ht⟩) hS.2.2 dX4_tellDropped_66
    · have h := h.2 c_1
      refine lv_aload_n hx hb dX4_tellDropped_10 rfl (lv_at hl 0 rfl) ?_
      refine xr_get (D := (dC, dI)) (C := RX4) (T := TX4) (N := 8) (v := .ref (ad (xaD0 j))) hx hb hts wX4_tellDropped_c4 hown hK hP (xaS j) (xq_S hj) (xe_S (va_up_self _ _ _)) rfl 6 (by decide) wX4_tellDropped_f11 rfl rfl dX4_tellDropped_11 ?_
      refine lv_bipush (v := (6 : Int32)) hx hb dX4_tellDropped_14 (by decide) ?_
      refine xr_aald (k := 6) (b := ad (xaD j 6)) hx hb hK hP (xaD0 j) 4 (xq_D0 hj) xe_D0 rfl rfl rfl (x_in _ _ (by decide)) rfl dX4_tellDropped_16 ?_
      refine lv_iload_n hx hb dX4_tellDropped_17 rfl (lv_at hl 2 rfl) ?_
      obtain ⟨g_2, h⟩ := h
      refine xr_lald (k := x2.toNatClampNeg) hx hb hK hP (xaD j 6) 1 (xq_D hj (by decide)) (xe_D (by decide) (va_up_self _ _ _)) rfl rfl g_2 dX4_tellDropped_18 ?_
      refine lv_iload_n hx hb dX4_tellDropped_19 rfl (lv_at hl 1 rfl) ?_
      refine lv_i2l hx hb dX4_tellDropped_20 rfl ?_
      refine xr_if_lcmp_ne (tgt := 60) hx hb dX4_tellDropped_21 dX4_tellDropped_22 (by decide) (fun c_3 => ?_) (fun c_3 => ?_)
      · have h := h.2 c_3
        obtain ⟨x2_4, ex2_4⟩ : ∃ z : Int32, z = x2 + 1 := ⟨_, rfl⟩
        have h := h x2_4 ex2_4
        refine lv_iinc (v := x2_4) (lv' := [(2, .int x2_4), (0, .ref (ad (xaS j))), (1, .int x1)]) hx hb dX4_tellDropped_60 hl (k := 2) rfl (by rw [ex2_4]; rfl) (by decide) rfl (fun ls hl => ?_)
        refine lv_goto (tgt := 2) hx hb dX4_tellDropped_63 (by decide) ?_
        exact ih x2_4 v _ _ _ h hP hS (lv_sub hl [1, 2, 0] rfl)
      · have h := h.1 c_3
        refine lv_aload_n hx hb dX4_tellDropped_25 rfl (lv_at hl 0 rfl) ?_
        refine xr_get (D := (dC, dI)) (C := RX4) (T := TX4) (N := 8) (v := .ref (ad (xaD0 j))) hx hb hts wX4_tellDropped_c4 hown hK hP (xaS j) (xq_S hj) (xe_S (va_up_self _ _ _)) rfl 6 (by decide) wX4_tellDropped_f11 rfl rfl dX4_tellDropped_26 ?_
        refine lv_bipush (v := (6 : Int32)) hx hb dX4_tellDropped_29 (by decide) ?_
        refine xr_aald (k := 6) (b := ad (xaD j 6)) hx hb hK hP (xaD0 j) 4 (xq_D0 hj) xe_D0 rfl rfl rfl (x_in _ _ (by decide)) rfl dX4_tellDropped_31 ?_
        refine lv_iload_n hx hb dX4_tellDropped_32 rfl (lv_at hl 2 rfl) ?_
        refine lv_ldc2 (v := (-2000000005 : Int64)) hx hb hown (hts _ wX4_tellDropped_k45) dX4_tellDropped_33 ?_
        obtain ⟨g_5, h⟩ := h
        obtain ⟨v_6, ev_6⟩ : ∃ z : StV, z = s_wdu v 6 (x2.toNatClampNeg) (-2000000005 : Int64) := ⟨_, rfl⟩
        have h := h v_6 ev_6
        refine xr_last (k := x2.toNatClampNeg) (x := (-2000000005 : Int64)) (g := (xc ad ci (va_up st j v_6) ln sv kv cu)) hx hb hK hP hAD hS (xaD j 6) 1 (xq_D hj (by decide)) (xe_D (by decide) (va_up_self _ _ _)) rfl rfl g_5 dX4_tellDropped_36 (xg_du (by decide) (va_up_self _ _ _) (by rw [ev_6]; exact bx_uu _ _ _ _)) (fun H locs hP hS => ?_)
        refine lv_aload_n hx hb dX4_tellDropped_37 rfl (lv_at hl 0 rfl) ?_
        refine lv_iload_n hx hb dX4_tellDropped_38 rfl (lv_at hl 2 rfl) ?_
        refine lv_aload_n hx hb dX4_tellDropped_39 rfl (lv_at hl 0 rfl) ?_
        refine xr_get (D := (dC, dI)) (C := RX4) (T := TX4) (N := 8) (v := .ref (ad (xaD0 j))) hx hb hts wX4_tellDropped_c4 hown hK hP (xaS j) (xq_S hj) (xe_S (va_up_self _ _ _)) rfl 6 (by decide) wX4_tellDropped_f11 rfl rfl dX4_tellDropped_40 ?_
        refine lv_bipush (v := (10 : Int32)) hx hb dX4_tellDropped_43 (by decide) ?_
        refine xr_aald (k := 10) (b := ad (xaD j 10)) hx hb hK hP (xaD0 j) 4 (xq_D0 hj) xe_D0 rfl rfl rfl (x_in _ _ (by decide)) rfl dX4_tellDropped_45 ?_
        refine lv_iload_n hx hb dX4_tellDropped_46 rfl (lv_at hl 2 rfl) ?_
        obtain ⟨g_7, h⟩ := h
        refine xr_lald (k := x2.toNatClampNeg) hx hb hK hP (xaD j 10) 1 (xq_D hj (by decide)) (xe_D (by decide) (va_up_self _ _ _)) rfl rfl g_7 dX4_tellDropped_47 ?_
        refine lv_aload_n hx hb dX4_tellDropped_48 rfl (lv_at hl 0 rfl) ?_
        refine xr_get (D := (dC, dI)) (C := RX4) (T := TX4) (N := 8) (v := .long (s_tm v_6)) hx hb hts wX4_tellDropped_c4 hown hK hP (xaS j) (xq_S hj) (xe_S (va_up_self _ _ _)) rfl 0 (by decide) wX4_tellDropped_f19 rfl rfl dX4_tellDropped_49 ?_
        refine lv_lconst (v := (1 : Int64)) hx hb dX4_tellDropped_52 (by decide) ?_
        refine lv_ladd hx hb dX4_tellDropped_53 ?_
        refine va_mmax_long hx hb (by rw [C0.2.2.1]; exact hl.1.symm) hown (hts _ wX4_tellDropped_m66) (hts _ wX4_tellDropped_m66a) (hts _ wX4_tellDropped_mth) (hts _ wX4_tellDropped_m66b) (Nat.le_of_ble_eq_true rfl) (Nat.le_of_ble_eq_true rfl) (Nat.le_of_ble_eq_true rfl) (Nat.le_of_ble_eq_true rfl) dX4_tellDropped_54 ?_
        refine va_callv (va_runV (As := [.int x2, .long (if ((s_tm v_6) + (1 : Int64)) < (s_du v_6 10 (x2.toNatClampNeg)) then (s_du v_6 10 (x2.toNatClampNeg)) else ((s_tm v_6) + (1 : Int64)))]) (rest := []) ⟨hx, hb, C0.2.2.1, hown, hts⟩ (qX4_setTick l dC dI ad ci A ns hAD st v_6 ln sv kv cu j hj x2 (if ((s_tm v_6) + (1 : Int64)) < (s_du v_6 10 (x2.toNatClampNeg)) then (s_du v_6 10 (x2.toNatClampNeg)) else ((s_tm v_6) + (1 : Int64))) _ h) (cwV 2 hts gX4_tellDropped_X4_setTick rfl rfl rfl (by decide +kernel) ⟨Nat.le_of_ble_eq_true rfl, Nat.le_of_ble_eq_true rfl⟩) ⟨xr_blind, xr_recv (r := (RX4, TX4, 8)) hK hP (xaS j) (xq_S hj) (xe_S (va_up_self _ _ _)) rfl, xr_pre hP hK⟩ rfl rfl hl.1 rfl (lv_room (Nat.le_of_ble_eq_true rfl)) dX4_tellDropped_57 ⟨Nat.le_of_ble_eq_true rfl, Nat.le_of_ble_eq_true rfl⟩) hS (fun _ _ h => h) (fun _ h => h) (fun v_8 t9 H locs ht hvm h hB _ _ hS => ?_)
        refine W.cs (cells' := 0) (slots' := 0) rfl rfl ?_
        have hP := x_th ht hB
        have hP : va_P (dC, dI) vwCl (xw (xn ns) ad (xc ad ci (va_up st j v_8) ln sv kv cu)) H := hP
        obtain ⟨x2_9, ex2_9⟩ : ∃ z : Int32, z = x2 + 1 := ⟨_, rfl⟩
        have h := h x2_9 ex2_9
        refine lv_iinc (v := x2_9) (lv' := [(2, .int x2_9), (0, .ref (ad (xaS j))), (1, .int x1)]) hx hb dX4_tellDropped_60 hl (k := 2) rfl (by rw [ex2_9]; rfl) (by decide) rfl (fun ls hl => ?_)
        refine lv_goto (tgt := 2) hx hb dX4_tellDropped_63 (by decide) ?_
        exact ih x2_9 v_8 _ _ _ h hP hS (lv_sub hl [1, 2, 0] rfl)
def PX4_tellDropped  (v : StV) (x1 : Int32) (post : StV → Prop) : Prop :=
  (∃ n_10 : Nat, LX4_tellDropped_2  x1  post n_10 (0 : Int32) v)
set_option maxHeartbeats 4000000 in
set_option maxRecDepth 100000 in
theorem qX4_tellDropped (l : Launch) (dC : Nat → ClassId) (dI : Nat → Nat → Nat) (ad : Nat → Nat) (ci : Nat → ClassId) (A : Nat → Prop) (ns : Nat) (hAD : xw_D (xn ns) ad A) (st : Nat → StV) (v : StV) (ln : Nat → LnV) (sv : SvV) (kv : KvV) (cu : Nat) (j : Nat) (hj : j < ns) (x1 : Int32) (post : StV → Prop) (h : PX4_tellDropped v x1 post) : Met l yX4_tellDropped wsX4_tellDropped rmX4_tellDropped (va_Pc [.ref (ad (xaS j)), .int x1] (fun U => va_P (dC, dI) vwCl (xw (xn ns) ad (xc ad ci (va_up st j v) ln sv kv cu)) U.heap ∧ va_K (dC, dI) vwCl (xT ci) U)) (va_Qv (fun u : StV => post u) (fun u t => va_P (dC, dI) vwCl (xw (xn ns) ad (xc ad ci (va_up st j u) ln sv kv cu)) t.heap) A) 0 0 A := by
  refine Met.ofW (cc := cX4_tellDropped) (maxL := 3) (ret := none) (by decide) rfl ?_
  intro p e s m args below meth c s₁ B hml hv
  obtain ⟨eargs, hP, hK⟩ := hv
  have C0 : xC p s m args meth c cX4_tellDropped 3 none RX4 wsX4_tellDropped (dC, dI) (xT ci) := ⟨B.exec, B.bytes, hml, B.returns, B.notSynchronized, findClass_of_methodNamed B.named, atoms_spec (ws := wsX4_tellDropped) B.pre, hK⟩
  obtain ⟨hx, hb, -, hr, hlocks, hown, hts, -⟩ := id C0
  have hS : va_S A s.heap s.heap [] := va_S.rf
  have hl := lv_entry ([.ref (ad (xaS j)), .int x1]) (n := 3) (Nat.le_of_ble_eq_true rfl)
  have ef : entryFrame m args 3 = entryFrame m ([.ref (ad (xaS j)), .int x1] : List Value).toArray 3 := by rw [eargs]
  rw [ef, lg_entry_eq]
  generalize (lg_sl ([.ref (ad (xaS j)), .int x1]) ++ List.replicate (3 - (lg_sl ([.ref (ad (xaS j)), .int x1])).length) Slot.unset).toArray = ls at hl ⊢
  have hl : lv_has ls 3 [(0, .ref (ad (xaS j))), (1, .int x1)] := hl
  have hP : va_P (dC, dI) vwCl (xw (xn ns) ad (xc ad ci (va_up st j v) ln sv kv cu)) s.heap := hP
  unfold PX4_tellDropped at h
  refine lv_iconst (v := (0 : Int32)) hx hb dX4_tellDropped_0 (by decide) ?_
  refine lv_istore_n (lv' := [(2, .int (0 : Int32)), (0, .ref (ad (xaS j))), (1, .int x1)]) hx hb dX4_tellDropped_1 rfl hl (by decide) rfl (fun ls hl => ?_)
  obtain ⟨n_10, h⟩ := h
  exact kX4_tellDropped_2 l dC dI ad ci A ns hAD st ln sv kv cu j hj  x1  post C0  n_10 (0 : Int32) v _ _ _ h hP hS (lv_sub hl [1, 2, 0] rfl)
abbrev rmX4_liesIn : Room := { frames := 1, cells := 0, slots := 0, locals := 25 }
theorem wX4_liesIn_k45 : Cond.constantLong RX4 45 (-2000000005) ∈ wsX4_liesIn := by decide +kernel
theorem wX4_liesIn_c4 : ∀ w ∈ u_ws RX4 TX4 8, w ∈ wsX4_liesIn := by decide +kernel
theorem wX4_liesIn_f19 : Cond.fieldLink RX4 19 "DueWheels$State" "time" "J" ∈ wsX4_liesIn := by decide +kernel
theorem wX4_liesIn_f11 : Cond.fieldLink RX4 11 "DueWheels$State" "dues" "[[J" ∈ wsX4_liesIn := by decide +kernel
def PX4_liesIn  (v : StV) (x1 : Int32) (x2 : Int32) (x3 : Int32) (post : Int32 → Prop) : Prop :=
  (vp_in x1 200 ∧ ∀ x4_2 : Int64, x4_2 = (s_du v 2 (x1.toNatClampNeg)) → ((x4_2 = (-2000000005 : Int64) → post (0 : Int32)) ∧ (¬ x4_2 = (-2000000005 : Int64) → (PX5_wheelOf (s_tm v) x4_2 (fun (r_4 : Int32) => ((r_4 = x2 → (PX5_slotOf x2 x4_2 (fun (r_6 : Int32) => ((r_6 = x3 → post (1 : Int32)) ∧ (¬ r_6 = x3 → post (0 : Int32)))))) ∧ (¬ r_4 = x2 → post (0 : Int32))))))))
set_option maxHeartbeats 4000000 in
set_option maxRecDepth 100000 in
theorem qX4_liesIn (l : Launch) (dC : Nat → ClassId) (dI : Nat → Nat → Nat) (ad : Nat → Nat) (ci : Nat → ClassId) (A : Nat → Prop) (ns : Nat) (hAD : xw_D (xn ns) ad A) (st : Nat → StV) (v : StV) (ln : Nat → LnV) (sv : SvV) (kv : KvV) (cu : Nat) (j : Nat) (hj : j < ns) (x1 : Int32) (x2 : Int32) (x3 : Int32) (post : Int32 → Prop) (h : PX4_liesIn v x1 x2 x3 post) : Met l yX4_liesIn wsX4_liesIn rmX4_liesIn (va_Pc [.ref (ad (xaS j)), .int x1, .int x2, .int x3] (fun U => va_P (dC, dI) vwCl (xw (xn ns) ad (xc ad ci (va_up st j v) ln sv kv cu)) U.heap ∧ va_K (dC, dI) vwCl (xT ci) U)) (va_Qi (fun r9 (u : Unit) => post r9 ) (fun u t => va_P (dC, dI) vwCl (xw (xn ns) ad (xc ad ci (va_up st j v) ln sv kv cu)) t.heap) A) 0 0 A := by
  refine Met.ofW (cc := cX4_liesIn) (maxL := 6) (ret := (some .boolean)) (by decide) rfl ?_
  intro p e s m args below meth c s₁ B hml hv
  obtain ⟨eargs, hP, hK⟩ := hv
  have C0 : xC p s m args meth c cX4_liesIn 6 (some .boolean) RX4 wsX4_liesIn (dC, dI) (xT ci) := ⟨B.exec, B.bytes, hml, B.returns, B.notSynchronized, findClass_of_methodNamed B.named, atoms_spec (ws := wsX4_liesIn) B.pre, hK⟩
  obtain ⟨hx, hb, -, hr, hlocks, hown, hts, -⟩ := id C0
  have hS : va_S A s.heap s.heap [] := va_S.rf
  have hl := lv_entry ([.ref (ad (xaS j)), .int x1, .int x2, .int x3]) (n := 6) (Nat.le_of_ble_eq_true rfl)
  have ef : entryFrame m args 6 = entryFrame m ([.ref (ad (xaS j)), .int x1, .int x2, .int x3] : List Value).toArray 6 := by rw [eargs]
  rw [ef, lg_entry_eq]
  generalize (lg_sl ([.ref (ad (xaS j)), .int x1, .int x2, .int x3]) ++ List.replicate (6 - (lg_sl ([.ref (ad (xaS j)), .int x1, .int x2, .int x3])).length) Slot.unset).toArray = ls at hl ⊢
  have hl : lv_has ls 6 [(0, .ref (ad (xaS j))), (1, .int x1), (2, .int x2), (3, .int x3)] := hl
  have hP : va_P (dC, dI) vwCl (xw (xn ns) ad (xc ad ci (va_up st j v) ln sv kv cu)) s.heap := hP
  unfold PX4_liesIn at h
  refine lv_aload_n hx hb dX4_liesIn_0 rfl (lv_at hl 0 rfl) ?_
  refine xr_get (D := (dC, dI)) (C := RX4) (T := TX4) (N := 8) (v := .ref (ad (xaD0 j))) hx hb hts wX4_liesIn_c4 hown hK hP (xaS j) (xq_S hj) (xe_S (va_up_self _ _ _)) rfl 6 (by decide) wX4_liesIn_f11 rfl rfl dX4_liesIn_1 ?_
  refine lv_iconst (v := (2 : Int32)) hx hb dX4_liesIn_4 (by decide) ?_
  refine xr_aald (k := 2) (b := ad (xaD j 2)) hx hb hK hP (xaD0 j) 4 (xq_D0 hj) xe_D0 rfl rfl rfl (x_in _ _ (by decide)) rfl dX4_liesIn_5 ?_
  refine lv_iload_n hx hb dX4_liesIn_6 rfl (lv_at hl 1 rfl) ?_
  obtain ⟨g_1, h⟩ := h
  refine xr_lald (k := x1.toNatClampNeg) hx hb hK hP (xaD j 2) 1 (xq_D hj (by decide)) (xe_D (by decide) (va_up_self _ _ _)) rfl rfl g_1 dX4_liesIn_7 ?_
  refine lv_topl (fun x4_2 ex4_2 => ?_)
  have h := h x4_2 ex4_2
  refine lv_lstore (lv' := [(4, .long x4_2), (0, .ref (ad (xaS j))), (1, .int x1), (2, .int x2), (3, .int x3)]) hx hb dX4_liesIn_8 hl (by decide) rfl (fun ls hl => ?_)
  refine lv_lload hx hb dX4_liesIn_10 (lv_at hl 0 rfl) ?_
  refine lv_ldc2 (v := (-2000000005 : Int64)) hx hb hown (hts _ wX4_liesIn_k45) dX4_liesIn_12 ?_
  refine xr_if_lcmp_eq (tgt := 46) hx hb dX4_liesIn_15 dX4_liesIn_16 (by decide) (fun c_3 => ?_) (fun c_3 => ?_)
  · have h := h.1 c_3
    refine lv_iconst (v := (0 : Int32)) hx hb dX4_liesIn_46 (by decide) ?_
    exact W.zret (v := (0 : Int32)) (ty := .boolean) hx hb hr (by decide) (fun t ht hW => ⟨⟨(0 : Int32), (), rfl, h, x_ht ht hP⟩, hS.F ht⟩) hS.2.2 dX4_liesIn_47
  · have h := h.2 c_3
    refine lv_aload_n hx hb dX4_liesIn_19 rfl (lv_at hl 1 rfl) ?_
    refine xr_get (D := (dC, dI)) (C := RX4) (T := TX4) (N := 8) (v := .long (s_tm v)) hx hb hts wX4_liesIn_c4 hown hK hP (xaS j) (xq_S hj) (xe_S (va_up_self _ _ _)) rfl 0 (by decide) wX4_liesIn_f19 rfl rfl dX4_liesIn_20 ?_
    refine lv_lload hx hb dX4_liesIn_23 (lv_at hl 0 rfl) ?_
    refine va_calli (va_runS (As := [.long (s_tm v), .long x4_2]) (rest := []) ⟨hx, hb, C0.2.2.1, hown, hts⟩ (qX5_wheelOf l dC dI (xn ns) ad (xc ad ci (va_up st j v) ln sv kv cu) (xT ci) A (s_tm v) x4_2 _ h) (va_cwS 2 hts gX4_liesIn_X5_wheelOf rfl rfl rfl (by decide +kernel) ⟨Nat.le_of_ble_eq_true rfl, Nat.le_of_ble_eq_true rfl⟩) ⟨xr_blind, xr_pre hP hK⟩ rfl rfl hl.1 rfl (lv_room (Nat.le_of_ble_eq_true rfl)) dX4_liesIn_25 ⟨Nat.le_of_ble_eq_true rfl, Nat.le_of_ble_eq_true rfl⟩) hS (fun _ _ h => h) (fun _ h => h) (fun r_4 _ t9 H locs ht hvm h hB _ _ hS => ?_)
    refine W.cs (cells' := 0) (slots' := 0) rfl rfl ?_
    have hP := x_th ht hB
    have hP : va_P (dC, dI) vwCl (xw (xn ns) ad (xc ad ci (va_up st j v) ln sv kv cu)) H := hP
    refine lv_iload_n hx hb dX4_liesIn_28 rfl (lv_at hl 3 rfl) ?_
    refine lv_icmp_ne (tgt := 46) hx hb dX4_liesIn_29 (by decide) (fun c_5 => ?_) (fun c_5 => ?_)
    · have h := h.2 c_5
      refine lv_iconst (v := (0 : Int32)) hx hb dX4_liesIn_46 (by decide) ?_
      exact W.zret (v := (0 : Int32)) (ty := .boolean) hx hb hr (by decide) (fun t ht hW => ⟨⟨(0 : Int32), (), rfl, h, x_ht ht hP⟩, hS.F ht⟩) hS.2.2 dX4_liesIn_47
    · have h := h.1 c_5
      refine lv_iload_n hx hb dX4_liesIn_32 rfl (lv_at hl 3 rfl) ?_
      refine lv_lload hx hb dX4_liesIn_33 (lv_at hl 0 rfl) ?_
      refine va_calli (va_runS (As := [.int x2, .long x4_2]) (rest := []) ⟨hx, hb, C0.2.2.1, hown, hts⟩ (qX5_slotOf l dC dI (xn ns) ad (xc ad ci (va_up st j v) ln sv kv cu) (xT ci) A x2 x4_2 _ h) (va_cwS 2 hts gX4_liesIn_X5_slotOf rfl rfl rfl (by decide +kernel) ⟨Nat.le_of_ble_eq_true rfl, Nat.le_of_ble_eq_true rfl⟩) ⟨xr_blind, xr_pre hP hK⟩ rfl rfl hl.1 rfl (lv_room (Nat.le_of_ble_eq_true rfl)) dX4_liesIn_35 ⟨Nat.le_of_ble_eq_true rfl, Nat.le_of_ble_eq_true rfl⟩) hS (fun _ _ h => h) (fun _ h => h) (fun r_6 _ t9 H locs ht hvm h hB _ _ hS => ?_)
      refine W.cs (cells' := 0) (slots' := 0) rfl rfl ?_
      have hP := x_th ht hB
      have hP : va_P (dC, dI) vwCl (xw (xn ns) ad (xc ad ci (va_up st j v) ln sv kv cu)) H := hP
      refine lv_iload_n hx hb dX4_liesIn_38 rfl (lv_at hl 4 rfl) ?_
      refine lv_icmp_ne (tgt := 46) hx hb dX4_liesIn_39 (by decide) (fun c_7 => ?_) (fun c_7 => ?_)
      · have h := h.2 c_7
        refine lv_iconst (v := (0 : Int32)) hx hb dX4_liesIn_46 (by decide) ?_
        exact W.zret (v := (0 : Int32)) (ty := .boolean) hx hb hr (by decide) (fun t ht hW => ⟨⟨(0 : Int32), (), rfl, h, x_ht ht hP⟩, hS.F ht⟩) hS.2.2 dX4_liesIn_47
      · have h := h.1 c_7
        refine lv_iconst (v := (1 : Int32)) hx hb dX4_liesIn_42 (by decide) ?_
        refine lv_goto (tgt := 47) hx hb dX4_liesIn_43 (by decide) ?_
        exact W.zret (v := (1 : Int32)) (ty := .boolean) hx hb hr (by decide) (fun t ht hW => ⟨⟨(1 : Int32), (), rfl, h, x_ht ht hP⟩, hS.F ht⟩) hS.2.2 dX4_liesIn_47
abbrev rmX4_duesWith : Room := { frames := 0, cells := 0, slots := 0, locals := 0 }
theorem wX4_duesWith_k45 : Cond.constantLong RX4 45 (-2000000005) ∈ wsX4_duesWith := by decide +kernel
theorem wX4_duesWith_c4 : ∀ w ∈ u_ws RX4 TX4 8, w ∈ wsX4_duesWith := by decide +kernel
theorem wX4_duesWith_f11 : Cond.fieldLink RX4 11 "DueWheels$State" "dues" "[[J" ∈ wsX4_duesWith := by decide +kernel
theorem wX4_duesWith_f32 : Cond.fieldLink RX4 32 "DueWheels$State" "end" "I" ∈ wsX4_duesWith := by decide +kernel
def LX4_duesWith_5  (v : StV) (x1 : Int32)  (post : Int64 → Prop) : Nat → Int64 → Int32 → Prop
  | 0, _, _ => False
  | n + 1, x2, x4 => (((s_en v) ≤ x4 → post x2) ∧ (¬ (s_en v) ≤ x4 → (vp_in x1 12 ∧ (vp_in x4 200 ∧ (((s_du v x1.toNatClampNeg (x4.toNatClampNeg)) = (-2000000005 : Int64) → ∀ x4_5 : Int32, x4_5 = x4 + 1 → LX4_duesWith_5  v x1 post n x2 x4_5) ∧ (¬ (s_du v x1.toNatClampNeg (x4.toNatClampNeg)) = (-2000000005 : Int64) → ∀ x2_6 : Int64, x2_6 = (x2 + (1 : Int64)) → ∀ x4_7 : Int32, x4_7 = x4 + 1 → LX4_duesWith_5  v x1 post n x2_6 x4_7))))))
set_option maxHeartbeats 4000000 in
set_option maxRecDepth 100000 in
theorem kX4_duesWith_5 {p : Program} {e : Env} {s : State} {m : MethodId} {args : Array Value} {below : List Frame} {meth : Method} {c : Code} (l : Launch) (dC : Nat → ClassId) (dI : Nat → Nat → Nat) (ad : Nat → Nat) (ci : Nat → ClassId) (A : Nat → Prop) (ns : Nat) (hAD : xw_D (xn ns) ad A) (st : Nat → StV) (v : StV) (ln : Nat → LnV) (sv : SvV) (kv : KvV) (cu : Nat) (j : Nat) (hj : j < ns) (x1 : Int32)  (post : Int64 → Prop) (C0 : xC p s m args meth c cX4_duesWith 5 (some .long) RX4 wsX4_duesWith (dC, dI) (xT ci)) : ∀ (n : Nat) (x2 : Int64) (x4 : Int32) (H : Heap) (locs : List Loc) (ls : Array Slot), LX4_duesWith_5  v x1 post n x2 x4 → va_P (dC, dI) vwCl (xw (xn ns) ad (xc ad ci (va_up st j v) ln sv kv cu)) H → va_S A s.heap H locs → lv_has ls 5 [(0, .ref (ad (xaS j))), (1, .int x1), (2, .long x2), (4, .int x4)] → W p l e rmX4_duesWith s m args below meth c H locs 0 0 (MQ below (va_Ql (fun r9 (u : Unit) => post r9 ) (fun u t => va_P (dC, dI) vwCl (xw (xn ns) ad (xc ad ci (va_up st j v) ln sv kv cu)) t.heap) A) args s 0 0 A) (F0 m 5 ls []) := by
  obtain ⟨hx, hb, -, hr, hlocks, hown, hts, hK⟩ := id C0
  intro n
  induction n with
  | zero =>
    intro x2 x4 H locs ls h
    exact False.elim h
  | succ n ih =>
    intro x2 x4 H locs ls h hP hS hl
    rw [LX4_duesWith_5] at h
    refine lv_iload hx hb dX4_duesWith_5 (lv_at hl 3 rfl) ?_
    refine lv_aload_n hx hb dX4_duesWith_7 rfl (lv_at hl 0 rfl) ?_
    refine xr_get (D := (dC, dI)) (C := RX4) (T := TX4) (N := 8) (v := .int (s_en v)) hx hb hts wX4_duesWith_c4 hown hK hP (xaS j) (xq_S hj) (xe_S (va_up_self _ _ _)) rfl 4 (by decide) wX4_duesWith_f32 rfl rfl dX4_duesWith_8 ?_
    refine lv_icmp_ge (tgt := 40) hx hb dX4_duesWith_11 (by decide) (fun c_1 => ?_) (fun c_1 => ?_)
    · have h := h.1 c_1
      refine lv_lload_n hx hb dX4_duesWith_40 rfl (lv_at hl 2 rfl) ?_
      exact W.lret (v := x2) hx hb hr (fun t ht hW => ⟨⟨x2, (), rfl, h, x_ht ht hP⟩, hS.F ht⟩) hS.2.2 dX4_duesWith_41
    · have h := h.2 c_1
      refine lv_aload_n hx hb dX4_duesWith_14 rfl (lv_at hl 0 rfl) ?_
      refine xr_get (D := (dC, dI)) (C := RX4) (T := TX4) (N := 8) (v := .ref (ad (xaD0 j))) hx hb hts wX4_duesWith_c4 hown hK hP (xaS j) (xq_S hj) (xe_S (va_up_self _ _ _)) rfl 6 (by decide) wX4_duesWith_f11 rfl rfl dX4_duesWith_15 ?_
      refine lv_iload_n hx hb dX4_duesWith_18 rfl (lv_at hl 1 rfl) ?_
      obtain ⟨g_2, h⟩ := h
      refine xr_aald (k := x1.toNatClampNeg) (b := ad (xaD j x1.toNatClampNeg)) hx hb hK hP (xaD0 j) 4 (xq_D0 hj) xe_D0 rfl rfl rfl g_2 rfl dX4_duesWith_19 ?_
      refine lv_iload hx hb dX4_duesWith_20 (lv_at hl 3 rfl) ?_
      obtain ⟨g_3, h⟩ := h
      refine xr_lald (k := x4.toNatClampNeg) hx hb hK hP (xaD j x1.toNatClampNeg) 1 (xq_D hj (x_lt g_2)) (xe_D (x_lt g_2) (va_up_self _ _ _)) rfl rfl g_3 dX4_duesWith_22 ?_
      refine lv_ldc2 (v := (-2000000005 : Int64)) hx hb hown (hts _ wX4_duesWith_k45) dX4_duesWith_23 ?_
      refine xr_if_lcmp_eq (tgt := 34) hx hb dX4_duesWith_26 dX4_duesWith_27 (by decide) (fun c_4 => ?_) (fun c_4 => ?_)
      · have h := h.1 c_4
        obtain ⟨x4_5, ex4_5⟩ : ∃ z : Int32, z = x4 + 1 := ⟨_, rfl⟩
        have h := h x4_5 ex4_5
        refine lv_iinc (v := x4_5) (lv' := [(4, .int x4_5), (0, .ref (ad (xaS j))), (1, .int x1), (2, .long x2)]) hx hb dX4_duesWith_34 hl (k := 3) rfl (by rw [ex4_5]; rfl) (by decide) rfl (fun ls hl => ?_)
        refine lv_goto (tgt := 5) hx hb dX4_duesWith_37 (by decide) ?_
        exact ih x2 x4_5 _ _ _ h hP hS (lv_sub hl [1, 2, 3, 0] rfl)
      · have h := h.2 c_4
        refine lv_lload_n hx hb dX4_duesWith_30 rfl (lv_at hl 2 rfl) ?_
        refine lv_lconst (v := (1 : Int64)) hx hb dX4_duesWith_31 (by decide) ?_
        refine lv_ladd hx hb dX4_duesWith_32 ?_
        refine lv_topl (fun x2_6 ex2_6 => ?_)
        have h := h x2_6 ex2_6
        refine lv_lstore_n (lv' := [(2, .long x2_6), (0, .ref (ad (xaS j))), (1, .int x1), (4, .int x4)]) hx hb dX4_duesWith_33 rfl hl (by decide) rfl (fun ls hl => ?_)
        obtain ⟨x4_7, ex4_7⟩ : ∃ z : Int32, z = x4 + 1 := ⟨_, rfl⟩
        have h := h x4_7 ex4_7
        refine lv_iinc (v := x4_7) (lv' := [(4, .int x4_7), (2, .long x2_6), (0, .ref (ad (xaS j))), (1, .int x1)]) hx hb dX4_duesWith_34 hl (k := 3) rfl (by rw [ex4_7]; rfl) (by decide) rfl (fun ls hl => ?_)
        refine lv_goto (tgt := 5) hx hb dX4_duesWith_37 (by decide) ?_
        exact ih x2_6 x4_7 _ _ _ h hP hS (lv_sub hl [2, 3, 1, 0] rfl)
def PX4_duesWith  (v : StV) (x1 : Int32) (post : Int64 → Prop) : Prop :=
  (∃ n_8 : Nat, LX4_duesWith_5  v x1  post n_8 (0 : Int64) (0 : Int32))
set_option maxHeartbeats 4000000 in
set_option maxRecDepth 100000 in
theorem qX4_duesWith (l : Launch) (dC : Nat → ClassId) (dI : Nat → Nat → Nat) (ad : Nat → Nat) (ci : Nat → ClassId) (A : Nat → Prop) (ns : Nat) (hAD : xw_D (xn ns) ad A) (st : Nat → StV) (v : StV) (ln : Nat → LnV) (sv : SvV) (kv : KvV) (cu : Nat) (j : Nat) (hj : j < ns) (x1 : Int32) (post : Int64 → Prop) (h : PX4_duesWith v x1 post) : Met l yX4_duesWith wsX4_duesWith rmX4_duesWith (va_Pc [.ref (ad (xaS j)), .int x1] (fun U => va_P (dC, dI) vwCl (xw (xn ns) ad (xc ad ci (va_up st j v) ln sv kv cu)) U.heap ∧ va_K (dC, dI) vwCl (xT ci) U)) (va_Ql (fun r9 (u : Unit) => post r9 ) (fun u t => va_P (dC, dI) vwCl (xw (xn ns) ad (xc ad ci (va_up st j v) ln sv kv cu)) t.heap) A) 0 0 A := by
  refine Met.ofW (cc := cX4_duesWith) (maxL := 5) (ret := (some .long)) (by decide) rfl ?_
  intro p e s m args below meth c s₁ B hml hv
  obtain ⟨eargs, hP, hK⟩ := hv
  have C0 : xC p s m args meth c cX4_duesWith 5 (some .long) RX4 wsX4_duesWith (dC, dI) (xT ci) := ⟨B.exec, B.bytes, hml, B.returns, B.notSynchronized, findClass_of_methodNamed B.named, atoms_spec (ws := wsX4_duesWith) B.pre, hK⟩
  obtain ⟨hx, hb, -, hr, hlocks, hown, hts, -⟩ := id C0
  have hS : va_S A s.heap s.heap [] := va_S.rf
  have hl := lv_entry ([.ref (ad (xaS j)), .int x1]) (n := 5) (Nat.le_of_ble_eq_true rfl)
  have ef : entryFrame m args 5 = entryFrame m ([.ref (ad (xaS j)), .int x1] : List Value).toArray 5 := by rw [eargs]
  rw [ef, lg_entry_eq]
  generalize (lg_sl ([.ref (ad (xaS j)), .int x1]) ++ List.replicate (5 - (lg_sl ([.ref (ad (xaS j)), .int x1])).length) Slot.unset).toArray = ls at hl ⊢
  have hl : lv_has ls 5 [(0, .ref (ad (xaS j))), (1, .int x1)] := hl
  have hP : va_P (dC, dI) vwCl (xw (xn ns) ad (xc ad ci (va_up st j v) ln sv kv cu)) s.heap := hP
  unfold PX4_duesWith at h
  refine lv_lconst (v := (0 : Int64)) hx hb dX4_duesWith_0 (by decide) ?_
  refine lv_lstore_n (lv' := [(2, .long (0 : Int64)), (0, .ref (ad (xaS j))), (1, .int x1)]) hx hb dX4_duesWith_1 rfl hl (by decide) rfl (fun ls hl => ?_)
  refine lv_iconst (v := (0 : Int32)) hx hb dX4_duesWith_2 (by decide) ?_
  refine lv_istore (lv' := [(4, .int (0 : Int32)), (2, .long (0 : Int64)), (0, .ref (ad (xaS j))), (1, .int x1)]) hx hb dX4_duesWith_3 hl (by decide) rfl (fun ls hl => ?_)
  obtain ⟨n_8, h⟩ := h
  exact kX4_duesWith_5 l dC dI ad ci A ns hAD st v ln sv kv cu j hj  x1  post C0  n_8 (0 : Int64) (0 : Int32) _ _ _ h hP hS (lv_sub hl [2, 3, 1, 0] rfl)
