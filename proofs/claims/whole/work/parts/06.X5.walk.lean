abbrev rmX5_wheelOf : Room := { frames := 0, cells := 0, slots := 0, locals := 0 }
def LX5_wheelOf_3   (x0 : Int64) (x2 : Int64)  (post : Int32 → Prop) : Nat → Int32 → Prop
  | 0, _ => False
  | n + 1, x4 => (((5 : Int32) ≤ x4 → post (5 : Int32)) ∧ (¬ (5 : Int32) ≤ x4 → ∀ x5_2 : Int32, x5_2 = ((6 : Int32) * (x4 + (1 : Int32))) → (((x0 >>> (x5_2.toInt64 &&& 63)) = (x2 >>> (x5_2.toInt64 &&& 63)) → post x4) ∧ (¬ (x0 >>> (x5_2.toInt64 &&& 63)) = (x2 >>> (x5_2.toInt64 &&& 63)) → ∀ x4_4 : Int32, x4_4 = x4 + 1 → LX5_wheelOf_3  x0 x2 post n x4_4))))
set_option maxHeartbeats 4000000 in
set_option maxRecDepth 100000 in
theorem kX5_wheelOf_3 {p : Program} {e : Env} {s : State} {m : MethodId} {args : Array Value} {below : List Frame} {meth : Method} {c : Code} (l : Launch) (dC : Nat → ClassId) (dI : Nat → Nat → Nat) (nn : Nat) (ad : Nat → Nat) (ff : Nat → va_E) (tys : List (ClassId × FieldType)) (A : Nat → Prop)  (x0 : Int64) (x2 : Int64)  (post : Int32 → Prop) (C0 : xC p s m args meth c cX5_wheelOf 6 (some .int) RX5 wsX5_wheelOf (dC, dI) tys) : ∀ (n : Nat) (x4 : Int32) (H : Heap) (locs : List Loc) (ls : Array Slot), LX5_wheelOf_3  x0 x2 post n x4 → va_P (dC, dI) vwCl (xw nn ad ff) H → va_S A s.heap H locs → lv_has ls 6 [(0, .long x0), (2, .long x2), (4, .int x4)] → W p l e rmX5_wheelOf s m args below meth c H locs 0 0 (MQ below (va_Qi (fun r9 (u : Unit) => post r9 ) (fun u t => va_P (dC, dI) vwCl (xw nn ad ff) t.heap) A) args s 0 0 A) (F0 m 3 ls []) := by
  obtain ⟨hx, hb, -, hr, hlocks, hown, hts, hK⟩ := id C0
  intro n
  induction n with
  | zero =>
    intro x4 H locs ls h
    exact False.elim h
  | succ n ih =>
    intro x4 H locs ls h hP hS hl
    rw [LX5_wheelOf_3] at h
    refine lv_iload hx hb dX5_wheelOf_3 (lv_at hl 2 rfl) ?_
    refine lv_iconst (v := (5 : Int32)) hx hb dX5_wheelOf_5 (by decide) ?_
    refine lv_icmp_ge (tgt := 39) hx hb dX5_wheelOf_6 (by decide) (fun c_1 => ?_) (fun c_1 => ?_)
    · have h := h.1 c_1
      refine lv_iconst (v := (5 : Int32)) hx hb dX5_wheelOf_39 (by decide) ?_
      exact W.iret (v := (5 : Int32)) hx hb hr (fun t ht hW => ⟨⟨(5 : Int32), (), rfl, h, x_ht ht hP⟩, hS.F ht⟩) hS.2.2 dX5_wheelOf_40
    · have h := h.2 c_1
      refine lv_bipush (v := (6 : Int32)) hx hb dX5_wheelOf_9 (by decide) ?_
      refine lv_iload hx hb dX5_wheelOf_11 (lv_at hl 2 rfl) ?_
      refine lv_iconst (v := (1 : Int32)) hx hb dX5_wheelOf_13 (by decide) ?_
      refine lv_iadd hx hb dX5_wheelOf_14 ?_
      refine lv_imul hx hb dX5_wheelOf_15 ?_
      refine lv_topi (fun x5_2 ex5_2 => ?_)
      have h := h x5_2 ex5_2
      refine lv_istore (lv' := [(5, .int x5_2), (0, .long x0), (2, .long x2), (4, .int x4)]) hx hb dX5_wheelOf_16 hl (by decide) rfl (fun ls hl => ?_)
      refine lv_lload_n hx hb dX5_wheelOf_18 rfl (lv_at hl 1 rfl) ?_
      refine lv_iload hx hb dX5_wheelOf_19 (lv_at hl 0 rfl) ?_
      refine lv_lshr hx hb dX5_wheelOf_21 rfl ?_
      refine lv_lload_n hx hb dX5_wheelOf_22 rfl (lv_at hl 2 rfl) ?_
      refine lv_iload hx hb dX5_wheelOf_23 (lv_at hl 0 rfl) ?_
      refine lv_lshr hx hb dX5_wheelOf_25 rfl ?_
      refine xr_if_lcmp_ne (tgt := 33) hx hb dX5_wheelOf_26 dX5_wheelOf_27 (by decide) (fun c_3 => ?_) (fun c_3 => ?_)
      · have h := h.2 c_3
        obtain ⟨x4_4, ex4_4⟩ : ∃ z : Int32, z = x4 + 1 := ⟨_, rfl⟩
        have h := h x4_4 ex4_4
        refine lv_iinc (v := x4_4) (lv' := [(4, .int x4_4), (5, .int x5_2), (0, .long x0), (2, .long x2)]) hx hb dX5_wheelOf_33 hl (k := 3) rfl (by rw [ex4_4]; rfl) (by decide) rfl (fun ls hl => ?_)
        refine lv_goto (tgt := 3) hx hb dX5_wheelOf_36 (by decide) ?_
        exact ih x4_4 _ _ _ h hP hS (lv_sub hl [2, 3, 0] rfl)
      · have h := h.1 c_3
        refine lv_iload hx hb dX5_wheelOf_30 (lv_at hl 3 rfl) ?_
        exact W.iret (v := x4) hx hb hr (fun t ht hW => ⟨⟨x4, (), rfl, h, x_ht ht hP⟩, hS.F ht⟩) hS.2.2 dX5_wheelOf_32
def PX5_wheelOf   (x0 : Int64) (x2 : Int64) (post : Int32 → Prop) : Prop :=
  (∃ n_5 : Nat, LX5_wheelOf_3  x0 x2  post n_5 (0 : Int32))
set_option maxHeartbeats 4000000 in
set_option maxRecDepth 100000 in
theorem qX5_wheelOf (l : Launch) (dC : Nat → ClassId) (dI : Nat → Nat → Nat) (nn : Nat) (ad : Nat → Nat) (ff : Nat → va_E) (tys : List (ClassId × FieldType)) (A : Nat → Prop)  (x0 : Int64) (x2 : Int64) (post : Int32 → Prop) (h : PX5_wheelOf x0 x2 post) : Met l yX5_wheelOf wsX5_wheelOf rmX5_wheelOf (va_Pc [.long x0, .long x2] (fun U => va_P (dC, dI) vwCl (xw nn ad ff) U.heap ∧ va_K (dC, dI) vwCl tys U)) (va_Qi (fun r9 (u : Unit) => post r9 ) (fun u t => va_P (dC, dI) vwCl (xw nn ad ff) t.heap) A) 0 0 A := by
  refine Met.ofW (cc := cX5_wheelOf) (maxL := 6) (ret := (some .int)) (by decide) rfl ?_
  intro p e s m args below meth c s₁ B hml hv
  obtain ⟨eargs, hP, hK⟩ := hv
  have C0 : xC p s m args meth c cX5_wheelOf 6 (some .int) RX5 wsX5_wheelOf (dC, dI) tys := ⟨B.exec, B.bytes, hml, B.returns, B.notSynchronized, findClass_of_methodNamed B.named, atoms_spec (ws := wsX5_wheelOf) B.pre, hK⟩
  obtain ⟨hx, hb, -, hr, hlocks, hown, hts, -⟩ := id C0
  have hS : va_S A s.heap s.heap [] := va_S.rf
  have hl := lv_entry ([.long x0, .long x2]) (n := 6) (Nat.le_of_ble_eq_true rfl)
  have ef : entryFrame m args 6 = entryFrame m ([.long x0, .long x2] : List Value).toArray 6 := by rw [eargs]
  rw [ef, lg_entry_eq]
  generalize (lg_sl ([.long x0, .long x2]) ++ List.replicate (6 - (lg_sl ([.long x0, .long x2])).length) Slot.unset).toArray = ls at hl ⊢
  have hl : lv_has ls 6 [(0, .long x0), (2, .long x2)] := hl
  have hP : va_P (dC, dI) vwCl (xw nn ad ff) s.heap := hP
  unfold PX5_wheelOf at h
  refine lv_iconst (v := (0 : Int32)) hx hb dX5_wheelOf_0 (by decide) ?_
  refine lv_istore (lv' := [(4, .int (0 : Int32)), (0, .long x0), (2, .long x2)]) hx hb dX5_wheelOf_1 hl (by decide) rfl (fun ls hl => ?_)
  obtain ⟨n_5, h⟩ := h
  exact kX5_wheelOf_3 l dC dI nn ad ff tys A    x0 x2  post C0  n_5 (0 : Int32) _ _ _ h hP hS (lv_sub hl [1, 2, 0] rfl)
abbrev rmX5_movesDown : Room := { frames := 1, cells := 0, slots := 0, locals := 25 }
def LX5_movesDown_14   (x2 : Int64) (x4 : Int64)  (post : Int32 → Prop) : Nat → Int32 → Int32 → Int32 → Prop
  | 0, _, _, _ => False
  | n + 1, x6, x7, x8 => (((5 : Int32) ≤ x8 → post x7) ∧ (¬ (5 : Int32) ≤ x8 → ((x6 ≤ 0 → post x7) ∧ (¬ x6 ≤ 0 → ∀ x9_4 : Int32, x9_4 = ((6 : Int32) * x6) → ∀ x10_5 : Int64, x10_5 = ((x4 >>> (x9_4.toInt64 &&& 63)) <<< (x9_4.toInt64 &&& 63)) → ((x10_5 ≤ x2 → (PX5_wheelOf x10_5 x4 (fun (r_7 : Int32) => ∀ x7_8 : Int32, x7_8 = x7 + 1 → ∀ x8_9 : Int32, x8_9 = x8 + 1 → LX5_movesDown_14  x2 x4 post n r_7 x7_8 x8_9))) ∧ (¬ x10_5 ≤ x2 → post x7))))))
set_option maxHeartbeats 4000000 in
set_option maxRecDepth 100000 in
theorem kX5_movesDown_14 {p : Program} {e : Env} {s : State} {m : MethodId} {args : Array Value} {below : List Frame} {meth : Method} {c : Code} (l : Launch) (dC : Nat → ClassId) (dI : Nat → Nat → Nat) (nn : Nat) (ad : Nat → Nat) (ff : Nat → va_E) (tys : List (ClassId × FieldType)) (A : Nat → Prop)  (x2 : Int64) (x4 : Int64)  (post : Int32 → Prop) (C0 : xC p s m args meth c cX5_movesDown 12 (some .int) RX5 wsX5_movesDown (dC, dI) tys) : ∀ (n : Nat) (x6 : Int32) (x7 : Int32) (x8 : Int32) (H : Heap) (locs : List Loc) (ls : Array Slot), LX5_movesDown_14  x2 x4 post n x6 x7 x8 → va_P (dC, dI) vwCl (xw nn ad ff) H → va_S A s.heap H locs → lv_has ls 12 [(2, .long x2), (4, .long x4), (6, .int x6), (7, .int x7), (8, .int x8)] → W p l e rmX5_movesDown s m args below meth c H locs 0 0 (MQ below (va_Qi (fun r9 (u : Unit) => post r9 ) (fun u t => va_P (dC, dI) vwCl (xw nn ad ff) t.heap) A) args s 0 0 A) (F0 m 14 ls []) := by
  obtain ⟨hx, hb, -, hr, hlocks, hown, hts, hK⟩ := id C0
  intro n
  induction n with
  | zero =>
    intro x6 x7 x8 H locs ls h
    exact False.elim h
  | succ n ih =>
    intro x6 x7 x8 H locs ls h hP hS hl
    rw [LX5_movesDown_14] at h
    refine lv_iload hx hb dX5_movesDown_14 (lv_at hl 4 rfl) ?_
    refine lv_iconst (v := (5 : Int32)) hx hb dX5_movesDown_16 (by decide) ?_
    refine lv_icmp_ge (tgt := 70) hx hb dX5_movesDown_17 (by decide) (fun c_2 => ?_) (fun c_2 => ?_)
    · have h := h.1 c_2
      refine lv_iload hx hb dX5_movesDown_70 (lv_at hl 3 rfl) ?_
      exact W.iret (v := x7) hx hb hr (fun t ht hW => ⟨⟨x7, (), rfl, h, x_ht ht hP⟩, hS.F ht⟩) hS.2.2 dX5_movesDown_72
    · have h := h.2 c_2
      refine lv_iload hx hb dX5_movesDown_20 (lv_at hl 2 rfl) ?_
      refine lv_if_le (tgt := 70) hx hb dX5_movesDown_22 (by decide) (fun c_3 => ?_) (fun c_3 => ?_)
      · have h := h.1 c_3
        refine lv_iload hx hb dX5_movesDown_70 (lv_at hl 3 rfl) ?_
        exact W.iret (v := x7) hx hb hr (fun t ht hW => ⟨⟨x7, (), rfl, h, x_ht ht hP⟩, hS.F ht⟩) hS.2.2 dX5_movesDown_72
      · have h := h.2 c_3
        refine lv_bipush (v := (6 : Int32)) hx hb dX5_movesDown_25 (by decide) ?_
        refine lv_iload hx hb dX5_movesDown_27 (lv_at hl 2 rfl) ?_
        refine lv_imul hx hb dX5_movesDown_29 ?_
        refine lv_topi (fun x9_4 ex9_4 => ?_)
        have h := h x9_4 ex9_4
        refine lv_istore (lv' := [(9, .int x9_4), (2, .long x2), (4, .long x4), (6, .int x6), (7, .int x7), (8, .int x8)]) hx hb dX5_movesDown_30 hl (by decide) rfl (fun ls hl => ?_)
        refine lv_lload hx hb dX5_movesDown_32 (lv_at hl 2 rfl) ?_
        refine lv_iload hx hb dX5_movesDown_34 (lv_at hl 0 rfl) ?_
        refine lv_lshr hx hb dX5_movesDown_36 rfl ?_
        refine lv_iload hx hb dX5_movesDown_37 (lv_at hl 0 rfl) ?_
        refine lv_lshl hx hb dX5_movesDown_39 rfl ?_
        refine lv_topl (fun x10_5 ex10_5 => ?_)
        have h := h x10_5 ex10_5
        refine lv_lstore (lv' := [(10, .long x10_5), (9, .int x9_4), (2, .long x2), (4, .long x4), (6, .int x6), (7, .int x7), (8, .int x8)]) hx hb dX5_movesDown_40 hl (by decide) rfl (fun ls hl => ?_)
        refine lv_lload hx hb dX5_movesDown_42 (lv_at hl 0 rfl) ?_
        refine lv_lload_n hx hb dX5_movesDown_44 rfl (lv_at hl 2 rfl) ?_
        refine xr_if_lcmp_le (tgt := 52) hx hb dX5_movesDown_45 dX5_movesDown_46 (by decide) (fun c_6 => ?_) (fun c_6 => ?_)
        · have h := h.1 c_6
          refine lv_lload hx hb dX5_movesDown_52 (lv_at hl 0 rfl) ?_
          refine lv_lload hx hb dX5_movesDown_54 (lv_at hl 3 rfl) ?_
          refine va_calli (va_runS (As := [.long x10_5, .long x4]) (rest := []) ⟨hx, hb, C0.2.2.1, hown, hts⟩ (qX5_wheelOf l dC dI nn ad ff tys A x10_5 x4 _ h) (va_cwS 2 hts gX5_movesDown_X5_wheelOf rfl rfl rfl (by decide +kernel) ⟨Nat.le_of_ble_eq_true rfl, Nat.le_of_ble_eq_true rfl⟩) ⟨xr_blind, xr_pre hP hK⟩ rfl rfl hl.1 rfl (lv_room (Nat.le_of_ble_eq_true rfl)) dX5_movesDown_56 ⟨Nat.le_of_ble_eq_true rfl, Nat.le_of_ble_eq_true rfl⟩) hS (fun _ _ h => h) (fun _ h => h) (fun r_7 _ t9 H locs ht hvm h hB _ _ hS => ?_)
          refine W.cs (cells' := 0) (slots' := 0) rfl rfl ?_
          have hP := x_th ht hB
          have hP : va_P (dC, dI) vwCl (xw nn ad ff) H := hP
          refine lv_istore (lv' := [(6, .int r_7), (10, .long x10_5), (9, .int x9_4), (2, .long x2), (4, .long x4), (7, .int x7), (8, .int x8)]) hx hb dX5_movesDown_59 hl (by decide) rfl (fun ls hl => ?_)
          obtain ⟨x7_8, ex7_8⟩ : ∃ z : Int32, z = x7 + 1 := ⟨_, rfl⟩
          have h := h x7_8 ex7_8
          refine lv_iinc (v := x7_8) (lv' := [(7, .int x7_8), (6, .int r_7), (10, .long x10_5), (9, .int x9_4), (2, .long x2), (4, .long x4), (8, .int x8)]) hx hb dX5_movesDown_61 hl (k := 5) rfl (by rw [ex7_8]; rfl) (by decide) rfl (fun ls hl => ?_)
          obtain ⟨x8_9, ex8_9⟩ : ∃ z : Int32, z = x8 + 1 := ⟨_, rfl⟩
          have h := h x8_9 ex8_9
          refine lv_iinc (v := x8_9) (lv' := [(8, .int x8_9), (7, .int x7_8), (6, .int r_7), (10, .long x10_5), (9, .int x9_4), (2, .long x2), (4, .long x4)]) hx hb dX5_movesDown_64 hl (k := 6) rfl (by rw [ex8_9]; rfl) (by decide) rfl (fun ls hl => ?_)
          refine lv_goto (tgt := 14) hx hb dX5_movesDown_67 (by decide) ?_
          exact ih r_7 x7_8 x8_9 _ _ _ h hP hS (lv_sub hl [5, 6, 2, 1, 0] rfl)
        · have h := h.2 c_6
          refine lv_goto (tgt := 70) hx hb dX5_movesDown_49 (by decide) ?_
          refine lv_iload hx hb dX5_movesDown_70 (lv_at hl 5 rfl) ?_
          exact W.iret (v := x7) hx hb hr (fun t ht hW => ⟨⟨x7, (), rfl, h, x_ht ht hP⟩, hS.F ht⟩) hS.2.2 dX5_movesDown_72
def PX5_movesDown   (x0 : Int64) (x2 : Int64) (x4 : Int64) (post : Int32 → Prop) : Prop :=
  (PX5_wheelOf x0 x4 (fun (r_1 : Int32) => (∃ n_10 : Nat, LX5_movesDown_14  x2 x4  post n_10 r_1 (0 : Int32) (0 : Int32))))
set_option maxHeartbeats 4000000 in
set_option maxRecDepth 100000 in
theorem qX5_movesDown (l : Launch) (dC : Nat → ClassId) (dI : Nat → Nat → Nat) (nn : Nat) (ad : Nat → Nat) (ff : Nat → va_E) (tys : List (ClassId × FieldType)) (A : Nat → Prop)  (x0 : Int64) (x2 : Int64) (x4 : Int64) (post : Int32 → Prop) (h : PX5_movesDown x0 x2 x4 post) : Met l yX5_movesDown wsX5_movesDown rmX5_movesDown (va_Pc [.long x0, .long x2, .long x4] (fun U => va_P (dC, dI) vwCl (xw nn ad ff) U.heap ∧ va_K (dC, dI) vwCl tys U)) (va_Qi (fun r9 (u : Unit) => post r9 ) (fun u t => va_P (dC, dI) vwCl (xw nn ad ff) t.heap) A) 0 0 A := by
  refine Met.ofW (cc := cX5_movesDown) (maxL := 12) (ret := (some .int)) (by decide) rfl ?_
  intro p e s m args below meth c s₁ B hml hv
  obtain ⟨eargs, hP, hK⟩ := hv
  have C0 : xC p s m args meth c cX5_movesDown 12 (some .int) RX5 wsX5_movesDown (dC, dI) tys := ⟨B.exec, B.bytes, hml, B.returns, B.notSynchronized, findClass_of_methodNamed B.named, atoms_spec (ws := wsX5_movesDown) B.pre, hK⟩
  obtain ⟨hx, hb, -, hr, hlocks, hown, hts, -⟩ := id C0
  have hS : va_S A s.heap s.heap [] := va_S.rf
  have hl := lv_entry ([.long x0, .long x2, .long x4]) (n := 12) (Nat.le_of_ble_eq_true rfl)
  have ef : entryFrame m args 12 = entryFrame m ([.long x0, .long x2, .long x4] : List Value).toArray 12 := by rw [eargs]
  rw [ef, lg_entry_eq]
  generalize (lg_sl ([.long x0, .long x2, .long x4]) ++ List.replicate (12 - (lg_sl ([.long x0, .long x2, .long x4])).length) Slot.unset).toArray = ls at hl ⊢
  have hl : lv_has ls 12 [(0, .long x0), (2, .long x2), (4, .long x4)] := hl
  have hP : va_P (dC, dI) vwCl (xw nn ad ff) s.heap := hP
  unfold PX5_movesDown at h
  refine lv_lload_n hx hb dX5_movesDown_0 rfl (lv_at hl 0 rfl) ?_
  refine lv_lload hx hb dX5_movesDown_1 (lv_at hl 2 rfl) ?_
  refine va_calli (va_runS (As := [.long x0, .long x4]) (rest := []) ⟨hx, hb, C0.2.2.1, hown, hts⟩ (qX5_wheelOf l dC dI nn ad ff tys A x0 x4 _ h) (va_cwS 2 hts gX5_movesDown_X5_wheelOf rfl rfl rfl (by decide +kernel) ⟨Nat.le_of_ble_eq_true rfl, Nat.le_of_ble_eq_true rfl⟩) ⟨xr_blind, xr_pre hP hK⟩ rfl rfl hl.1 rfl (lv_room (Nat.le_of_ble_eq_true rfl)) dX5_movesDown_3 ⟨Nat.le_of_ble_eq_true rfl, Nat.le_of_ble_eq_true rfl⟩) hS (fun _ _ h => h) (fun _ h => h) (fun r_1 _ t9 H locs ht hvm h hB _ _ hS => ?_)
  refine W.cs (cells' := 0) (slots' := 0) rfl rfl ?_
  have hP := x_th ht hB
  have hP : va_P (dC, dI) vwCl (xw nn ad ff) H := hP
  refine lv_istore (lv' := [(6, .int r_1), (0, .long x0), (2, .long x2), (4, .long x4)]) hx hb dX5_movesDown_6 hl (by decide) rfl (fun ls hl => ?_)
  refine lv_iconst (v := (0 : Int32)) hx hb dX5_movesDown_8 (by decide) ?_
  refine lv_istore (lv' := [(7, .int (0 : Int32)), (6, .int r_1), (0, .long x0), (2, .long x2), (4, .long x4)]) hx hb dX5_movesDown_9 hl (by decide) rfl (fun ls hl => ?_)
  refine lv_iconst (v := (0 : Int32)) hx hb dX5_movesDown_11 (by decide) ?_
  refine lv_istore (lv' := [(8, .int (0 : Int32)), (7, .int (0 : Int32)), (6, .int r_1), (0, .long x0), (2, .long x2), (4, .long x4)]) hx hb dX5_movesDown_12 hl (by decide) rfl (fun ls hl => ?_)
  obtain ⟨n_10, h⟩ := h
  exact kX5_movesDown_14 l dC dI nn ad ff tys A    x2 x4  post C0  n_10 r_1 (0 : Int32) (0 : Int32) _ _ _ h hP hS (lv_sub hl [4, 5, 2, 1, 0] rfl)
abbrev rmX5_slotOf : Room := { frames := 0, cells := 0, slots := 0, locals := 0 }
theorem wX5_slotOf_k9 : Cond.constantLong RX5 9 (63) ∈ wsX5_slotOf := by decide +kernel
def PX5_slotOf   (x0 : Int32) (x1 : Int64) (post : Int32 → Prop) : Prop :=
  ((x0 < (5 : Int32) → post (((x1 >>> (((6 : Int32) * x0).toInt64 &&& 63)) &&& (63 : Int64)).toInt32)) ∧ (¬ x0 < (5 : Int32) → post (0 : Int32)))
set_option maxHeartbeats 4000000 in
set_option maxRecDepth 100000 in
theorem qX5_slotOf (l : Launch) (dC : Nat → ClassId) (dI : Nat → Nat → Nat) (nn : Nat) (ad : Nat → Nat) (ff : Nat → va_E) (tys : List (ClassId × FieldType)) (A : Nat → Prop)  (x0 : Int32) (x1 : Int64) (post : Int32 → Prop) (h : PX5_slotOf x0 x1 post) : Met l yX5_slotOf wsX5_slotOf rmX5_slotOf (va_Pc [.int x0, .long x1] (fun U => va_P (dC, dI) vwCl (xw nn ad ff) U.heap ∧ va_K (dC, dI) vwCl tys U)) (va_Qi (fun r9 (u : Unit) => post r9 ) (fun u t => va_P (dC, dI) vwCl (xw nn ad ff) t.heap) A) 0 0 A := by
  refine Met.ofW (cc := cX5_slotOf) (maxL := 3) (ret := (some .int)) (by decide) rfl ?_
  intro p e s m args below meth c s₁ B hml hv
  obtain ⟨eargs, hP, hK⟩ := hv
  have C0 : xC p s m args meth c cX5_slotOf 3 (some .int) RX5 wsX5_slotOf (dC, dI) tys := ⟨B.exec, B.bytes, hml, B.returns, B.notSynchronized, findClass_of_methodNamed B.named, atoms_spec (ws := wsX5_slotOf) B.pre, hK⟩
  obtain ⟨hx, hb, -, hr, hlocks, hown, hts, -⟩ := id C0
  have hS : va_S A s.heap s.heap [] := va_S.rf
  have hl := lv_entry ([.int x0, .long x1]) (n := 3) (Nat.le_of_ble_eq_true rfl)
  have ef : entryFrame m args 3 = entryFrame m ([.int x0, .long x1] : List Value).toArray 3 := by rw [eargs]
  rw [ef, lg_entry_eq]
  generalize (lg_sl ([.int x0, .long x1]) ++ List.replicate (3 - (lg_sl ([.int x0, .long x1])).length) Slot.unset).toArray = ls at hl ⊢
  have hl : lv_has ls 3 [(0, .int x0), (1, .long x1)] := hl
  have hP : va_P (dC, dI) vwCl (xw nn ad ff) s.heap := hP
  unfold PX5_slotOf at h
  refine lv_iload_n hx hb dX5_slotOf_0 rfl (lv_at hl 0 rfl) ?_
  refine lv_iconst (v := (5 : Int32)) hx hb dX5_slotOf_1 (by decide) ?_
  refine lv_icmp_lt (tgt := 9) hx hb dX5_slotOf_2 (by decide) (fun c_1 => ?_) (fun c_1 => ?_)
  · have h := h.1 c_1
    refine lv_lload_n hx hb dX5_slotOf_9 rfl (lv_at hl 1 rfl) ?_
    refine lv_bipush (v := (6 : Int32)) hx hb dX5_slotOf_10 (by decide) ?_
    refine lv_iload_n hx hb dX5_slotOf_12 rfl (lv_at hl 0 rfl) ?_
    refine lv_imul hx hb dX5_slotOf_13 ?_
    refine lv_lshr hx hb dX5_slotOf_14 rfl ?_
    refine lv_ldc2 (v := (63 : Int64)) hx hb hown (hts _ wX5_slotOf_k9) dX5_slotOf_15 ?_
    refine lv_land hx hb dX5_slotOf_18 ?_
    refine lv_l2i hx hb dX5_slotOf_19 rfl ?_
    exact W.iret (v := (((x1 >>> (((6 : Int32) * x0).toInt64 &&& 63)) &&& (63 : Int64)).toInt32)) hx hb hr (fun t ht hW => ⟨⟨(((x1 >>> (((6 : Int32) * x0).toInt64 &&& 63)) &&& (63 : Int64)).toInt32), (), rfl, h, x_ht ht hP⟩, hS.F ht⟩) hS.2.2 dX5_slotOf_20
  · have h := h.2 c_1
    refine lv_iconst (v := (0 : Int32)) hx hb dX5_slotOf_5 (by decide) ?_
    refine lv_goto (tgt := 20) hx hb dX5_slotOf_6 (by decide) ?_
    exact W.iret (v := (0 : Int32)) hx hb hr (fun t ht hW => ⟨⟨(0 : Int32), (), rfl, h, x_ht ht hP⟩, hS.F ht⟩) hS.2.2 dX5_slotOf_20
abbrev rmX5_isSlot : Room := { frames := 0, cells := 0, slots := 0, locals := 0 }
def PX5_isSlot   (x0 : Int32) (x1 : Int32) (post : Int32 → Prop) : Prop :=
  ((x0 = (5 : Int32) → ((x1 = 0 → post (1 : Int32)) ∧ (¬ x1 = 0 → post (0 : Int32)))) ∧ (¬ x0 = (5 : Int32) → ((x0 < 0 → post (0 : Int32)) ∧ (¬ x0 < 0 → (((5 : Int32) ≤ x0 → post (0 : Int32)) ∧ (¬ (5 : Int32) ≤ x0 → ((x1 < 0 → post (0 : Int32)) ∧ (¬ x1 < 0 → (((64 : Int32) ≤ x1 → post (0 : Int32)) ∧ (¬ (64 : Int32) ≤ x1 → post (1 : Int32)))))))))))
set_option maxHeartbeats 4000000 in
set_option maxRecDepth 100000 in
theorem qX5_isSlot (l : Launch) (dC : Nat → ClassId) (dI : Nat → Nat → Nat) (nn : Nat) (ad : Nat → Nat) (ff : Nat → va_E) (tys : List (ClassId × FieldType)) (A : Nat → Prop)  (x0 : Int32) (x1 : Int32) (post : Int32 → Prop) (h : PX5_isSlot x0 x1 post) : Met l yX5_isSlot wsX5_isSlot rmX5_isSlot (va_Pc [.int x0, .int x1] (fun U => va_P (dC, dI) vwCl (xw nn ad ff) U.heap ∧ va_K (dC, dI) vwCl tys U)) (va_Qi (fun r9 (u : Unit) => post r9 ) (fun u t => va_P (dC, dI) vwCl (xw nn ad ff) t.heap) A) 0 0 A := by
  refine Met.ofW (cc := cX5_isSlot) (maxL := 2) (ret := (some .boolean)) (by decide) rfl ?_
  intro p e s m args below meth c s₁ B hml hv
  obtain ⟨eargs, hP, hK⟩ := hv
  have C0 : xC p s m args meth c cX5_isSlot 2 (some .boolean) RX5 wsX5_isSlot (dC, dI) tys := ⟨B.exec, B.bytes, hml, B.returns, B.notSynchronized, findClass_of_methodNamed B.named, atoms_spec (ws := wsX5_isSlot) B.pre, hK⟩
  obtain ⟨hx, hb, -, hr, hlocks, hown, hts, -⟩ := id C0
  have hS : va_S A s.heap s.heap [] := va_S.rf
  have hl := lv_entry ([.int x0, .int x1]) (n := 2) (Nat.le_of_ble_eq_true rfl)
  have ef : entryFrame m args 2 = entryFrame m ([.int x0, .int x1] : List Value).toArray 2 := by rw [eargs]
  rw [ef, lg_entry_eq]
  generalize (lg_sl ([.int x0, .int x1]) ++ List.replicate (2 - (lg_sl ([.int x0, .int x1])).length) Slot.unset).toArray = ls at hl ⊢
  have hl : lv_has ls 2 [(0, .int x0), (1, .int x1)] := hl
  have hP : va_P (dC, dI) vwCl (xw nn ad ff) s.heap := hP
  unfold PX5_isSlot at h
  refine lv_iload_n hx hb dX5_isSlot_0 rfl (lv_at hl 0 rfl) ?_
  refine lv_iconst (v := (5 : Int32)) hx hb dX5_isSlot_1 (by decide) ?_
  refine lv_icmp_ne (tgt := 15) hx hb dX5_isSlot_2 (by decide) (fun c_1 => ?_) (fun c_1 => ?_)
  · have h := h.2 c_1
    refine lv_iload_n hx hb dX5_isSlot_15 rfl (lv_at hl 0 rfl) ?_
    refine lv_if_lt (tgt := 38) hx hb dX5_isSlot_16 (by decide) (fun c_2 => ?_) (fun c_2 => ?_)
    · have h := h.1 c_2
      refine lv_iconst (v := (0 : Int32)) hx hb dX5_isSlot_38 (by decide) ?_
      exact W.zret (v := (0 : Int32)) (ty := .boolean) hx hb hr (by decide) (fun t ht hW => ⟨⟨(0 : Int32), (), rfl, h, x_ht ht hP⟩, hS.F ht⟩) hS.2.2 dX5_isSlot_39
    · have h := h.2 c_2
      refine lv_iload_n hx hb dX5_isSlot_19 rfl (lv_at hl 0 rfl) ?_
      refine lv_iconst (v := (5 : Int32)) hx hb dX5_isSlot_20 (by decide) ?_
      refine lv_icmp_ge (tgt := 38) hx hb dX5_isSlot_21 (by decide) (fun c_3 => ?_) (fun c_3 => ?_)
      · have h := h.1 c_3
        refine lv_iconst (v := (0 : Int32)) hx hb dX5_isSlot_38 (by decide) ?_
        exact W.zret (v := (0 : Int32)) (ty := .boolean) hx hb hr (by decide) (fun t ht hW => ⟨⟨(0 : Int32), (), rfl, h, x_ht ht hP⟩, hS.F ht⟩) hS.2.2 dX5_isSlot_39
      · have h := h.2 c_3
        refine lv_iload_n hx hb dX5_isSlot_24 rfl (lv_at hl 1 rfl) ?_
        refine lv_if_lt (tgt := 38) hx hb dX5_isSlot_25 (by decide) (fun c_4 => ?_) (fun c_4 => ?_)
        · have h := h.1 c_4
          refine lv_iconst (v := (0 : Int32)) hx hb dX5_isSlot_38 (by decide) ?_
          exact W.zret (v := (0 : Int32)) (ty := .boolean) hx hb hr (by decide) (fun t ht hW => ⟨⟨(0 : Int32), (), rfl, h, x_ht ht hP⟩, hS.F ht⟩) hS.2.2 dX5_isSlot_39
        · have h := h.2 c_4
          refine lv_iload_n hx hb dX5_isSlot_28 rfl (lv_at hl 1 rfl) ?_
          refine lv_bipush (v := (64 : Int32)) hx hb dX5_isSlot_29 (by decide) ?_
          refine lv_icmp_ge (tgt := 38) hx hb dX5_isSlot_31 (by decide) (fun c_5 => ?_) (fun c_5 => ?_)
          · have h := h.1 c_5
            refine lv_iconst (v := (0 : Int32)) hx hb dX5_isSlot_38 (by decide) ?_
            exact W.zret (v := (0 : Int32)) (ty := .boolean) hx hb hr (by decide) (fun t ht hW => ⟨⟨(0 : Int32), (), rfl, h, x_ht ht hP⟩, hS.F ht⟩) hS.2.2 dX5_isSlot_39
          · have h := h.2 c_5
            refine lv_iconst (v := (1 : Int32)) hx hb dX5_isSlot_34 (by decide) ?_
            refine lv_goto (tgt := 39) hx hb dX5_isSlot_35 (by decide) ?_
            exact W.zret (v := (1 : Int32)) (ty := .boolean) hx hb hr (by decide) (fun t ht hW => ⟨⟨(1 : Int32), (), rfl, h, x_ht ht hP⟩, hS.F ht⟩) hS.2.2 dX5_isSlot_39
  · have h := h.1 c_1
    refine lv_iload_n hx hb dX5_isSlot_5 rfl (lv_at hl 1 rfl) ?_
    refine lv_if_ne (tgt := 13) hx hb dX5_isSlot_6 (by decide) (fun c_6 => ?_) (fun c_6 => ?_)
    · have h := h.2 c_6
      refine lv_iconst (v := (0 : Int32)) hx hb dX5_isSlot_13 (by decide) ?_
      exact W.zret (v := (0 : Int32)) (ty := .boolean) hx hb hr (by decide) (fun t ht hW => ⟨⟨(0 : Int32), (), rfl, h, x_ht ht hP⟩, hS.F ht⟩) hS.2.2 dX5_isSlot_14
    · have h := h.1 c_6
      refine lv_iconst (v := (1 : Int32)) hx hb dX5_isSlot_9 (by decide) ?_
      refine lv_goto (tgt := 14) hx hb dX5_isSlot_10 (by decide) ?_
      exact W.zret (v := (1 : Int32)) (ty := .boolean) hx hb hr (by decide) (fun t ht hW => ⟨⟨(1 : Int32), (), rfl, h, x_ht ht hP⟩, hS.F ht⟩) hS.2.2 dX5_isSlot_14
