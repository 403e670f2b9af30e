/-! constructors: base; Line, State -/
theorem ci_eq {D : va_G} {cl : List vw_C} {tys : List (ClassId × FieldType)} {U : State} {c1 c2 : ClassId} {ty : FieldType} (hK : va_K D cl tys U) (i j : Nat) (h1 : tys[i]? = some (c1, ty)) (h2 : tys[j]? = some (c2, ty)) : c1 = c2 := by
  have a := (hK.2 i _ h1).2
  have b := (hK.2 j _ h2).2
  cases ty <;> first | exact Option.some.inj (a.symm.trans b) | (obtain ⟨_, _, _, _, _, a⟩ := a; obtain ⟨_, _, _, _, _, b⟩ := b; exact Option.some.inj (a.symm.trans b))
theorem va_AOA.moved {ty : FieldType} {u U : State} (hvm : u.vm.Alike U.vm) (h : va_AOA ty u) : va_AOA ty U := Jvm.Stand.arrayOver_alikeB hvm h
/-- what a constructor needs beside its words -/
def xN (U : State) : Prop := va_AO "DueWheels$State" U ∧ va_AOA .long U ∧ va_Nw (.methodLinkNest RX1 21 yX4_init "DueWheels") U ∧ va_Nw (.methodLinkNest RX6 18 yX0_init "DueWheels") U ∧ va_Nw (.methodLinkNest RX0 11 yX2_init "DueWheels") U ∧ va_Nw (.methodLinkNest RX6 25 yX3_init "DueWheels") U ∧ va_Nw (.methodLinkNest RX3 11 yX2_init "DueWheels") U ∧ va_Nw (.methodLinkNest RX6 32 yX4_init "DueWheels") U ∧ va_Nw (.methodLinkNest RX6 9 yX1_init "DueWheels") U
theorem xN.warm {s U : State} (hW : s.WarmedH U.vm) (h : xN s) : xN U := by
  obtain ⟨h1, h2, h3, h4, h5, h6, h7, h8, h9⟩ := h
  exact ⟨va_AO.moved hW.alike h1, va_AOA.moved hW.alike h2, va_Nw.warmM hW h3, va_Nw.warmM hW h4, va_Nw.warmM hW h5, va_Nw.warmM hW h6, va_Nw.warmM hW h7, va_Nw.warmM hW h8, va_Nw.warmM hW h9⟩
theorem xN.call {U : State} (h : xN U) (g : JFrame) (mk : MethodId) (a : Array Value) : xN (U.calling g mk a) := by
  obtain ⟨h1, h2, h3, h4, h5, h6, h7, h8, h9⟩ := h
  exact ⟨va_AO.moved (u := U) (Vm.Alike.refl U.vm) h1, va_AOA.moved (u := U) (Vm.Alike.refl U.vm) h2, va_Nw.same rfl (u := U) rfl h3, va_Nw.same rfl (u := U) rfl h4, va_Nw.same rfl (u := U) rfl h5, va_Nw.same rfl (u := U) rfl h6, va_Nw.same rfl (u := U) rfl h7, va_Nw.same rfl (u := U) rfl h8, va_Nw.same rfl (u := U) rfl h9⟩
/-- what a call on the class's object begins with: the object, and room for new cells -/
def xPre (D : va_G) (ci : Nat → ClassId) (A : Nat → Prop) (F : Heap → Prop) (U : State) : Prop := F U.heap ∧ va_K D vwCl (xT ci) U ∧ xN U ∧ ∀ q : Nat, U.heap.size ≤ q → A q
theorem xk_blind {D : va_G} {ci : Nat → ClassId} {A : Nat → Prop} {F : Heap → Prop} {av : List Value} : FrameBlind (va_Pc av (xPre D ci A F)) := fun a U g mk q => by
  obtain ⟨q0, qF, qK, qN, qA⟩ := q
  exact ⟨q0, qF, va_K.moved (u := U) (U := U.calling g mk a) (Vm.Alike.refl U.vm) qK, qN.call g mk a, qA⟩
theorem xk_pre {D : va_G} {ci : Nat → ClassId} {A : Nat → Prop} {F : Heap → Prop} {av : List Value} {H : Heap} {s : State} (hF : F H) (hK : va_K D vwCl (xT ci) s) (hN : xN s) (hA : ∀ q : Nat, H.size ≤ q → A q) : ∀ U : State, U.heap = H → s.WarmedH U.vm → va_Pc av (xPre D ci A F) av.toArray U := fun U hU hW => ⟨rfl, by rw [hU]; exact hF, va_K.moved hW.alike hK, hN.warm hW, by rw [hU]; exact hA⟩
theorem xB_th {D : va_G} {ci : Nat → ClassId} {A : Nat → Prop} {a0 : Nat} {st : Nat → StV} {ln : Nat → LnV} {sv : SvV} {kv : KvV} {cu : Nat} {H : Heap} {t : State} (ht : t.heap = H) (hB : xB D ci A a0 st ln sv kv cu t.heap) : xB D ci A a0 st ln sv kv cu H := by rw [← ht]; exact hB
theorem xr_aaldN {p : Program} {l : Launch} {e : Env} {R : Room} {s : State} {m : MethodId} {args : Array Value} {below : List Frame} {meth : Method} {c : Code} {H : Heap} {locs : List Loc} {cells slots : Nat} {Q : State → Prop} {cc : ByteArray} {pc : Nat} {ls : Array Slot} {rest : List Value} {D : va_G} {tys : List (ClassId × FieldType)} {n : Nat} {ad : Nat → Nat} {f : Nat → va_E} (hexec : p.tables.exec = Jvm.exec) (hb : c.code = cc) (hK : va_K D vwCl tys s) (hP : va_P D vwCl (xw n ad f) H) (q t0 : Nat) (hq : q < n) {cA : ClassId} {N : Nat} {a : Nat → Option Nat} {ty : FieldType} (he : f q = .inl (cA, N, x_q a)) (ht : tys[t0]? = some (cA, ty)) (hty : ty.isReference = true) {i : Int32} {k : Nat} (hk : i.toNatClampNeg = k) (hin : vp_in i N) (hab : a k = none) (hdg : decode cc pc = .ok (.aaload, 1))
    (kk : W p l e R s m args below meth c H locs cells slots Q (F0 m (pc + 1) ls (.null :: rest))) : W p l e R s m args below meth c H locs cells slots Q (F0 m pc ls (.int i :: .ref (ad q) :: rest)) := by
  subst hk
  have hlt : i.toNatClampNeg < N := Nat.not_le.mp fun z => hin (Or.inr z)
  have hcell : H[ad q]? = some (vp_cell cA (N, x_q a)) := hP q (ad q, .inl (cA, N, x_q a)) (by rw [xw_at hq, he])
  exact W.aald (v := .null) (ty := ty) hexec hb hcell ((hK.2 t0 _ ht).1 N (fun j => va_rf (a j))) hty (fun z => by cases z) (by show ¬ (i < 0 ∨ (arrV _ _ _).slots.size ≤ _); rw [arrV_size]; exact hin) (by show (arrV _ _ _).slots[_]? = _; rw [arrV_read _ _ hlt, hab]; rfl) rfl rfl hdg kk
def cP (D : va_G) (ci : Nat → ClassId) (h : Nat) (e : va_E) (sz : Nat) (U : State) : Prop := U.heap.size = sz ∧ va_P D vwCl [(h, e)] U.heap ∧ va_K D vwCl (xT ci) U ∧ xN U
theorem cP_blind {D : va_G} {ci : Nat → ClassId} {h sz : Nat} {e : va_E} {av : List Value} : FrameBlind (va_Pc av (cP D ci h e sz)) := fun a U g mk q => by
  obtain ⟨q0, q1, qP, qK, qN⟩ := q
  exact ⟨q0, q1, qP, va_K.moved (u := U) (U := U.calling g mk a) (Vm.Alike.refl U.vm) qK, qN.call g mk a⟩
theorem cP_pre {D : va_G} {ci : Nat → ClassId} {h : Nat} {e : va_E} {H : Heap} {s : State} {av : List Value} (hP : va_P D vwCl [(h, e)] H) (hK : va_K D vwCl (xT ci) s) (hN : xN s) : ∀ U : State, U.heap = H → s.WarmedH U.vm → va_Pc av (cP D ci h e H.size) av.toArray U := fun U hU hW => ⟨rfl, by rw [hU], by rw [hU]; exact hP, va_K.moved hW.alike hK, hN.warm hW⟩
def blkD (n : Nat) (a : Nat → Nat) (h sz : Nat) : Prop := a 0 = h ∧ (∀ i j, i < n → j < n → a i = a j → i = j) ∧ ∀ i, 0 < i → i < n → sz ≤ a i
theorem one_D {A : Nat → Prop} {h : Nat} {e : va_E} (hA : A h) : va_D A [(h, e)] := ⟨fun i j p q hi hj _ => by
  have h1 := (List.getElem?_eq_some_iff.mp hi).1
  have h2 := (List.getElem?_eq_some_iff.mp hj).1
  simp at h1 h2
  omega, fun k q hk => by
  have h1 := (List.getElem?_eq_some_iff.mp hk).1
  simp at h1
  subst h1
  cases hk
  exact hA⟩
theorem A_self {h sz : Nat} {e : va_E} : va_A [(h, e)] sz h := Or.inl ⟨0, e, rfl⟩
theorem A_new {h sz : Nat} {e : va_E} : ∀ q : Nat, sz ≤ q → va_A [(h, e)] sz q := fun _ h => Or.inr h
theorem A_of {h sz q : Nat} {e : va_E} (hq : va_A [(h, e)] sz q) : q = h ∨ sz ≤ q := by
  rcases hq with ⟨k, e', hk⟩ | hq
  · have h1 := (List.getElem?_eq_some_iff.mp hk).1
    simp at h1
    subst h1
    cases hk
    exact Or.inl rfl
  · exact Or.inr hq
/-- behind a constructor's call: the caller's other cells, and the new block -/
theorem blk_join {D : va_G} {A : Nat → Prop} {W : va_W} {hj n : Nat} {e : va_E} {a : Nat → Nat} {f : Nat → va_E} {H H1 : Heap} (hP : va_P D vwCl (W ++ [(hj, e)]) H) (hD : va_D A (W ++ [(hj, e)])) (hk : ∀ q : Nat, q < H.size → ¬ va_A [(hj, e)] H.size q → H1[q]? = H[q]?) (hP1 : va_P D vwCl (xw n a f) H1) (hb : blkD n a hj H.size) (hA : ∀ q, H.size ≤ q → A q) : va_P D vwCl (W ++ xw n a f) H1 ∧ va_D A (W ++ xw n a f) := by
  have atW : ∀ (k : Nat) (q : Nat × va_E), W[k]? = some q → (W ++ [(hj, e)])[k]? = some q ∧ k < W.length := fun k q hq => by
    have hl := (List.getElem?_eq_some_iff.mp hq).1
    exact ⟨by rw [List.getElem?_append_left hl]; exact hq, hl⟩
  have atj : (W ++ [(hj, e)])[W.length]? = some (hj, e) := by
    rw [List.getElem?_append_right (Nat.le_refl _), Nat.sub_self]; rfl
  have neW : ∀ (k : Nat) (q : Nat × va_E), W[k]? = some q → q.1 < H.size ∧ q.1 ≠ hj := fun k q hq => by
    obtain ⟨h1, h2⟩ := atW k q hq
    refine ⟨(hP k q h1).lt, fun z => ?_⟩
    have := hD.1 k W.length q (hj, e) h1 atj z
    omega
  refine ⟨(fun k q hq => ?_), ?_, ?_⟩
  · by_cases hl : k < W.length
    · rw [List.getElem?_append_left hl] at hq
      obtain ⟨h1, h2⟩ := neW k q hq
      have hP0 : va_P D vwCl W H := fun k q hq => hP k q (atW k q hq).1
      have hPk : va_P D vwCl W H1 := hP0.kept (fun k' q' hq' => by
        obtain ⟨h3, h4⟩ := neW k' q' hq'
        exact hk q'.1 h3 (fun z => (A_of z).elim h4 (fun z => by omega)))
      exact hPk k q hq
    · rw [List.getElem?_append_right (by omega)] at hq
      exact hP1 _ q hq
  · have inB : ∀ (k : Nat) (q : Nat × va_E), ¬ k < W.length → (W ++ xw n a f)[k]? = some q → k - W.length < n ∧ q.1 = a (k - W.length) := fun k q hl hq => by
      rw [List.getElem?_append_right (by omega)] at hq
      obtain ⟨h1, h2⟩ := xw_of hq
      exact ⟨h1, by rw [h2]⟩
    have inW : ∀ (k : Nat) (q : Nat × va_E), k < W.length → (W ++ xw n a f)[k]? = some q → W[k]? = some q := fun k q hl hq => by rwa [List.getElem?_append_left hl] at hq
    have bW : ∀ (x : Nat), x < n → a x = hj ∨ H.size ≤ a x := fun x hx => by
      by_cases z : x = 0
      · left; rw [z]; exact hb.1
      · right; exact hb.2.2 x (by omega) hx
    intro i j p q hi hj' hpq
    by_cases h1 : i < W.length <;> by_cases h2 : j < W.length
    · exact hD.1 i j p q (atW i p (inW i p h1 hi)).1 (atW j q (inW j q h2 hj')).1 hpq
    · obtain ⟨b1, b2⟩ := inB j q h2 hj'
      obtain ⟨c1, c2⟩ := neW i p (inW i p h1 hi)
      rw [hpq, b2] at c1 c2
      rcases bW _ b1 with z | z
      · exact absurd z c2
      · omega
    · obtain ⟨b1, b2⟩ := inB i p h1 hi
      obtain ⟨c1, c2⟩ := neW j q (inW j q h2 hj')
      rw [← hpq, b2] at c1 c2
      rcases bW _ b1 with z | z
      · exact absurd z c2
      · omega
    · obtain ⟨b1, b2⟩ := inB i p h1 hi
      obtain ⟨c1, c2⟩ := inB j q h2 hj'
      have := hb.2.1 _ _ b1 c1 (by rw [← b2, ← c2]; exact hpq)
      omega
  · intro k q hq
    by_cases hl : k < W.length
    · rw [List.getElem?_append_left hl] at hq
      exact hD.2 k q (atW k q hq).1
    · rw [List.getElem?_append_right (by omega)] at hq
      obtain ⟨h1, h2⟩ := xw_of hq
      rw [h2]
      by_cases z : k - W.length = 0
      · show A (a (k - W.length))
        rw [z, hb.1]
        exact hD.2 W.length (hj, e) atj
      · exact hA _ (hb.2.2 _ (by omega) h1)
