/-! own rows: a world of cells by number; the class's world, the reference's world -/
def xw (n : Nat) (ad : Nat → Nat) (f : Nat → va_E) : va_W := (List.range n).map (fun k => (ad k, f k))
theorem xw_at {n : Nat} {ad : Nat → Nat} {f : Nat → va_E} {k : Nat} (h : k < n) : (xw n ad f)[k]? = some (ad k, f k) := by
  simp [xw, List.getElem?_map, List.getElem?_range h]
theorem xw_of {n : Nat} {ad : Nat → Nat} {f : Nat → va_E} {k : Nat} {q : Nat × va_E} (h : (xw n ad f)[k]? = some q) : k < n ∧ q = (ad k, f k) := by
  have hk : k < n := by
    have := (List.getElem?_eq_some_iff.mp h).1
    simpa [xw] using this
  rw [xw_at hk] at h
  exact ⟨hk, (Option.some.inj h).symm⟩
def xw_D (n : Nat) (ad : Nat → Nat) (A : Nat → Prop) : Prop := (∀ i j, i < n → j < n → ad i = ad j → i = j) ∧ ∀ i, i < n → A (ad i)
theorem xw_D.va {n : Nat} {ad : Nat → Nat} {A : Nat → Prop} (h : xw_D n ad A) (f : Nat → va_E) : va_D A (xw n ad f) := by
  refine ⟨fun i j p q hi hj hpq => ?_, fun k q hk => ?_⟩
  · obtain ⟨h1, rfl⟩ := xw_of hi
    obtain ⟨h2, rfl⟩ := xw_of hj
    exact h.1 i j h1 h2 hpq
  · obtain ⟨h1, rfl⟩ := xw_of hk
    exact h.2 k h1
theorem xw_set {n : Nat} {ad : Nat → Nat} {f g : Nat → va_E} {k : Nat} {e : va_E} (hg : ∀ i, i < n → g i = va_up f k e i) : (xw n ad f).set k (ad k, e) = xw n ad g := by
  apply List.ext_getElem?
  intro i
  by_cases hi : i < n
  · rw [xw_at hi, hg i hi]
    by_cases hk : i = k
    · subst hk
      have hl : i < (xw n ad f).length := by simpa [xw] using hi
      rw [List.getElem?_set_self hl]
      simp [va_up]
    · rw [List.getElem?_set_ne (Ne.symm hk), xw_at hi]
      simp [va_up, hk]
  · have h1 : (xw n ad g)[i]? = none := List.getElem?_eq_none (by simpa [xw] using Nat.le_of_not_lt hi)
    have h2 : ((xw n ad f).set k (ad k, e))[i]? = none := List.getElem?_eq_none (by simpa [xw] using Nat.le_of_not_lt hi)
    rw [h1, h2]
theorem x_eta {α : Type} (f : Nat → α) (j : Nat) : va_up f j (f j) = f := by
  funext i
  by_cases h : i = j
  · subst h; simp [va_up]
  · simp [va_up, h]
theorem x_in (i : Int32) (n : Nat) (h : (decide (i < 0) || decide (n ≤ i.toNatClampNeg)) = false) : vp_in i n := by
  intro q
  rcases q with q | q
  · simp [q] at h
  · simp [q] at h
abbrev x_q (g : Nat → Option Nat) : (Nat → Int32) ⊕ (Nat → Int64) ⊕ (Nat → UInt32) ⊕ (Nat → UInt64) ⊕ (Nat → Option Nat) := .inr (.inr (.inr (.inr g)))
/-- what holds all through a method's body -/
def xC (p : Program) (s : State) (m : MethodId) (args : Array Value) (meth : Method) (c : Code) (cc : ByteArray) (nL : Nat) (ret : Option FieldType) (own : String) (ws : List Cond) (D : va_G) (tys : List (ClassId × FieldType)) : Prop :=
  p.tables.exec = Jvm.exec ∧ c.code = cc ∧ c.maxLocals = nL ∧ meth.sig.returnType = ret ∧ meth.locks = false ∧ s.vm.findClass own = some m.cls ∧ (∀ w ∈ ws, w.before args s = true) ∧ va_K D vwCl tys s
section XR
variable {p : Program} {l : Launch} {e : Env} {R : Room} {s : State} {m : MethodId} {args : Array Value} {below : List Frame} {meth : Method} {c : Code} {H : Heap} {locs : List Loc} {cells slots : Nat} {Q : State → Prop}
variable {cc : ByteArray} {pc : Nat} {ls : Array Slot} {rest : List Value} {D : va_G} {A : Nat → Prop} {tys : List (ClassId × FieldType)} {H0 : Heap} {n : Nat} {ad : Nat → Nat} {f : Nat → va_E}
theorem xr_get (hexec : p.tables.exec = Jvm.exec) (hb : c.code = cc) {own ref C : String} {T : u_T} {N ci index : Nat} {Ts : List Cond} (hts : ∀ w ∈ Ts, w.before args s = true) (hin : ∀ w ∈ u_ws C T N, w ∈ Ts) (hown : s.vm.findClass own = some m.cls) (hK : va_K D vwCl tys s) (hP : va_P D vwCl (xw n ad f) H) (q : Nat) (hq : q < n) {fs : List Value} (he : f q = .inr (ci, fs)) (hc : vwCl[ci]? = some (C, T, N)) (k : Nat) (hk : k < N) (hlink : Cond.fieldLink own index ref (T k).2.1 (T k).2.2.1 ∈ Ts) (hsame : ref = (T k).1) {v : Value} (hv : fs[k]? = some v) (hdg : decode cc pc = .ok (.getfield index, 3))
    (kk : W p l e R s m args below meth c H locs cells slots Q (F0 m (pc + 3) ls (v :: rest))) : W p l e R s m args below meth c H locs cells slots Q (F0 m pc ls (.ref (ad q) :: rest)) :=
  va_get hexec hb hts hin hown hK hP q (by rw [xw_at hq, he]) hc k hk (hts _ hlink) (fun _ h => hsame ▸ h) hv hdg kk
theorem xr_put (hexec : p.tables.exec = Jvm.exec) (hb : c.code = cc) {own ref C : String} {T : u_T} {N ci index : Nat} {Ts : List Cond} (hts : ∀ w ∈ Ts, w.before args s = true) (hin : ∀ w ∈ u_ws C T N, w ∈ Ts) (ty0 : Nat → FieldType) (hty : ∀ k, k < N → parseFieldDescriptor (T k).2.2.1 = some (ty0 k)) (hnm : ∀ a, a < N → ∀ b, b < N → a ≠ b → (T a).2.1 ≠ (T b).2.1) (hown : s.vm.findClass own = some m.cls) (hK : va_K D vwCl tys s) (hP : va_P D vwCl (xw n ad f) H) (hD : xw_D n ad A) (hS : va_S A H0 H locs) (q : Nat) (hq : q < n) {fs : List Value} (he : f q = .inr (ci, fs)) (hc : vwCl[ci]? = some (C, T, N)) (k : Nat) (hk : k < N) (hlink : Cond.fieldLink own index ref (T k).2.1 (T k).2.2.1 ∈ Ts) (hsame : ref = (T k).1) (hfin : (T k).2.2.2 = false) {ty : FieldType} {v : Value} (hd : parseFieldDescriptor (T k).2.2.1 = some ty) (hn : narrow ty v = v) (hfit : fits ty v = true) (hl : k < fs.length) (hdg : decode cc pc = .ok (.putfield index, 3)) {g : Nat → va_E} (hg : ∀ i, i < n → g i = va_up f q (.inr (ci, fs.set k v)) i)
    (kk : ∀ (H1 : Heap) (locs1 : List Loc), va_P D vwCl (xw n ad g) H1 → va_S A H0 H1 locs1 → W p l e R s m args below meth c H1 locs1 cells slots Q (F0 m (pc + 3) ls rest)) : W p l e R s m args below meth c H locs cells slots Q (F0 m pc ls (v :: .ref (ad q) :: rest)) :=
  va_put hexec hb hts hin ty0 hty hnm hown hK hP (hD.va f) hS q (by rw [xw_at hq, he]) hc k hk (hts _ hlink) (fun _ h => hsame ▸ h) hfin hd hn hfit hl hdg (fun H1 locs1 hP1 _ hS1 => kk H1 locs1 (by rw [xw_set hg] at hP1; exact hP1) hS1)
theorem xr_iald (hexec : p.tables.exec = Jvm.exec) (hb : c.code = cc) (hK : va_K D vwCl tys s) (hP : va_P D vwCl (xw n ad f) H) (q t0 : Nat) (hq : q < n) {cA : ClassId} {N : Nat} {a : Nat → Int32} (he : f q = .inl (cA, N, .inl a)) (ht : tys[t0]? = some (cA, .int)) {i : Int32} {k : Nat} (hk : i.toNatClampNeg = k) (hin : vp_in i N) (hdg : decode cc pc = .ok (.iaload, 1))
    (kk : W p l e R s m args below meth c H locs cells slots Q (F0 m (pc + 1) ls (.int (a k) :: rest))) : W p l e R s m args below meth c H locs cells slots Q (F0 m pc ls (.int i :: .ref (ad q) :: rest)) := by
  subst hk
  exact va_iald hexec hb hK hP q t0 (by rw [xw_at hq, he]) ht hin hdg kk
theorem xr_zald (hexec : p.tables.exec = Jvm.exec) (hb : c.code = cc) (hK : va_K D vwCl tys s) (hP : va_P D vwCl (xw n ad f) H) (q t0 : Nat) (hq : q < n) {cA : ClassId} {N : Nat} {a : Nat → Int32} (he : f q = .inl (cA, N, .inl a)) (ht : tys[t0]? = some (cA, .boolean)) {i : Int32} {k : Nat} (hk : i.toNatClampNeg = k) (hin : vp_in i N) (hdg : decode cc pc = .ok (.baload, 1))
    (kk : W p l e R s m args below meth c H locs cells slots Q (F0 m (pc + 1) ls (.int (a k) :: rest))) : W p l e R s m args below meth c H locs cells slots Q (F0 m pc ls (.int i :: .ref (ad q) :: rest)) := by
  subst hk
  exact va_zald hexec hb hK hP q t0 (by rw [xw_at hq, he]) ht hin hdg kk
theorem xr_lald (hexec : p.tables.exec = Jvm.exec) (hb : c.code = cc) (hK : va_K D vwCl tys s) (hP : va_P D vwCl (xw n ad f) H) (q t0 : Nat) (hq : q < n) {cA : ClassId} {N : Nat} {a : Nat → Int64} (he : f q = .inl (cA, N, .inr (.inl a))) (ht : tys[t0]? = some (cA, .long)) {i : Int32} {k : Nat} (hk : i.toNatClampNeg = k) (hin : vp_in i N) (hdg : decode cc pc = .ok (.laload, 1))
    (kk : W p l e R s m args below meth c H locs cells slots Q (F0 m (pc + 1) ls (.long (a k) :: rest))) : W p l e R s m args below meth c H locs cells slots Q (F0 m pc ls (.int i :: .ref (ad q) :: rest)) := by
  subst hk
  exact va_lald hexec hb hK hP q t0 (by rw [xw_at hq, he]) ht hin hdg kk
theorem xr_aald (hexec : p.tables.exec = Jvm.exec) (hb : c.code = cc) (hK : va_K D vwCl tys s) (hP : va_P D vwCl (xw n ad f) H) (q t0 : Nat) (hq : q < n) {cA : ClassId} {N : Nat} {a : Nat → Option Nat} {ty : FieldType} (he : f q = .inl (cA, N, x_q a)) (ht : tys[t0]? = some (cA, ty)) (hty : ty.isReference = true) {i : Int32} {k b : Nat} (hk : i.toNatClampNeg = k) (hin : vp_in i N) (hab : a k = some b) (hdg : decode cc pc = .ok (.aaload, 1))
    (kk : W p l e R s m args below meth c H locs cells slots Q (F0 m (pc + 1) ls (.ref b :: rest))) : W p l e R s m args below meth c H locs cells slots Q (F0 m pc ls (.int i :: .ref (ad q) :: rest)) := by
  subst hk
  have hlt : i.toNatClampNeg < N := Nat.not_le.mp fun z => hin (Or.inr z)
  have hcell : H[ad q]? = some (vp_cell cA (N, x_q a)) := hP q (ad q, .inl (cA, N, x_q a)) (by rw [xw_at hq, he])
  exact W.aald (v := .ref b) (ty := ty) hexec hb hcell ((hK.2 t0 _ ht).1 N (fun j => va_rf (a j))) hty (fun z => by cases z) (by show ¬ (i < 0 ∨ (arrV _ _ _).slots.size ≤ _); rw [arrV_size]; exact hin) (by show (arrV _ _ _).slots[_]? = _; rw [arrV_read _ _ hlt, hab]; rfl) rfl rfl hdg kk
theorem xr_iast (hexec : p.tables.exec = Jvm.exec) (hb : c.code = cc) (hK : va_K D vwCl tys s) (hP : va_P D vwCl (xw n ad f) H) (hD : xw_D n ad A) (hS : va_S A H0 H locs) (q t0 : Nat) (hq : q < n) {cA : ClassId} {N : Nat} {a : Nat → Int32} (he : f q = .inl (cA, N, .inl a)) (ht : tys[t0]? = some (cA, .int)) {i x : Int32} {k : Nat} (hk : i.toNatClampNeg = k) (hin : vp_in i N) (hdg : decode cc pc = .ok (.iastore, 1)) {g : Nat → va_E} (hg : ∀ j, j < n → g j = va_up f q (.inl (cA, N, .inl (upd a k x))) j)
    (kk : ∀ (H1 : Heap) (locs1 : List Loc), va_P D vwCl (xw n ad g) H1 → va_S A H0 H1 locs1 → W p l e R s m args below meth c H1 locs1 cells slots Q (F0 m (pc + 1) ls rest)) : W p l e R s m args below meth c H locs cells slots Q (F0 m pc ls (.int x :: .int i :: .ref (ad q) :: rest)) := by
  subst hk
  have hu : upd a i.toNatClampNeg (vp_nar .int x) = upd a i.toNatClampNeg x := rfl
  refine va_iast hexec hb hK hP (hD.va f) hS q t0 (by rw [xw_at hq, he]) ht hin hdg (fun H1 locs1 hP1 _ hS1 => kk H1 locs1 ?_ hS1)
  first | (rw [xw_set hg] at hP1; exact hP1) | (rw [hu, xw_set hg] at hP1; exact hP1)
theorem xr_zast (hexec : p.tables.exec = Jvm.exec) (hb : c.code = cc) (hK : va_K D vwCl tys s) (hP : va_P D vwCl (xw n ad f) H) (hD : xw_D n ad A) (hS : va_S A H0 H locs) (q t0 : Nat) (hq : q < n) {cA : ClassId} {N : Nat} {a : Nat → Int32} (he : f q = .inl (cA, N, .inl a)) (ht : tys[t0]? = some (cA, .boolean)) {i x : Int32} {k : Nat} (hk : i.toNatClampNeg = k) (hin : vp_in i N) (hdg : decode cc pc = .ok (.bastore, 1)) {g : Nat → va_E} (hg : ∀ j, j < n → g j = va_up f q (.inl (cA, N, .inl (upd a k (vp_nar .boolean x)))) j)
    (kk : ∀ (H1 : Heap) (locs1 : List Loc), va_P D vwCl (xw n ad g) H1 → va_S A H0 H1 locs1 → W p l e R s m args below meth c H1 locs1 cells slots Q (F0 m (pc + 1) ls rest)) : W p l e R s m args below meth c H locs cells slots Q (F0 m pc ls (.int x :: .int i :: .ref (ad q) :: rest)) := by
  subst hk
  exact va_zast hexec hb hK hP (hD.va f) hS q t0 (by rw [xw_at hq, he]) ht hin hdg (fun H1 locs1 hP1 _ hS1 => kk H1 locs1 (by rw [xw_set hg] at hP1; exact hP1) hS1)
theorem xr_last (hexec : p.tables.exec = Jvm.exec) (hb : c.code = cc) (hK : va_K D vwCl tys s) (hP : va_P D vwCl (xw n ad f) H) (hD : xw_D n ad A) (hS : va_S A H0 H locs) (q t0 : Nat) (hq : q < n) {cA : ClassId} {N : Nat} {a : Nat → Int64} (he : f q = .inl (cA, N, .inr (.inl a))) (ht : tys[t0]? = some (cA, .long)) {i : Int32} {x : Int64} {k : Nat} (hk : i.toNatClampNeg = k) (hin : vp_in i N) (hdg : decode cc pc = .ok (.lastore, 1)) {g : Nat → va_E} (hg : ∀ j, j < n → g j = va_up f q (.inl (cA, N, .inr (.inl (vp_updL a k x)))) j)
    (kk : ∀ (H1 : Heap) (locs1 : List Loc), va_P D vwCl (xw n ad g) H1 → va_S A H0 H1 locs1 → W p l e R s m args below meth c H1 locs1 cells slots Q (F0 m (pc + 1) ls rest)) : W p l e R s m args below meth c H locs cells slots Q (F0 m pc ls (.long x :: .int i :: .ref (ad q) :: rest)) := by
  subst hk
  exact va_last hexec hb hK hP (hD.va f) hS q t0 (by rw [xw_at hq, he]) ht hin hdg (fun H1 locs1 hP1 _ hS1 => kk H1 locs1 (by rw [xw_set hg] at hP1; exact hP1) hS1)
theorem xr_aast (hexec : p.tables.exec = Jvm.exec) (hb : c.code = cc) (hK : va_K D vwCl tys s) (hP : va_P D vwCl (xw n ad f) H) (hD : xw_D n ad A) (hS : va_S A H0 H locs) (q t0 qk ci : Nat) (hq : q < n) (hqk : qk < n) {cA : ClassId} {r : vw_C} {N : Nat} {vs : List Value} {a : Nat → Option Nat} (he : f q = .inl (cA, N, x_q a)) (ht : tys[t0]? = some (cA, .object r.1)) (hev : f qk = .inr (ci, vs)) (hc : vwCl[ci]? = some r) {i : Int32} {k : Nat} (hk : i.toNatClampNeg = k) (hin : vp_in i N) (hdg : decode cc pc = .ok (.aastore, 1)) {g : Nat → va_E} (hg : ∀ j, j < n → g j = va_up f q (.inl (cA, N, x_q (va_up a k (some (ad qk))))) j)
    (kk : ∀ (H1 : Heap) (locs1 : List Loc), va_P D vwCl (xw n ad g) H1 → va_S A H0 H1 locs1 → W p l e R s m args below meth c H1 locs1 cells slots Q (F0 m (pc + 1) ls rest)) : W p l e R s m args below meth c H locs cells slots Q (F0 m pc ls (.ref (ad qk) :: .int i :: .ref (ad q) :: rest)) := by
  subst hk
  exact va_astq hexec hb hK hP (hD.va f) hS q t0 qk ci (by rw [xw_at hq, he]) ht (by rw [xw_at hqk, hev]) hc hin hdg (fun H1 locs1 hP1 _ hS1 => kk H1 locs1 (by rw [xw_set hg] at hP1; exact hP1) hS1)
theorem xr_copyl (hexec : p.tables.exec = Jvm.exec) (hb : c.code = cc) (hml : c.maxLocals = ls.size) {own : String} {index : Nat} {Ts : List Cond} (hts : ∀ w ∈ Ts, w.before args s = true) (hown : s.vm.findClass own = some m.cls) (hlink : Cond.methodLink own index arraycopyName ∈ Ts) (hnat : Cond.native arraycopyName ∈ Ts) (hstat : Cond.static arraycopyName ∈ Ts) (hini : Cond.initialized "java/lang/System" ∈ Ts)
    (hK : va_K D vwCl tys s) (hP : va_P D vwCl (xw n ad f) H) (hD : xw_D n ad A) (hS : va_S A H0 H locs) (q0 q t0 : Nat) (hq0 : q0 < n) (hq : q < n) {cA : ClassId} {n0 n1 : Nat} {a0 a : Nat → Int64} (he0 : f q0 = .inl (cA, n0, .inr (.inl a0))) (he : f q = .inl (cA, n1, .inr (.inl a))) (ht : tys[t0]? = some (cA, .long))
    {cnt : Int32} {k : Nat} (hk : cnt.toNatClampNeg = k) (h3 : ¬ cnt < 0) (h4 : k ≤ n0) (h5 : k ≤ n1) (hframes : 1 ≤ R.frames) (hlocals : (rest.map fun v => v.category).sum + (nativeFrameWords "java/lang/System" "arraycopy" 5 + 11) ≤ R.locals) (hdg : decode cc pc = .ok (.invokestatic index, 3)) {g : Nat → va_E} (hg : ∀ j, j < n → g j = va_up f q (.inl (cA, n1, .inr (.inl (va_cpy a0 a 0 0 k)))) j)
    (kk : ∀ (H1 : Heap) (locs1 : List Loc), va_P D vwCl (xw n ad g) H1 → va_S A H0 H1 locs1 → W p l e R s m args below meth c H1 locs1 cells slots Q (F0 m (pc + 3) ls rest)) : W p l e R s m args below meth c H locs cells slots Q (F0 m pc ls (.int cnt :: .int 0 :: .ref (ad q) :: .int 0 :: .ref (ad q0) :: rest)) := by
  subst hk
  exact va_copyl hexec hb hml hown (hts _ hlink) (hts _ hnat) (hts _ hstat) (hts _ hini) hK hP (hD.va f) hS q0 q t0 t0 (by rw [xw_at hq0, he0]) (by rw [xw_at hq, he]) ht ht rfl (by decide) (by decide) h3 (by rw [show (0 : Int32).toNatClampNeg = 0 from rfl]; omega) (by rw [show (0 : Int32).toNatClampNeg = 0 from rfl]; omega) (fun _ _ => rfl) hframes hlocals hdg (fun H1 locs1 hP1 _ hS1 => kk H1 locs1 (by
    rw [show (0 : Int32).toNatClampNeg = 0 from rfl, xw_set hg] at hP1; exact hP1) hS1)
theorem xr_min_long (hexec : p.tables.exec = Jvm.exec) (hb : c.code = cc) (hml : c.maxLocals = ls.size) {own : String} {index : Nat} {Ts : List Cond} (hts : ∀ w ∈ Ts, w.before args s = true) (hown : s.vm.findClass own = some m.cls) (hlink : Cond.methodLink own index Lib.MathLoose.min_long.x ∈ Ts) (hw : (Cond.static Lib.MathLoose.min_long.x ∈ Ts) ∧ (Cond.initialized "java/lang/Math" ∈ Ts) ∧ (Cond.code Lib.MathLoose.min_long.x Lib.MathLoose.min_long.code 4 (some .long) ∈ Ts))
    (hframes : 1 ≤ R.frames) (hlocals : (rest.map fun v => v.category).sum + 15 ≤ R.locals) (hc : cells ≤ R.cells) (hs : slots ≤ R.slots) {x y : Int64} (hdg : decode cc pc = .ok (.invokestatic index, 3))
    (kk : W p l e R s m args below meth c H locs cells slots Q (F0 m (pc + 3) ls (.long (if y < x then y else x) :: rest))) : W p l e R s m args below meth c H locs cells slots Q (F0 m pc ls (.long y :: .long x :: rest)) :=
  va_mmin_long hexec hb hml hown (hts _ hlink) (hts _ hw.1) (hts _ hw.2.1) (hts _ hw.2.2) hframes hlocals hc hs hdg kk
theorem xr_if_lcmp_eq (hexec : p.tables.exec = Jvm.exec) (hb : c.code = cc) {x y : Int64} {off : Int} {tgt : Nat} (hd0 : decode cc pc = .ok (.lcmp, 1)) (hdg : decode cc (pc + 1) = .ok (.ifCond .eq off, 3)) (ht : ((pc + 1 : Nat) : Int) + off = (tgt : Int))
    (kt : x = y → W p l e R s m args below meth c H locs cells slots Q (F0 m tgt ls rest)) (kf : ¬ x = y → W p l e R s m args below meth c H locs cells slots Q (F0 m (pc + 4) ls rest)) : W p l e R s m args below meth c H locs cells slots Q (F0 m pc ls (.long y :: .long x :: rest)) :=
  W.lcmp hexec hb hd0 (lv_if_eq hexec hb hdg ht (fun h => kt ((lg_cmp_eq x y).mp h)) (fun h => kf (fun q => h ((lg_cmp_eq x y).mpr q))))
theorem xr_if_lcmp_ne (hexec : p.tables.exec = Jvm.exec) (hb : c.code = cc) {x y : Int64} {off : Int} {tgt : Nat} (hd0 : decode cc pc = .ok (.lcmp, 1)) (hdg : decode cc (pc + 1) = .ok (.ifCond .ne off, 3)) (ht : ((pc + 1 : Nat) : Int) + off = (tgt : Int))
    (kt : ¬ x = y → W p l e R s m args below meth c H locs cells slots Q (F0 m tgt ls rest)) (kf : x = y → W p l e R s m args below meth c H locs cells slots Q (F0 m (pc + 4) ls rest)) : W p l e R s m args below meth c H locs cells slots Q (F0 m pc ls (.long y :: .long x :: rest)) :=
  W.lcmp hexec hb hd0 (lv_if_ne hexec hb hdg ht (fun h => kt (fun q => h ((lg_cmp_eq x y).mpr q))) (fun h => kf ((lg_cmp_eq x y).mp h)))
theorem xr_if_lcmp_lt (hexec : p.tables.exec = Jvm.exec) (hb : c.code = cc) {x y : Int64} {off : Int} {tgt : Nat} (hd0 : decode cc pc = .ok (.lcmp, 1)) (hdg : decode cc (pc + 1) = .ok (.ifCond .lt off, 3)) (ht : ((pc + 1 : Nat) : Int) + off = (tgt : Int))
    (kt : x < y → W p l e R s m args below meth c H locs cells slots Q (F0 m tgt ls rest)) (kf : ¬ x < y → W p l e R s m args below meth c H locs cells slots Q (F0 m (pc + 4) ls rest)) : W p l e R s m args below meth c H locs cells slots Q (F0 m pc ls (.long y :: .long x :: rest)) :=
  W.lcmp hexec hb hd0 (lv_if_lt hexec hb hdg ht (fun h => kt ((lg_cmp_lt x y).mp h)) (fun h => kf (fun q => h ((lg_cmp_lt x y).mpr q))))
theorem xr_if_lcmp_ge (hexec : p.tables.exec = Jvm.exec) (hb : c.code = cc) {x y : Int64} {off : Int} {tgt : Nat} (hd0 : decode cc pc = .ok (.lcmp, 1)) (hdg : decode cc (pc + 1) = .ok (.ifCond .ge off, 3)) (ht : ((pc + 1 : Nat) : Int) + off = (tgt : Int))
    (kt : y ≤ x → W p l e R s m args below meth c H locs cells slots Q (F0 m tgt ls rest)) (kf : ¬ y ≤ x → W p l e R s m args below meth c H locs cells slots Q (F0 m (pc + 4) ls rest)) : W p l e R s m args below meth c H locs cells slots Q (F0 m pc ls (.long y :: .long x :: rest)) :=
  W.lcmp hexec hb hd0 (lv_if_ge hexec hb hdg ht (fun h => kt ((lg_cmp_ge x y).mp h)) (fun h => kf (fun q => h ((lg_cmp_ge x y).mpr q))))
theorem xr_if_lcmp_gt (hexec : p.tables.exec = Jvm.exec) (hb : c.code = cc) {x y : Int64} {off : Int} {tgt : Nat} (hd0 : decode cc pc = .ok (.lcmp, 1)) (hdg : decode cc (pc + 1) = .ok (.ifCond .gt off, 3)) (ht : ((pc + 1 : Nat) : Int) + off = (tgt : Int))
    (kt : y < x → W p l e R s m args below meth c H locs cells slots Q (F0 m tgt ls rest)) (kf : ¬ y < x → W p l e R s m args below meth c H locs cells slots Q (F0 m (pc + 4) ls rest)) : W p l e R s m args below meth c H locs cells slots Q (F0 m pc ls (.long y :: .long x :: rest)) :=
  W.lcmp hexec hb hd0 (lv_if_gt hexec hb hdg ht (fun h => kt ((lg_cmp_gt x y).mp h)) (fun h => kf (fun q => h ((lg_cmp_gt x y).mpr q))))
theorem xr_if_lcmp_le (hexec : p.tables.exec = Jvm.exec) (hb : c.code = cc) {x y : Int64} {off : Int} {tgt : Nat} (hd0 : decode cc pc = .ok (.lcmp, 1)) (hdg : decode cc (pc + 1) = .ok (.ifCond .le off, 3)) (ht : ((pc + 1 : Nat) : Int) + off = (tgt : Int))
    (kt : x ≤ y → W p l e R s m args below meth c H locs cells slots Q (F0 m tgt ls rest)) (kf : ¬ x ≤ y → W p l e R s m args below meth c H locs cells slots Q (F0 m (pc + 4) ls rest)) : W p l e R s m args below meth c H locs cells slots Q (F0 m pc ls (.long y :: .long x :: rest)) :=
  W.lcmp hexec hb hd0 (lv_if_le hexec hb hdg ht (fun h => kt ((lg_cmp_le x y).mp h)) (fun h => kf (fun q => h ((lg_cmp_le x y).mpr q))))
/-- a call's start, any world -/
theorem xr_blind {av : List Value} {W0 : va_W} {cl : List vw_C} : FrameBlind (va_Pc av (fun U => va_P D cl W0 U.heap ∧ va_K D cl tys U)) := fun a U g mk q => by
  obtain ⟨q0, qP, qK⟩ := q
  exact ⟨q0, qP, va_K.moved (u := U) (U := U.calling g mk a) (Vm.Alike.refl U.vm) qK⟩
theorem xr_pre {av : List Value} {W0 : va_W} {cl : List vw_C} (hP : va_P D cl W0 H) (hK : va_K D cl tys s) : ∀ U : State, U.heap = H → s.WarmedH U.vm → va_Pc av (fun U => va_P D cl W0 U.heap ∧ va_K D cl tys U) av.toArray U := fun U hU hW => ⟨rfl, by rw [hU]; exact hP, va_K.moved hW.alike hK⟩
theorem xr_recv (hK : va_K D vwCl tys s) (hP : va_P D vwCl (xw n ad f) H) (q : Nat) (hq : q < n) {ci : Nat} {fs : List Value} {r : vw_C} (he : f q = .inr (ci, fs)) (hc : vwCl[ci]? = some r) : ∃ cell : Cell, H[ad q]? = some cell ∧ cell.vm.isStatics = false ∧ s.vm.findClass r.1 = some cell.cls := va_recv hK hP hc (by rw [xw_at hq, he])
end XR
theorem x_ht {D : va_G} {cl : List vw_C} {w : va_W} {H : Heap} {t : State} (ht : t.heap = H) (hP : va_P D cl w H) : va_P D cl w t.heap := by rw [ht]; exact hP
theorem x_th {D : va_G} {cl : List vw_C} {w : va_W} {H : Heap} {t : State} (ht : t.heap = H) (hP : va_P D cl w t.heap) : va_P D cl w H := by rw [← ht]; exact hP
theorem x_lt {i : Int32} {n : Nat} (h : vp_in i n) : i.toNatClampNeg < n := Nat.not_le.mp fun q => h (Or.inr q)
theorem x_oth {α : Type} {f : Nat → α} {j k : Nat} {v o : α} (h : k ≠ j) (ho : f k = o) : va_up f j v k = o := by rw [va_up_ne _ _ h]; exact ho
theorem x_sw8 {x : Int32} (h0 : ¬ x = 0) (h1 : ¬ x = 1) (h2 : ¬ x = 2) (h3 : ¬ x = 3) (h4 : ¬ x = 4) (h5 : ¬ x = 5) (h6 : ¬ x = 6) (h7 : ¬ x = 7) : x.toInt < 0 ∨ 7 < x.toInt := by
  have a0 := lv_neT (a := 0) h0 (by decide)
  have a1 := lv_neT (a := 1) h1 (by decide)
  have a2 := lv_neT (a := 2) h2 (by decide)
  have a3 := lv_neT (a := 3) h3 (by decide)
  have a4 := lv_neT (a := 4) h4 (by decide)
  have a5 := lv_neT (a := 5) h5 (by decide)
  have a6 := lv_neT (a := 6) h6 (by decide)
  have a7 := lv_neT (a := 7) h7 (by decide)
  omega
