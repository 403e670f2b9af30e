/-! THE CLAIM OUT OF ONE WALK OF THE LAW'S BODY. Your part is whole_start (and what it stands on); all else here is the same for every law, but numbers. -/
def R_law : String := "DueWheelsLaw"
def lw_P (b : Addr) (xs : List Int32) (args : Array Value) (s : State) : Prop := args = #[.ref b] ∧ s.IntsAt b xs ∧ xs.length ≤ 3584 ∧ (Jvm.Cond.and given_1 narrow_1).before args s = true
def lw_Q (_ : Array Value) (s : State) (o : Outcome) (t : State) : Prop := o = .returned (some (.int 1)) ∧ Framed s o t [] 600000 7302250
def lw_Z (below : List Frame) (a : Array Value) (s : State) : State → Prop := fun t => ∃ o, t.status = .running ∧ Ended t below o ∧ lw_Q a s o t
/-- the law's own end, with 1 on the stack, nothing written that was there before, its room as the claim has it -/
theorem lw_ret {p : Program} {l : Launch} {e : Env} {s : State} {m : MethodId} {below : List Frame} {meth : Method} {c : Code} {b : Nat} (hx : p.tables.exec = Jvm.exec) (hb : c.code = code) (hr : meth.sig.returnType = ret) (hlocks : meth.locks = false) {pc : Nat} {H : Heap} {ls : Array Slot} (hdg : decode code pc = .ok (.ireturn, 1)) : W p l e room_1 s m #[Value.ref b] below meth c H [] 600000 7302250 (lw_Z below #[Value.ref b] s) (F0 m pc ls [.int 1]) := by
  intro T hT X
  obtain ⟨fs, hret, hrun, hended, hW, hframe⟩ := X.leave (v := some (.int 1)) (hlocks := hlocks) (fun h => by rw [hr] at h; cases h)
  have hmeth' : T.vm.method? m = some meth := X.method'
  refine ⟨T.setFrames fs, ?_, .returned (some (.int 1)), hrun, hended, rfl, ⟨_, rfl⟩, hW, hframe⟩
  jvm_step X.here [X.here.top, hx, hb, hdg, hmeth', hr, ret, narrow_b1]
  (try refine ⟨rfl, ?_⟩); (try refine ⟨rfl, ?_⟩)
  first | (intro acts; rw [hret _ acts rfl rfl rfl]) | rw [hret _ _ rfl rfl rfl]
  exact Steps.refl _
/-- what holds at the law's entry: the machine, the code, the tables' words (any of lw_tbl by 'hts w (by decide +kernel)'), the script of L ints xs at the cell b, what the Statement gives of the start (any of its parts by flat_of_before) -/
def lw_At (p : Program) (s : State) (m : MethodId) (meth : Method) (c : Code) (b L : Nat) (xs : Nat → Int32) : Prop :=
  p.tables.exec = Jvm.exec ∧ c.code = code ∧ meth.sig.returnType = ret ∧ c.maxLocals = 4 ∧ s.vm.findClass R_law = some m.cls ∧ (∀ w ∈ lw_tbl, w.before #[Value.ref b] s = true) ∧ va_X b L xs s s.heap ∧ b < s.heap.size ∧ meth.locks = false ∧ (Jvm.Cond.and given_1 narrow_1).before #[Value.ref b] s = true
/-- what the class's calls may write: what is new since the law began, but for the model's cells -/
def Ac (s : State) (am : Nat → Nat) (q : Nat) : Prop := s.heap.size ≤ q ∧ ∀ j, j < 7 → q ≠ am j
def LC (s : State) (dC : Nat → ClassId) (dI : Nat → Nat → Nat) (ci : Nat → ClassId) (am : Nat → Nat) : Prop := va_K (dC, dI) vwCl (xT ci) s ∧ xN s ∧ (∀ i j, i < 7 → j < 7 → am i = am j → i = j) ∧ ∀ k, k < 7 → s.heap.size ≤ am k
def Ax (n : Nat) (ad : Nat → Nat) (q : Nat) : Prop := ∃ k, k < n ∧ q = ad k
theorem Ax_D {n : Nat} {ad : Nat → Nat} (h : ∀ i j, i < n → j < n → ad i = ad j → i = j) : xw_D n ad (Ax n ad) := ⟨h, fun i hi => ⟨i, hi, rfl⟩⟩
def LX (s : State) (dC : Nat → ClassId) (dI : Nat → Nat → Nat) (a0 : Nat) (ci : Nat → ClassId) (am : Nat → Nat) (H : Heap) (locs : List Loc) : Prop := ∃ (Z : Zt) (st : Nat → StV) (ln : Nat → LnV) (sv : SvV) (kv : KvV) (cu : Nat) (r : MmV), KI st kv cu Z ∧ MK r Z ∧ IZ Z ∧ xB (dC, dI) ci (Ac s am) a0 st ln sv kv cu H ∧ va_P (dC, dI) vwCl (xw 7 am (mc am ci r)) H ∧ va_S (fun q : Nat => s.heap.size ≤ q) s.heap H locs
theorem keepA {D : va_G} {s : State} {am : Nat → Nat} {f : Nat → va_E} {H H1 : Heap} (hP : va_P D vwCl (xw 7 am f) H) (hk : ∀ q : Nat, q < H.size → ¬ Ac s am q → H1[q]? = H[q]?) : va_P D vwCl (xw 7 am f) H1 := hP.kept (fun i q hq => by
  obtain ⟨h1, rfl⟩ := xw_of hq
  exact hk _ (hP i _ hq).lt (fun z => z.2 i h1 rfl))
theorem newA {D : va_G} {s : State} {am : Nat → Nat} {f : Nat → va_E} {H : Heap} (hs : s.heap.size ≤ H.size) (hP : va_P D vwCl (xw 7 am f) H) : ∀ q : Nat, H.size ≤ q → Ac s am q := fun q hq => ⟨Nat.le_trans hs hq, fun j hj e => by
  have h1 := (hP j _ (xw_at hj)).lt
  have h2 : am j < H.size := h1
  omega⟩
theorem xB_recv {D : va_G} {ci : Nat → ClassId} {A : Nat → Prop} {a0 : Nat} {st : Nat → StV} {ln : Nat → LnV} {sv : SvV} {kv : KvV} {cu : Nat} {H : Heap} {s : State} (hK : va_K D vwCl (xT ci) s) (hB : xB D ci A a0 st ln sv kv cu H) : ∃ cell : Cell, H[a0]? = some cell ∧ cell.vm.isStatics = false ∧ s.vm.findClass RX6 = some cell.cls := by
  obtain ⟨ad, ns, hns, h0, hAD, hcu, hP⟩ := hB
  subst h0
  exact xr_recv (r := (RX6, TX6, 4)) hK hP 0 (xq_c (by decide)) xe_X rfl
theorem xB_keep {D : va_G} {ci : Nat → ClassId} {a0 : Nat} {st : Nat → StV} {ln : Nat → LnV} {sv : SvV} {kv : KvV} {cu : Nat} {H H1 : Heap} {s : State} {am : Nat → Nat} (hB : xB D ci (Ac s am) a0 st ln sv kv cu H) (hk : ∀ q : Nat, q < H.size → ¬ Ax 7 am q → H1[q]? = H[q]?) : xB D ci (Ac s am) a0 st ln sv kv cu H1 := by
  obtain ⟨ad, ns, hns, h0, hAD, hcu, hP⟩ := hB
  refine ⟨ad, ns, hns, h0, hAD, hcu, hP.kept (fun i q hq => ?_)⟩
  obtain ⟨h1, rfl⟩ := xw_of hq
  refine hk _ (hP i _ hq).lt ?_
  rintro ⟨j, hj, e⟩
  exact (hAD.2 i h1).2 j hj e
abbrev sI (xs : Nat → Int32) (i : Nat) (k : Int32) : Int32 := xs (nI i + k).toNatClampNeg
abbrev sJ (xs : Nat → Int32) (i : Nat) (k k2 : Int32) : Int64 := ((sI xs i k).toInt64 <<< ((32 : Int32).toInt64 &&& 63)) ||| ((sI xs i k2).toInt64 &&& (4294967295 : Int64))
theorem wL_k13 : Cond.constantLong RL 13 (4294967295) ∈ wsL_law := List.mem_append_left _ (List.mem_append_left _ (List.mem_append_left _ (List.mem_append_left _ (List.mem_append_left _ (List.mem_append_left _ (List.mem_append_left _ (List.mem_append_left _ (List.mem_append_left _ (List.mem_of_getElem? (i := 6) rfl)))))))))
theorem s_in {i L : Nat} (hi : i + 7 ≤ L) (hL : L ≤ 3584) {k : Int32} (j : Nat) (hk : k = nI j) (hj : j < 7) : vp_in (nI i + k) L := by rw [hk, nI_add]; exact vp_in_nI (by omega) (by omega)
