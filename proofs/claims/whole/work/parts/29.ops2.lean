/-! what always holds of the abstract state; rest, wake, shift, drop; both sides -/
def RI (tm : Int64) (g : Nat → Int64) : Prop :=
  (g 0 = 0 ∨ g 0 = 1 ∨ g 0 = 2 ∨ g 0 = 3 ∨ g 0 = 4) ∧ (g 2 ≠ (-2000000005 : Int64) → tm < g 2 ∧ g 2 ≤ (1125899906842624 : Int64)) ∧ (g 0 = 2 → 0 ≤ g 3 ∧ g 2 ≠ (-2000000005 : Int64)) ∧ (g 0 ≠ 2 → g 3 = (-2000000005 : Int64)) ∧
  (g 0 = 1 ∨ g 0 = 4 → 1 ≤ g 4 ∧ g 4 ≤ (1125899906842624 : Int64) ∧ 0 ≤ g 5 ∧ g 5 ≤ 1000000) ∧ (¬ (g 0 = 1 ∨ g 0 = 4) → g 4 = (-2000000005 : Int64) ∧ g 5 = (-2000000005 : Int64)) ∧ (g 6 ≠ (-2000000005 : Int64) → g 0 = 3 ∧ g 2 = (-2000000005 : Int64)) ∧
  (g 0 = 3 → 1 ≤ g 9 ∧ g 9 ≤ (1125899906842624 : Int64) ∧ 0 ≤ g 10 ∧ g 10 ≤ (1125899906842624 : Int64)) ∧ (g 7 ≠ (-2000000005 : Int64) → g 0 = 4 ∧ g 2 = (-2000000005 : Int64) ∧ 1 ≤ g 7 ∧ g 7 ≤ (1125899906842624 : Int64)) ∧ (g 2 = (-2000000005 : Int64) → (g 6 ≠ (-2000000005 : Int64) ∨ g 7 ≠ (-2000000005 : Int64)) ∧ g 11 = 0)
def AC (T : StV) : Prop := ∃ r : Nat → Nat, ∀ i k, s_du T 6 i = lN k → k < 200 → r k < r i
def IT (T : StV) : Prop := (0 ≤ s_tm T ∧ s_tm T < (1125899906842624 : Int64)) ∧ (∀ i, s_du T 0 i ≠ (-2000000005 : Int64) → RI (s_tm T) (fun f => s_du T f i)) ∧ (∀ i f, s_du T 0 i = (-2000000005 : Int64) → s_du T f i = (-2000000005 : Int64)) ∧ (∀ i, 200 ≤ i → s_du T 0 i = (-2000000005 : Int64)) ∧ (∀ i, s_du T 6 i ≠ (-2000000005 : Int64) → ∃ k, k < 200 ∧ s_du T 6 i = lN k ∧ s_du T 0 k ≠ (-2000000005 : Int64)) ∧ AC T
theorem IT.ri {T : StV} (h : IT T) {i : Nat} (hi : s_du T 0 i ≠ (-2000000005 : Int64)) : RI (s_tm T) (fun f => s_du T f i) := h.2.1 i hi
theorem IT.there {T : StV} (h : IT T) {i f : Nat} (hi : s_du T f i ≠ (-2000000005 : Int64)) : s_du T 0 i ≠ (-2000000005 : Int64) := fun q => hi (h.2.2.1 i f q)
theorem IT.ah3 {T : StV} (h : IT T) : ∀ i, s_du T 6 i ≠ (-2000000005 : Int64) → s_du T 0 i = 3 := fun i hi => ((h.ri (h.there hi)).2.2.2.2.2.2.1 hi).1
def zRest (Z : Zt) (x : Int32) : Int64 × Zt :=
  if ¬ dI Z.1 x then ((-2000000001 : Int64), Z) else if s_du Z.1 0 x.toNatClampNeg ≠ 4 ∨ s_du Z.1 7 x.toNatClampNeg ≠ (-2000000005 : Int64) then ((-2000000002 : Int64), Z)
  else (s_du Z.1 2 x.toNatClampNeg - s_tm Z.1, (s_wdu (s_wdu (s_wdu Z.1 7 x.toNatClampNeg (s_du Z.1 2 x.toNatClampNeg - s_tm Z.1)) 2 x.toNatClampNeg (-2000000005 : Int64)) 11 x.toNatClampNeg 0, (zKeep Z).2))
theorem cRest {st : Nat → StV} {kv : KvV} {cu : Nat} {Z : Zt} (h : KI st kv cu Z) {x : Int32} {post : Int64 → (Nat → StV) → KvV → Prop} (hp : ∀ st' kv', KI st' kv' cu (zRest Z x).2 → post (zRest Z x).1 st' kv') : PX6_rest st kv cu x post := by
  unfold PX6_rest
  refine cIsDue2 h.cs (fun d hin => b1 ?_) (fun d => b0 ?_)
  · obtain ⟨k, hk, ex, ek, -, hd⟩ := h.cs.k d
    have no : (s_du Z.1 0 k ≠ 4 ∨ s_du Z.1 7 k ≠ (-2000000005 : Int64)) → post (-2000000002 : Int64) st kv := fun q => by
      have e : zRest Z x = ((-2000000002 : Int64), Z) := by unfold zRest; rw [if_neg (fun z => z d), ek, if_pos q]
      rw [e] at hp
      exact hp _ _ h
    rw [ek, h.cs.f hd (by omega) (by omega) (by omega), h.cs.f (f := 7) hd (by omega) (by omega) (by omega)]
    refine ⟨hin, fun q => ⟨hin, fun q2 => ?_, fun q2 => no (Or.inr q2)⟩, fun q => no (Or.inl q)⟩
    have e : zRest Z x = (s_du Z.1 2 k - s_tm Z.1, (s_wdu (s_wdu (s_wdu Z.1 7 k (s_du Z.1 2 k - s_tm Z.1)) 2 k (-2000000005 : Int64)) 11 k 0, (zKeep Z).2)) := by
      unfold zRest
      rw [if_neg (fun z => z d), ek, if_neg (fun z => z.elim (fun z => z q) (fun z => z q2))]
    rw [e] at hp
    refine cKeep h (fun st1 kv1 hk1 => ⟨hin, ?_⟩)
    have hc : CS (st1 cu) Z.1 := hk1.cs
    rintro _ rfl
    refine ⟨hin, ?_⟩
    rintro _ rfl
    refine ⟨hin, ?_⟩
    rintro _ rfl
    refine ⟨hin, ?_⟩
    rintro _ rfl
    rw [va_up_self, va_up_self, bx_uu, bx_uu, hc.f (f := 2) hd (by omega) (by omega) (by omega), hc.tm]
    refine hp _ _ (hk1.upd ?_)
    exact ((hc.put (f := 7) hd (by omega) (by omega) (by omega)).put (f := 2) (th_wdu (by omega) hd) (by omega) (by omega) (by omega)).put (f := 11) (th_wdu (by omega) (th_wdu (by omega) hd)) (by omega) (by omega) (by omega)
  · have e : zRest Z x = ((-2000000001 : Int64), Z) := by unfold zRest; rw [if_pos d]
    rw [e] at hp
    exact hp _ _ h
theorem mRest {r : MmV} {Z : Zt} (h : MK r Z) {x : Int32} {post : Int64 → MmV → Prop} (hp : ∀ r', MK r' (zRest Z x).2 → post (zRest Z x).1 r') : PX7_rest r x post := by
  unfold PX7_rest
  refine mIsDue rfl h.1 (fun d => b1 ?_) (fun d => b0 ?_)
  · obtain ⟨k, hk, ex, ek, hd⟩ := h.1.k d
    have no : (s_du Z.1 0 k ≠ 4 ∨ s_du Z.1 7 k ≠ (-2000000005 : Int64)) → post (-2000000002 : Int64) r := fun q => by
      have e : zRest Z x = ((-2000000002 : Int64), Z) := by unfold zRest; rw [if_neg (fun z => z d), ek, if_pos q]
      rw [e] at hp
      exact hp _ h
    have e0 : m_s r (14 * k + 1) = s_du Z.1 0 k := h.1.f (f := 0) hd (by omega) (by omega) (by omega)
    refine mGet rfl ex hk (c := 1) rfl (by omega) ?_
    rw [e0]
    refine ⟨fun q => mRests rfl h.1 hk ex (fun _ q2 => b1 (no (Or.inr q2))) (fun q2 => b0 ?_), fun q => no (Or.inl q)⟩
    have e : zRest Z x = (s_du Z.1 2 k - s_tm Z.1, (s_wdu (s_wdu (s_wdu Z.1 7 k (s_du Z.1 2 k - s_tm Z.1)) 2 k (-2000000005 : Int64)) 11 k 0, (zKeep Z).2)) := by
      unfold zRest
      rw [if_neg (fun z => z d), ek, if_neg (fun z => z.elim (fun z => z q) (fun z => z q2))]
    rw [e] at hp
    refine mKeep h (fun r1 hr1 _ => ?_)
    have hm : MS (m_s r1) Z.1 := hr1.1
    refine mGet rfl ex hk (c := 3) rfl (by omega) ?_
    have e2 : m_s r1 (14 * k + 3) = s_du Z.1 2 k := hm.f (f := 2) hd (by omega) (by omega) (by omega)
    rintro _ rfl
    rw [e2, hm.tm]
    refine mPut rfl ex hk (c := 10) rfl (by omega) (mPut2 ex hk (c := 3) rfl (by omega) (mPut2 ex hk (c := 12) rfl (by omega) ?_))
    exact hp _ (hr1.ws (MS.put (f := 11) (MS.put (f := 2) (MS.put (f := 7) hm hd (by omega) (by omega) (by omega)) (th_wdu (by omega) hd) (by omega) (by omega) (by omega)) (th_wdu (by omega) (th_wdu (by omega) hd)) (by omega) (by omega) (by omega)))
  · have e : zRest Z x = ((-2000000001 : Int64), Z) := by unfold zRest; rw [if_pos d]
    rw [e] at hp
    exact hp _ h
def zWake (Z : Zt) (x : Int32) : Int64 × Zt :=
  if ¬ dI Z.1 x then ((-2000000001 : Int64), Z) else if s_du Z.1 7 x.toNatClampNeg = (-2000000005 : Int64) then ((-2000000002 : Int64), Z)
  else (mn (s_tm Z.1 + s_du Z.1 7 x.toNatClampNeg), (aPlace (aTick (s_wdu Z.1 7 x.toNatClampNeg (-2000000005 : Int64)) x.toNatClampNeg (mn (s_tm Z.1 + s_du Z.1 7 x.toNatClampNeg))) x.toNatClampNeg, (zKeep Z).2))
theorem th_tick {T : StV} {k i : Nat} {t : Int64} (h : s_du T 0 i ≠ (-2000000005 : Int64)) : s_du (aTick T k t) 0 i ≠ (-2000000005 : Int64) := th_wdu (by omega) (th_wdu (by omega) h)
theorem aTick_tm (T : StV) (k : Nat) (t : Int64) : s_tm (aTick T k t) = s_tm T := rfl
theorem aTick_2 (T : StV) (k : Nat) (t : Int64) : s_du (aTick T k t) 2 k = t := by unfold aTick; rw [du_wdu, if_neg (by omega), du_wdu, if_pos ⟨rfl, rfl⟩]
theorem aPlace_du (T : StV) (k f i : Nat) : s_du (aPlace T k) f i = if f = 8 ∧ i = k then s_pl T else s_du T f i := by
  unfold aPlace
  rw [s_wpl_s_du, du_wdu]
theorem cWake {st : Nat → StV} {kv : KvV} {cu : Nat} {Z : Zt} (h : KI st kv cu Z) {x : Int32} {post : Int64 → (Nat → StV) → KvV → Prop} (hp : ∀ st' kv', KI st' kv' cu (zWake Z x).2 → post (zWake Z x).1 st' kv') : PX6_wake st kv cu x post := by
  unfold PX6_wake
  refine cIsDue2 h.cs (fun d hin => b1 ?_) (fun d => b0 ?_)
  · obtain ⟨k, hk, ex, ek, -, hd⟩ := h.cs.k d
    refine ⟨hin, ?_⟩
    rintro _ rfl
    rw [ek, h.cs.f (f := 7) hd (by omega) (by omega) (by omega)]
    refine ⟨fun q => ?_, fun q => ?_⟩
    · have e : zWake Z x = ((-2000000002 : Int64), Z) := by unfold zWake; rw [if_neg (fun z => z d), ek, if_pos q]
      rw [e] at hp
      exact hp _ _ h
    · have e : zWake Z x = (mn (s_tm Z.1 + s_du Z.1 7 k), (aPlace (aTick (s_wdu Z.1 7 k (-2000000005 : Int64)) k (mn (s_tm Z.1 + s_du Z.1 7 k))) k, (zKeep Z).2)) := by
        unfold zWake
        rw [if_neg (fun z => z d), ek, if_neg q]
      rw [e] at hp
      refine cKeep h (fun st1 kv1 hk1 => ⟨hin, ?_⟩)
      have hc : CS (st1 cu) Z.1 := hk1.cs
      rintro _ rfl
      rw [va_up_self]
      have h7 := hc.put (f := 7) (x := (-2000000005 : Int64)) hd (by omega) (by omega) (by omega)
      have d7 := th_wdu (f := 7) (k := k) (x := (-2000000005 : Int64)) (by omega) hd
      rw [tm_wdu, hc.tm]
      refine cSetTick h7 ex hk d7 (fun v2 hv2 => ?_)
      rintro _ rfl
      rw [va_up_self, bx_uu]
      refine cSetPlace hv2 ex hk (th_tick d7) (fun v3 hv3 => ?_)
      rintro _ rfl
      rw [va_up_self, bx_uu]
      refine ⟨hin, ?_⟩
      have d3 : s_du (aPlace (aTick (s_wdu Z.1 7 k (-2000000005 : Int64)) k (mn (s_tm Z.1 + s_du Z.1 7 k))) k) 0 k ≠ (-2000000005 : Int64) := by rw [aPlace_du, if_neg (by omega)]; exact th_tick d7
      rw [hv3.f (f := 2) d3 (by omega) (by omega) (by omega), aPlace_du, if_neg (by omega), aTick_2]
      exact hp _ _ (hk1.upd hv3)
  · have e : zWake Z x = ((-2000000001 : Int64), Z) := by unfold zWake; rw [if_pos d]
    rw [e] at hp
    exact hp _ _ h
theorem mWake {r : MmV} {Z : Zt} (h : MK r Z) {x : Int32} {post : Int64 → MmV → Prop} (hp : ∀ r', MK r' (zWake Z x).2 → post (zWake Z x).1 r') : PX7_wake r x post := by
  unfold PX7_wake
  refine mIsDue rfl h.1 (fun d => b1 ?_) (fun d => b0 ?_)
  · obtain ⟨k, hk, ex, ek, hd⟩ := h.1.k d
    refine mRests rfl h.1 hk ex (fun _ q => b1 ?_) (fun q => b0 ?_)
    · have e : zWake Z x = (mn (s_tm Z.1 + s_du Z.1 7 k), (aPlace (aTick (s_wdu Z.1 7 k (-2000000005 : Int64)) k (mn (s_tm Z.1 + s_du Z.1 7 k))) k, (zKeep Z).2)) := by
        unfold zWake
        rw [if_neg (fun z => z d), ek, if_neg q]
      rw [e] at hp
      refine mKeep h (fun r1 hr1 _ => ?_)
      have hm : MS (m_s r1) Z.1 := hr1.1
      refine mGet rfl ex hk (c := 10) rfl (by omega) ?_
      have e2 : m_s r1 (14 * k + 10) = s_du Z.1 7 k := hm.f (f := 7) hd (by omega) (by omega) (by omega)
      have d7 := th_wdu (f := 7) (k := k) (x := (-2000000005 : Int64)) (by omega) hd
      have h7 : MS (vp_updL (m_s r1) (14 * k + 10) (-2000000005 : Int64)) (s_wdu Z.1 7 k (-2000000005 : Int64)) := MS.put (f := 7) hm hd (by omega) (by omega) (by omega)
      rintro _ rfl
      rw [e2, hm.tm]
      refine ⟨fun q2 => ?_, fun q2 => ?_⟩
      · have em : mn (s_tm Z.1 + s_du Z.1 7 k) = s_tm Z.1 + s_du Z.1 7 k := by unfold mn; rw [if_neg (Int64.not_lt.mpr q2)]
        rw [em] at hp
        refine mPut rfl ex hk (c := 10) rfl (by omega) (mTick2 h7 ex d7 (fun s2 hs2 => mLine2 hs2 ex (th_tick d7) (fun s3 hs3 => ?_)))
        exact hp _ (hr1.ws hs3)
      · have em : mn (s_tm Z.1 + s_du Z.1 7 k) = (1125899906842624 : Int64) := by unfold mn; rw [if_pos (Int64.not_le.mp q2)]
        rw [em] at hp
        refine mPut rfl ex hk (c := 10) rfl (by omega) (mTick2 h7 ex d7 (fun s2 hs2 => mLine2 hs2 ex (th_tick d7) (fun s3 hs3 => ?_)))
        exact hp _ (hr1.ws hs3)
    · have e : zWake Z x = ((-2000000002 : Int64), Z) := by unfold zWake; rw [if_neg (fun z => z d), ek, if_pos q]
      rw [e] at hp
      exact hp _ h
  · have e : zWake Z x = ((-2000000001 : Int64), Z) := by unfold zWake; rw [if_pos d]
    rw [e] at hp
    exact hp _ h
/-- shift -/
def mx0 (z : Int64) : Int64 := if 0 < z then z else 0
def aShift (T : StV) (k : Nat) (d : Int64) : StV := aPlace (if s_du T 0 k = 2 then s_wdu (aTick T k (s_du T 2 k + d)) 3 k (mx0 (s_du T 3 k + d)) else aTick T k (s_du T 2 k + d)) k
abbrev shBad (T : StV) (x : Int32) (d : Int64) : Prop := ¬ dI T x ∨ d < -1125899906842624 ∨ (1125899906842624 : Int64) < d
def zShift (Z : Zt) (x : Int32) (d : Int64) : Int64 × Zt :=
  if shBad Z.1 x d then ((-2000000001 : Int64), Z) else if s_du Z.1 2 x.toNatClampNeg = (-2000000005 : Int64) then ((-2000000002 : Int64), Z) else if tBad Z.1 (s_du Z.1 2 x.toNatClampNeg + d) then ((-2000000001 : Int64), Z)
  else (s_du Z.1 2 x.toNatClampNeg + d, (aShift Z.1 x.toNatClampNeg d, (zKeep Z).2))
theorem cShift {st : Nat → StV} {kv : KvV} {cu : Nat} {Z : Zt} (h : KI st kv cu Z) (hI : IT Z.1) {x : Int32} {d : Int64} {post : Int64 → (Nat → StV) → KvV → Prop} (hp : ∀ st' kv', KI st' kv' cu (zShift Z x d).2 → post (zShift Z x d).1 st' kv') : PX6_shift st kv cu x d post := by
  unfold PX6_shift
  have bad : shBad Z.1 x d → post (-2000000001 : Int64) st kv := fun q => by
    have e : zShift Z x d = ((-2000000001 : Int64), Z) := by unfold zShift; rw [if_pos q]
    rw [e] at hp
    exact hp _ _ h
  refine cIsDue2 h.cs (fun dd hin => b1 ⟨fun q => bad (Or.inr (Or.inl q)), fun q => ⟨fun q2 => ⟨hin, ?_⟩, fun q2 => bad (Or.inr (Or.inr (Int64.not_le.mp q2)))⟩⟩) (fun dd => b0 (bad (Or.inl dd)))
  obtain ⟨k, hk, ex, ek, -, hd⟩ := h.cs.k dd
  have ok : ¬ shBad Z.1 x d := fun z => z.elim (fun z => z dd) (fun z => z.elim q (fun z => Int64.not_le.mpr z q2))
  rintro _ rfl
  rw [ek, h.cs.f (f := 2) hd (by omega) (by omega) (by omega)]
  refine ⟨fun q3 => ?_, fun q3 => cTickA h.cs (fun q4 => b0 ?_) (fun q4 => b1 ?_)⟩
  · have e : zShift Z x d = ((-2000000002 : Int64), Z) := by unfold zShift; rw [if_neg ok, ek, if_pos q3]
    rw [e] at hp
    exact hp _ _ h
  · have e : zShift Z x d = ((-2000000001 : Int64), Z) := by unfold zShift; rw [if_neg ok, ek, if_neg q3, if_pos q4]
    rw [e] at hp
    exact hp _ _ h
  · have e : zShift Z x d = (s_du Z.1 2 k + d, (aShift Z.1 k d, (zKeep Z).2)) := by unfold zShift; rw [if_neg ok, ek, if_neg q3, if_neg q4]
    rw [e] at hp
    refine cKeep h (fun st1 kv1 hk1 => ⟨hin, ?_⟩)
    have hc : CS (st1 cu) Z.1 := hk1.cs
    rintro _ rfl
    rw [hc.f (f := 3) hd (by omega) (by omega) (by omega)]
    obtain ⟨-, -, r3, r4, -⟩ := hI.ri hd
    refine ⟨fun q5 => ?_, fun q5 => ⟨hin, ?_⟩⟩
    · have k2 : ¬ s_du Z.1 0 k = 2 := fun z => by
        have : 0 ≤ s_du Z.1 3 k := (r3 z).1
        have q5' : s_du Z.1 3 k = (-2000000005 : Int64) := q5
        rw [q5'] at this
        exact absurd this (by decide)
      refine cSetTick hc ex hk hd (fun v2 hv2 => ?_)
      rintro _ rfl
      rw [va_up_self]
      refine cSetPlace hv2 ex hk (th_tick hd) (fun v3 hv3 => ?_)
      rintro _ rfl
      rw [bx_uu]
      rw [mn_ok q4] at hv3
      refine hp _ _ (hk1.upd ?_)
      unfold aShift
      rw [if_neg k2]
      exact hv3
    · have k2 : s_du Z.1 0 k = 2 := by
        by_cases z : s_du Z.1 0 k = 2
        · exact z
        · exact absurd (r4 z) q5
      rintro _ rfl
      rw [va_up_self]
      have h3 := hc.put (f := 3) (x := (if 0 < s_du Z.1 3 k + d then s_du Z.1 3 k + d else 0)) hd (by omega) (by omega) (by omega)
      refine cSetTick h3 ex hk (th_wdu (by omega) hd) (fun v2 hv2 => ?_)
      rintro _ rfl
      rw [va_up_self, bx_uu]
      refine cSetPlace hv2 ex hk (th_tick (th_wdu (by omega) hd)) (fun v3 hv3 => ?_)
      rintro _ rfl
      rw [bx_uu]
      rw [mn_ok q4] at hv3
      refine hp _ _ (hk1.upd ?_)
      unfold aShift
      rw [if_pos k2]
      have e2 : aTick (s_wdu Z.1 3 k (if 0 < s_du Z.1 3 k + d then s_du Z.1 3 k + d else 0)) k (s_du Z.1 2 k + d) = s_wdu (aTick Z.1 k (s_du Z.1 2 k + d)) 3 k (mx0 (s_du Z.1 3 k + d)) := by
        unfold aTick mx0
        refine st_ext (by simp only [tm_wdu]) (by simp only [pl_wdu]) (by simp only [go_wdu]) (by simp only [mv_wdu]) (by simp only [en_wdu]) (by simp only [rs_wdu]) (fun a i => ?_) (fun _ _ => by simp only [ro_wdu])
        simp only [du_wdu]
        by_cases h11 : a = 11 ∧ i = k
        · rw [if_pos h11, if_neg (by omega), if_pos h11]
        · by_cases h2 : a = 2 ∧ i = k
          · rw [if_neg h11, if_pos h2, if_neg (by omega), if_neg h11, if_pos h2]
          · rw [if_neg h11, if_neg h2, if_neg h11, if_neg h2]
      rw [e2] at hv3
      exact hv3
theorem mShift {r : MmV} {Z : Zt} (h : MK r Z) {x : Int32} {d : Int64} {post : Int64 → MmV → Prop} (hp : ∀ r', MK r' (zShift Z x d).2 → post (zShift Z x d).1 r') : PX7_shift r x d post := by
  unfold PX7_shift
  have bad : shBad Z.1 x d → post (-2000000001 : Int64) r := fun q => by
    have e : zShift Z x d = ((-2000000001 : Int64), Z) := by unfold zShift; rw [if_pos q]
    rw [e] at hp
    exact hp _ h
  refine mIsDue rfl h.1 (fun dd => b1 (mIsIn (fun q q2 => b1 ?_) (fun q => b0 (bad ?_)))) (fun dd => b0 (bad (Or.inl dd)))
  · obtain ⟨k, hk, ex, ek, hd⟩ := h.1.k dd
    have ok : ¬ shBad Z.1 x d := fun z => z.elim (fun z => z dd) (fun z => z.elim (Int64.not_lt.mpr q) (Int64.not_lt.mpr q2))
    refine mHas rfl h.1 hk ex (fun _ q3 => b1 ?_) (fun q3 => b0 ?_)
    · refine mGet rfl ex hk (c := 3) rfl (by omega) ?_
      have e2 : m_s r (14 * k + 3) = s_du Z.1 2 k := h.1.f (f := 2) hd (by omega) (by omega) (by omega)
      rintro _ rfl
      rw [e2]
      refine mTickA h.1 (fun q4 => b0 ?_) (fun q4 => b1 ?_)
      · have e : zShift Z x d = ((-2000000001 : Int64), Z) := by unfold zShift; rw [if_neg ok, ek, if_neg q3, if_pos q4]
        rw [e] at hp
        exact hp _ h
      · have e : zShift Z x d = (s_du Z.1 2 k + d, (aShift Z.1 k d, (zKeep Z).2)) := by unfold zShift; rw [if_neg ok, ek, if_neg q3, if_neg q4]
        rw [e] at hp
        refine mKeep h (fun r1 hr1 _ => ?_)
        have hm : MS (m_s r1) Z.1 := hr1.1
        refine mTick rfl hm ex hd (fun s2 hs2 => ?_)
        have d2 := th_tick (k := k) (t := s_du Z.1 2 k + d) hd
        refine mGet (m_ws_m_s r1 s2) ex hk (c := 1) rfl (by omega) ?_
        have f0 : s2 (14 * k + 1) = s_du Z.1 0 k := by
          have := hs2.f (f := 0) d2 (by omega) (by omega) (by omega)
          unfold aTick at this
          rw [du_wdu, if_neg (by omega), du_wdu, if_neg (by omega)] at this
          exact this
        have f3 : s2 (14 * k + 4) = s_du Z.1 3 k := by
          have := hs2.f (f := 3) d2 (by omega) (by omega) (by omega)
          unfold aTick at this
          rw [du_wdu, if_neg (by omega), du_wdu, if_neg (by omega)] at this
          exact this
        rw [f0]
        refine ⟨fun q5 => mGet (m_ws_m_s r1 s2) ex hk (c := 4) rfl (by omega) ?_, fun q5 => ?_⟩
        · rintro _ rfl
          rw [f3]
          have key : ∀ z, z = mx0 (s_du Z.1 3 k + d) → PX7_put (m_ws r1 s2) x 4 z (fun r_19 => PX7_line r_19 x fun r_20 => post (s_du Z.1 2 k + d) r_20) := fun z hz => by
            refine mPut2 ex hk (c := 4) rfl (by omega) (mLine2 (T := s_wdu (aTick Z.1 k (s_du Z.1 2 k + d)) 3 k z) (MS.put (f := 3) hs2 d2 (by omega) (by omega) (by omega)) ex (th_wdu (by omega) d2) (fun s3 hs3 => hp _ (hr1.ws ?_)))
            unfold aShift
            rw [if_pos q5, ← hz]
            exact hs3
          refine ⟨fun q6 => key _ ?_, fun q6 => key _ ?_⟩
          · unfold mx0
            by_cases z : 0 < s_du Z.1 3 k + d
            · rw [if_pos z]
            · rw [if_neg z]
              exact Int64.le_antisymm (Int64.not_lt.mp z) q6
          · unfold mx0
            rw [if_neg (fun z => q6 (Int64.le_of_lt z))]
        · refine mLine2 hs2 ex d2 (fun s3 hs3 => hp _ (hr1.ws ?_))
          unfold aShift
          rw [if_neg q5]
          exact hs3
    · have e : zShift Z x d = ((-2000000002 : Int64), Z) := by unfold zShift; rw [if_neg ok, ek, if_pos q3]
      rw [e] at hp
      exact hp _ h
  · by_cases z : d < -1125899906842624
    · exact Or.inr (Or.inl z)
    · refine Or.inr (Or.inr ?_)
      by_cases z2 : (1125899906842624 : Int64) < d
      · exact z2
      · exact absurd ⟨Int64.not_lt.mp z, Int64.not_lt.mp z2⟩ q
