/-! loose, chained; shift, rest, wake, drop; both sides -/
def zLoose (Z : Zt) (a b : Int64) (say : Int32) : Int64 × Zt :=
  if tBad Z.1 b ∨ a < 0 ∨ b < a then ((-2000000001 : Int64), Z) else if fr Z.1 = 200 then ((-2000000003 : Int64), Z) else (lN (fr Z.1), (s_wdu (aTick (aOpen Z.1 2 say.toInt64) (fr Z.1) b) 3 (fr Z.1) a, (zKeep Z).2))
theorem cLoose {st : Nat → StV} {kv : KvV} {cu : Nat} {Z : Zt} (h : KI st kv cu Z) {a b : Int64} {say : Int32} {post : Int64 → (Nat → StV) → KvV → Prop} (hp : ∀ st' kv', KI st' kv' cu (zLoose Z a b say).2 → post (zLoose Z a b say).1 st' kv') : PX6_loose st kv cu a b say post := by
  unfold PX6_loose
  have bad : (tBad Z.1 b ∨ a < 0 ∨ b < a) → post (-2000000001 : Int64) st kv := fun q => by
    have e : zLoose Z a b say = ((-2000000001 : Int64), Z) := by unfold zLoose; rw [if_pos q]
    rw [e] at hp
    exact hp _ _ h
  refine cTickA h.cs (fun q => b0 (bad (Or.inl q))) (fun q => b1 ⟨fun q2 => bad (Or.inr (Or.inl q2)), fun q2 => ⟨fun q3 => ?_, fun q3 => bad (Or.inr (Or.inr (Int64.not_le.mp q3)))⟩⟩)
  have ok : ¬ (tBad Z.1 b ∨ a < 0 ∨ b < a) := fun z => z.elim q (fun z => z.elim q2 (fun z => Int64.not_le.mpr z q3))
  refine cFull h.cs (fun f => b0 ?_) (fun f => b1 ?_)
  · have e : zLoose Z a b say = (lN (fr Z.1), (s_wdu (aTick (aOpen Z.1 2 say.toInt64) (fr Z.1) b) 3 (fr Z.1) a, (zKeep Z).2)) := by unfold zLoose; rw [if_neg ok, if_neg (by omega)]
    rw [e] at hp
    refine cKeep h (fun st1 kv1 hk => cOpen (T := Z.1) hk.cs f 2 say (by decide) (fun v1 hv1 => ?_))
    have hin : vp_in (nI (fr Z.1)) 200 := vp_in_nI f (by omega)
    have hv1 : CS v1 (aOpen Z.1 2 say.toInt64) := hv1
    have t0 : s_du (aOpen Z.1 2 say.toInt64) 0 (fr Z.1) ≠ (-2000000005 : Int64) := by rw [aOpen_k]; decide
    rintro _ rfl
    refine ⟨hin, ?_⟩
    rintro _ rfl
    rw [nI_clamp (by omega), va_up_self, va_up_self]
    refine cSetTick (hv1.put (f := 3) (x := a) t0 (by omega) (by omega) (by omega)) rfl f (th_wdu (by omega) t0) (fun v3 hv3 => ?_)
    rintro _ rfl
    rw [nI_l (by omega), bx_uu, bx_uu]
    rw [mn_ok q] at hv3
    have e2 : aTick (s_wdu (aOpen Z.1 2 say.toInt64) 3 (fr Z.1) a) (fr Z.1) b = s_wdu (aTick (aOpen Z.1 2 say.toInt64) (fr Z.1) b) 3 (fr Z.1) a := by
      unfold aTick
      refine st_ext (by simp only [tm_wdu]) (by simp only [pl_wdu]) (by simp only [go_wdu]) (by simp only [mv_wdu]) (by simp only [en_wdu]) (by simp only [rs_wdu]) (fun a i => ?_) (fun _ _ => by simp only [ro_wdu])
      simp only [du_wdu]
      by_cases h11 : a = 11 ∧ i = fr Z.1
      · rw [if_pos h11, if_neg (by omega), if_pos h11]
      · by_cases h2 : a = 2 ∧ i = fr Z.1
        · rw [if_neg h11, if_pos h2, if_neg (by omega), if_neg h11, if_pos h2]
        · rw [if_neg h11, if_neg h2, if_neg h11, if_neg h2]
    rw [e2] at hv3
    exact hp _ _ (hk.upd hv3)
  · have e : zLoose Z a b say = ((-2000000003 : Int64), Z) := by unfold zLoose; rw [if_neg ok, if_pos f]
    rw [e] at hp
    exact hp _ _ h
theorem mLoose {r : MmV} {Z : Zt} (h : MK r Z) {a b : Int64} {say : Int32} {post : Int64 → MmV → Prop} (hp : ∀ r', MK r' (zLoose Z a b say).2 → post (zLoose Z a b say).1 r') : PX7_loose r a b say post := by
  unfold PX7_loose
  have bad : (tBad Z.1 b ∨ a < 0 ∨ b < a) → post (-2000000001 : Int64) r := fun q => by
    have e : zLoose Z a b say = ((-2000000001 : Int64), Z) := by unfold zLoose; rw [if_pos q]
    rw [e] at hp
    exact hp _ h
  refine mTickA h.1 (fun q => b0 (bad (Or.inl q))) (fun q => b1 (mIsIn (fun q2 q3 => b1 ?_) (fun q2 => b0 (bad ?_))))
  · have ok : ¬ (tBad Z.1 b ∨ a < 0 ∨ b < a) := fun z => z.elim q (fun z => z.elim (Int64.not_lt.mpr q2) (Int64.not_lt.mpr q3))
    refine mFree rfl h.1 (fr200 (fun f => ?_) (fun f => ?_))
    · have e : zLoose Z a b say = ((-2000000003 : Int64), Z) := by unfold zLoose; rw [if_neg ok, if_pos f]
      rw [e] at hp
      exact hp _ h
    · have e : zLoose Z a b say = (lN (fr Z.1), (s_wdu (aTick (aOpen Z.1 2 say.toInt64) (fr Z.1) b) 3 (fr Z.1) a, (zKeep Z).2)) := by unfold zLoose; rw [if_neg ok, if_neg (by omega)]
      rw [e] at hp
      refine mSet h f 2 say (by decide) (fun r1 hr1 => ?_)
      rw [aSet_n3 (by decide)] at hr1
      have hr1 : MK r1 (aOpen Z.1 2 say.toInt64, (zKeep Z).2) := hr1
      have t0 : s_du (aOpen Z.1 2 say.toInt64) 0 (fr Z.1) ≠ (-2000000005 : Int64) := by rw [aOpen_k]; decide
      refine mTick rfl hr1.1 rfl t0 (fun s' hs' => mPut2 rfl f (c := 4) rfl (by omega) ?_)
      rw [nI_l (by omega)]
      exact hp _ (hr1.ws (MS.put (f := 3) hs' (th_wdu (by omega) (th_wdu (by omega) t0)) (by omega) (by omega) (by omega)))
  · by_cases z : a < 0
    · exact Or.inr (Or.inl z)
    · refine Or.inr (Or.inr ?_)
      by_cases z2 : b < a
      · exact z2
      · exact absurd ⟨Int64.not_lt.mp z, Int64.not_lt.mp z2⟩ q2
abbrev chBad (T : StV) (x : Int32) (be re : Int64) : Prop := ¬ dI T x ∨ be < 1 ∨ (1125899906842624 : Int64) < be ∨ re < 0 ∨ (1125899906842624 : Int64) < re
def aCh (T : StV) (say x be re : Int64) : StV := s_wdu (s_wdu (s_wdu (aOpen T 3 say) 6 (fr T) x) 9 (fr T) be) 10 (fr T) re
def zCh (Z : Zt) (x : Int32) (be re : Int64) (say : Int32) : Int64 × Zt :=
  if chBad Z.1 x be re then ((-2000000001 : Int64), Z) else if fr Z.1 = 200 then ((-2000000003 : Int64), Z) else (lN (fr Z.1), (aCh Z.1 say.toInt64 x.toInt64 be re, (zKeep Z).2))
theorem cIsDue2 {v T : StV} (h : CS v T) {x : Int32} {post : Int32 → Prop} (h1 : dI T x → vp_in x 200 → post 1) (h0 : ¬ dI T x → post 0) : PX4_isDue v x post := by
  have := h.2
  subst this
  exact cIsDue h.1 h1 h0
theorem cCh {st : Nat → StV} {kv : KvV} {cu : Nat} {Z : Zt} (h : KI st kv cu Z) {x : Int32} {be re : Int64} {say : Int32} {post : Int64 → (Nat → StV) → KvV → Prop} (hp : ∀ st' kv', KI st' kv' cu (zCh Z x be re say).2 → post (zCh Z x be re say).1 st' kv') : PX6_chained st kv cu x be re say post := by
  unfold PX6_chained
  have bad : chBad Z.1 x be re → post (-2000000001 : Int64) st kv := fun q => by
    have e : zCh Z x be re say = ((-2000000001 : Int64), Z) := by unfold zCh; rw [if_pos q]
    rw [e] at hp
    exact hp _ _ h
  refine cIsDue2 h.cs (fun d _ => b1 ?_) (fun d => b0 (bad (Or.inl d)))
  refine cSpan (fun q2 => b0 (bad (q2.elim (fun z => Or.inr (Or.inl z)) (fun z => Or.inr (Or.inr (Or.inl z)))))) (fun q2 q3 => b1 ?_)
  refine ⟨fun q4 => bad (Or.inr (Or.inr (Or.inr (Or.inl q4)))), fun q4 => ⟨fun q5 => ?_, fun q5 => bad (Or.inr (Or.inr (Or.inr (Or.inr (Int64.not_le.mp q5)))))⟩⟩
  have ok : ¬ chBad Z.1 x be re := fun z => z.elim (fun z => z d) (fun z => z.elim q2 (fun z => z.elim q3 (fun z => z.elim q4 (fun z => Int64.not_le.mpr z q5))))
  refine cFull h.cs (fun f => b0 ?_) (fun f => b1 ?_)
  · have e : zCh Z x be re say = (lN (fr Z.1), (aCh Z.1 say.toInt64 x.toInt64 be re, (zKeep Z).2)) := by unfold zCh; rw [if_neg ok, if_neg (by omega)]
    rw [e] at hp
    refine cKeep h (fun st1 kv1 hk => cOpen (T := Z.1) hk.cs f 3 say (by decide) (fun v1 hv1 => ?_))
    have hin : vp_in (nI (fr Z.1)) 200 := vp_in_nI f (by omega)
    have hv1 : CS v1 (aOpen Z.1 3 say.toInt64) := hv1
    have t3 : s_du (aOpen Z.1 3 say.toInt64) 0 (fr Z.1) = 3 := aOpen_k _ _ _
    have t0 : s_du (aOpen Z.1 3 say.toInt64) 0 (fr Z.1) ≠ (-2000000005 : Int64) := by rw [t3]; decide
    rintro _ rfl
    refine ⟨hin, ?_⟩
    rintro _ rfl
    refine ⟨hin, ?_⟩
    rintro _ rfl
    refine ⟨hin, ?_⟩
    rintro _ rfl
    rw [nI_clamp (by omega), va_up_self, va_up_self, va_up_self, nI_l (by omega), bx_uu, bx_uu, bx_uu]
    refine hp _ _ (hk.upd ?_)
    have h6 := hv1.put (f := 6) (x := x.toInt64) t0 (by omega) (by omega) (by omega)
    have k6 : s_du (s_wdu (aOpen Z.1 3 say.toInt64) 6 (fr Z.1) x.toInt64) 0 (fr Z.1) = 3 := by rw [du_wdu, if_neg (by omega)]; exact t3
    have h9 := h6.put (f := 9) (x := be) (by rw [k6]; decide) (by omega) (by omega) (fun _ => k6)
    have k9 : s_du (s_wdu (s_wdu (aOpen Z.1 3 say.toInt64) 6 (fr Z.1) x.toInt64) 9 (fr Z.1) be) 0 (fr Z.1) = 3 := by rw [du_wdu, if_neg (by omega)]; exact k6
    exact h9.put (f := 10) (x := re) (by rw [k9]; decide) (by omega) (by omega) (fun _ => k9)
  · have e : zCh Z x be re say = ((-2000000003 : Int64), Z) := by unfold zCh; rw [if_neg ok, if_pos f]
    rw [e] at hp
    exact hp _ _ h
theorem mCh {r : MmV} {Z : Zt} (h : MK r Z) {x : Int32} {be re : Int64} {say : Int32} {post : Int64 → MmV → Prop} (hp : ∀ r', MK r' (zCh Z x be re say).2 → post (zCh Z x be re say).1 r') : PX7_chained r x be re say post := by
  unfold PX7_chained
  have bad : chBad Z.1 x be re → post (-2000000001 : Int64) r := fun q => by
    have e : zCh Z x be re say = ((-2000000001 : Int64), Z) := by unfold zCh; rw [if_pos q]
    rw [e] at hp
    exact hp _ h
  refine mIsDue rfl h.1 (fun d => b1 (mIsIn (fun q2 q3 => b1 (mIsIn (fun q4 q5 => b1 ?_) (fun q4 => b0 (bad ?_)))) (fun q2 => b0 (bad ?_)))) (fun d => b0 (bad (Or.inl d)))
  · have ok : ¬ chBad Z.1 x be re := fun z => z.elim (fun z => z d) (fun z => z.elim (Int64.not_lt.mpr q2) (fun z => z.elim (Int64.not_lt.mpr q3) (fun z => z.elim (Int64.not_lt.mpr q4) (Int64.not_lt.mpr q5))))
    refine mFree rfl h.1 (fr200 (fun f => ?_) (fun f => ?_))
    · have e : zCh Z x be re say = ((-2000000003 : Int64), Z) := by unfold zCh; rw [if_neg ok, if_pos f]
      rw [e] at hp
      exact hp _ h
    · have e : zCh Z x be re say = (lN (fr Z.1), (aCh Z.1 say.toInt64 x.toInt64 be re, (zKeep Z).2)) := by unfold zCh; rw [if_neg ok, if_neg (by omega)]
      rw [e] at hp
      refine mSet h f 3 say (by decide) (fun r1 hr1 => ?_)
      have e3 : aSet Z.1 (3 : Int32).toInt64 say.toInt64 = s_wdu (s_wdu (aOpen Z.1 3 say.toInt64) 9 (fr Z.1) 0) 10 (fr Z.1) 0 := by
        unfold aSet
        rw [if_pos (by decide)]
        rfl
      rw [e3] at hr1
      obtain ⟨T3, eT3⟩ : ∃ z, z = s_wdu (s_wdu (aOpen Z.1 3 say.toInt64) 9 (fr Z.1) 0) 10 (fr Z.1) 0 := ⟨_, rfl⟩
      rw [← eT3] at hr1
      have t3 : s_du T3 0 (fr Z.1) = 3 := by rw [eT3, du_wdu, du_wdu, if_neg (by omega), if_neg (by omega)]; exact aOpen_k _ _ _
      have t0 : s_du T3 0 (fr Z.1) ≠ (-2000000005 : Int64) := by rw [t3]; decide
      have k6 : s_du (s_wdu T3 6 (fr Z.1) x.toInt64) 0 (fr Z.1) = 3 := by rw [du_wdu, if_neg (by omega)]; exact t3
      have k9 : s_du (s_wdu (s_wdu T3 6 (fr Z.1) x.toInt64) 9 (fr Z.1) be) 0 (fr Z.1) = 3 := by rw [du_wdu, if_neg (by omega)]; exact k6
      refine mPut rfl rfl f (c := 7) rfl (by omega) (mPut2 rfl f (c := 8) rfl (by omega) (mPut2 rfl f (c := 9) rfl (by omega) ?_))
      rw [nI_l (by omega)]
      have h10 := MS.put (f := 10) (x := re) (MS.put (f := 9) (x := be) (MS.put (f := 6) (x := x.toInt64) hr1.1 t0 (by omega) (by omega) (by omega)) (by rw [k6]; decide) (by omega) (by omega) (fun _ => k6)) (by rw [k9]; decide) (by omega) (by omega) (fun _ => k9)
      have e4 : s_wdu (s_wdu (s_wdu T3 6 (fr Z.1) x.toInt64) 9 (fr Z.1) be) 10 (fr Z.1) re = aCh Z.1 say.toInt64 x.toInt64 be re := by
        rw [eT3]
        unfold aCh
        refine st_ext (by simp only [tm_wdu]) (by simp only [pl_wdu]) (by simp only [go_wdu]) (by simp only [mv_wdu]) (by simp only [en_wdu]) (by simp only [rs_wdu]) (fun a i => ?_) (fun _ _ => by simp only [ro_wdu])
        simp only [du_wdu]
        by_cases c10 : a = 10 ∧ i = fr Z.1
        · rw [if_pos c10, if_pos c10]
        · by_cases c9 : a = 9 ∧ i = fr Z.1
          · rw [if_neg c10, if_pos c9, if_neg c10, if_pos c9]
          · rw [if_neg c10, if_neg c9, if_neg c10, if_neg c9, if_neg c10, if_neg c9]
      rw [e4] at h10
      exact hp _ (hr1.ws h10)
  · by_cases z : re < 0
    · exact Or.inr (Or.inr (Or.inr (Or.inl z)))
    · refine Or.inr (Or.inr (Or.inr (Or.inr ?_)))
      by_cases z2 : (1125899906842624 : Int64) < re
      · exact z2
      · exact absurd ⟨Int64.not_lt.mp z, Int64.not_lt.mp z2⟩ q4
  · by_cases z : be < 1
    · exact Or.inr (Or.inl z)
    · refine Or.inr (Or.inr (Or.inl ?_))
      by_cases z2 : (1125899906842624 : Int64) < be
      · exact z2
      · exact absurd ⟨Int64.not_lt.mp z, Int64.not_lt.mp z2⟩ q2
