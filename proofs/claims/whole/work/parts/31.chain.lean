/-! chains: who waits behind whom (the first row out of kit/laws/COUNTS) -/
theorem fb_holes : ∀ (m n : Nat) (f : Nat → Nat), (∀ i, i < n → f i < m) → (∀ i j, i < j → j < n → f i ≠ f j) → n ≤ m := by
  intro m
  induction m with
  | zero =>
    intro n f h1 _
    rcases Nat.eq_zero_or_pos n with h | h
    · omega
    · exact absurd (h1 0 h) (Nat.not_lt_zero _)
  | succ m ih =>
    intro n f h1 h2
    by_cases hx : ∃ i, i < n ∧ f i = m
    · obtain ⟨a, ha, hfa⟩ := hx
      have hg := ih (n - 1) (fun i => if i < a then f i else f (i + 1)) (by
        intro i hi
        by_cases q : i < a
        · simp only [if_pos q]
          have b1 := h1 i (by omega)
          have b2 := h2 i a q ha
          omega
        · simp only [if_neg q]
          have b1 := h1 (i + 1) (by omega)
          have b2 := h2 a (i + 1) (by omega) (by omega)
          omega) (by
        intro i j hij hj
        by_cases q : i < a
        · by_cases r : j < a
          · simp only [if_pos q, if_pos r]
            exact h2 i j hij (by omega)
          · simp only [if_pos q, if_neg r]
            exact h2 i (j + 1) (by omega) (by omega)
        · have r : ¬ j < a := by omega
          simp only [if_neg q, if_neg r]
          exact h2 (i + 1) (j + 1) (by omega) (by omega))
      omega
    · have hg := ih n f (fun i hi => by
        have b1 := h1 i hi
        have b2 : f i ≠ m := fun e => hx ⟨i, hi, e⟩
        omega) h2
      omega
/-- who stands ahead -/
def nx (T : StV) (k : Nat) : Option Nat := if s_du T 6 k = (-2000000005 : Int64) then none else some (s_du T 6 k).toInt.toNat
def bh (T : StV) (o : Nat) : Nat → Nat → Bool
  | 0, _ => false
  | n + 1, k => if k = o then true else match nx T k with
    | none => false
    | some q => bh T o n q
def pth (T : StV) : Nat → Nat → Option Nat
  | 0, k => some k
  | n + 1, k => match nx T k with
    | none => none
    | some q => pth T n q
theorem nx_some {T : StV} (h : IT T) {k : Nat} (q : s_du T 6 k ≠ (-2000000005 : Int64)) : ∃ k', k' < 200 ∧ s_du T 6 k = lN k' ∧ nx T k = some k' ∧ s_du T 0 k' ≠ (-2000000005 : Int64) := by
  obtain ⟨k', h1, h2, h3⟩ := h.2.2.2.2.1 k q
  refine ⟨k', h1, h2, ?_, h3⟩
  unfold nx
  rw [if_neg q, h2, lN_toInt (by omega)]
  rfl
theorem nx_none {T : StV} {k : Nat} (q : s_du T 6 k = (-2000000005 : Int64)) : nx T k = none := by unfold nx; rw [if_pos q]
theorem pth_stab {T : StV} {o m : Nat} : ∀ n k, pth T n k = none → bh T o (n + m) k = bh T o n k := by
  intro n
  induction n with
  | zero => intro k h; cases h
  | succ n ih =>
    intro k h
    rw [show n + 1 + m = (n + m) + 1 by omega, bh, bh]
    rw [pth] at h
    cases hq : nx T k with
    | none => rfl
    | some q =>
      rw [hq] at h
      dsimp only at h ⊢
      rw [ih q h]
theorem pth_add {T : StV} : ∀ i j k, pth T (i + j) k = (pth T i k).bind (pth T j) := by
  intro i
  induction i with
  | zero => intro j k; rw [Nat.zero_add]; rfl
  | succ i ih =>
    intro j k
    rw [show i + 1 + j = (i + j) + 1 by omega, pth, pth]
    cases hq : nx T k with
    | none => rfl
    | some q => exact ih j q
theorem pth_rk {T : StV} (h : IT T) {rk : Nat → Nat} (hr : ∀ i k, s_du T 6 i = lN k → k < 200 → rk k < rk i) : ∀ n k q, pth T n k = some q → rk q + n ≤ rk k := by
  intro n
  induction n with
  | zero => intro k q e; cases e; omega
  | succ n ih =>
    intro k q e
    rw [pth] at e
    by_cases z : s_du T 6 k = (-2000000005 : Int64)
    · rw [nx_none z] at e; cases e
    · obtain ⟨k', h1, h2, h3, -⟩ := nx_some h z
      rw [h3] at e
      have := ih k' q e
      have := hr k k' h2 h1
      omega
theorem pth_lt {T : StV} (h : IT T) : ∀ n k q, k < 200 → pth T n k = some q → q < 200 := by
  intro n
  induction n with
  | zero => intro k q hk e; cases e; exact hk
  | succ n ih =>
    intro k q hk e
    rw [pth] at e
    by_cases z : s_du T 6 k = (-2000000005 : Int64)
    · rw [nx_none z] at e; cases e
    · obtain ⟨k', h1, h2, h3, -⟩ := nx_some h z
      rw [h3] at e
      exact ih k' q h1 e
theorem pth_200 {T : StV} (h : IT T) {k : Nat} (hk : k < 200) : pth T 200 k = none := by
  obtain ⟨rk, hr⟩ := h.2.2.2.2.2
  cases e : pth T 200 k with
  | none => rfl
  | some q =>
    exfalso
    have all : ∀ i, i ≤ 200 → ∃ z, pth T i k = some z := fun i hi => by
      have := pth_add (T := T) i (200 - i) k
      rw [show i + (200 - i) = 200 by omega, e] at this
      cases hz : pth T i k with
      | none => rw [hz] at this; cases this
      | some z => exact ⟨z, rfl⟩
    have := fb_holes 200 201 (fun i => (pth T i k).getD 0) (fun i hi => by
      obtain ⟨z, hz⟩ := all i (by omega)
      rw [hz]
      exact pth_lt h i k z hk hz) (fun i j hij hj => by
      obtain ⟨a, ha⟩ := all i (by omega)
      obtain ⟨b, hb⟩ := all j (by omega)
      rw [ha, hb]
      intro (e2 : a = b)
      have e3 := pth_add (T := T) i (j - i) k
      rw [show i + (j - i) = j by omega, ha, hb] at e3
      have e4 : pth T (j - i) a = some b := e3.symm
      have := pth_rk h hr (j - i) a b e4
      subst e2
      omega)
    omega
theorem cBh_loop {v T : StV} (h : CS v T) (hI : IT T) {o : Nat} (ho : o < 200) {post : Int32 → Prop} :
    ∀ m j k, j + m = 200 → s_du T 0 k ≠ (-2000000005 : Int64) → post (if bh T o m k = true then 1 else 0) → LX4_isBehind_6 v (nI o) post (m + 2) (lN k) (nI j) := by
  obtain ⟨e, n, he, hn, ee, en, hN⟩ := id h.1
  intro m
  induction m with
  | zero =>
    intro j k hj hk hp
    obtain rfl : j = 200 := by omega
    rw [LX4_isBehind_6]
    exact ⟨fun _ => hp, fun q => absurd (by decide) q⟩
  | succ m ih =>
    intro j k hj hk hp
    have hke : k < e := by
      rw [h.du] at hk
      exact (rC_there ee he hk).1
    rw [LX4_isBehind_6, ee, nI_l (by omega), nI_l (by omega), lN_i, nI_clamp (by omega)]
    refine ⟨fun q => absurd q ?_, fun _ => ⟨fun q => absurd q ?_, fun _ => ⟨fun q => absurd q ?_, fun _ => ⟨fun q => ?_, fun q => ⟨vp_in_nI (by omega) (by omega), ?_⟩⟩⟩⟩⟩
    · rw [show (200 : Int32) = nI 200 from rfl, nI_leI (by omega) (by omega)]; omega
    · rw [y_lt, lN_toInt (by omega), x_0]; omega
    · rw [lN_le (by omega) (by omega)]; omega
    · rw [lN_eq (by omega) (by omega)] at q
      rw [bh, if_pos q, if_pos rfl] at hp
      exact hp
    · rw [lN_eq (by omega) (by omega)] at q
      rw [bh, if_neg q] at hp
      rintro _ rfl _ rfl
      rw [h.f (f := 6) hk (by omega) (by omega) (by omega), nI_1]
      by_cases z : s_du T 6 k = (-2000000005 : Int64)
      · rw [nx_none z] at hp
        rw [z, LX4_isBehind_6]
        exact ⟨fun _ => hp, fun _ => ⟨fun _ => hp, fun q2 => absurd (by decide) q2⟩⟩
      · obtain ⟨k', h1, h2, h3, h4⟩ := nx_some hI z
        rw [h3] at hp
        rw [h2]
        exact ih (j + 1) k' (by omega) h4 hp
theorem mBh_loop {r : MmV} {s : Nat → Int64} {T : StV} (es : m_s r = s) (h : MS s T) (hI : IT T) {rk : Nat → Nat} (hr : ∀ i k, s_du T 6 i = lN k → k < 200 → rk k < rk i) {o : Nat} (ho : o < 200) {post : Int32 → Prop} :
    ∀ N k, rk k ≤ N → s_du T 0 k ≠ (-2000000005 : Int64) → post (if (match nx T k with | none => false | some q => bh T o N q) = true then 1 else 0) → LX7_isBehind_2 r (nI o) post (N + 1) (nI k) := by
  intro N
  induction N with
  | zero =>
    intro k hk hd hp
    have k2 := (h.there.mp hd).1
    rw [LX7_isBehind_2]
    refine mWaits es h k2 rfl (fun _ q => ?_) (fun q => b0 (by rw [nx_none q] at hp; exact hp))
    obtain ⟨k', h1, h2, -⟩ := nx_some hI q
    have := hr k k' h2 h1
    omega
  | succ N ih =>
    intro k hk hd hp
    have k2 := (h.there.mp hd).1
    rw [LX7_isBehind_2]
    refine mWaits es h k2 rfl (fun _ q => b1 ?_) (fun q => b0 (by rw [nx_none q] at hp; exact hp))
    obtain ⟨k', h1, h2, h3, h4⟩ := nx_some hI q
    refine mGet es rfl k2 (c := 7) rfl (by omega) ?_
    have e6 : s (14 * k + 7) = s_du T 6 k := h.f (f := 6) hd (by omega) (by omega) (by omega)
    rintro _ rfl
    rw [e6, h2, lN_i]
    rw [h3] at hp
    have hp : post (if bh T o (N + 1) k' = true then 1 else 0) := hp
    rw [bh] at hp
    refine ⟨fun q2 => ?_, fun q2 => ?_⟩
    · rw [nI_eq (by omega) (by omega)] at q2
      rw [if_pos q2, if_pos rfl] at hp
      exact hp
    · rw [nI_eq (by omega) (by omega)] at q2
      rw [if_neg q2] at hp
      have := hr k k' h2 h1
      exact ih k' (by omega) h4 hp
theorem bh_eq {T : StV} (hI : IT T) {rk : Nat → Nat} (hr : ∀ i k, s_du T 6 i = lN k → k < 200 → rk k < rk i) {o k : Nat} (hk : k < 200) (hne : k ≠ o) : (match nx T k with | none => false | some q => bh T o (rk k) q) = bh T o 200 k := by
  rw [show (200 : Nat) = 199 + 1 from rfl, bh, if_neg hne]
  by_cases z : s_du T 6 k = (-2000000005 : Int64)
  · rw [nx_none z]
  · obtain ⟨k', h1, h2, h3, -⟩ := nx_some hI z
    rw [h3]
    dsimp only
    have p1 : pth T 199 k' = none := by
      have := pth_200 hI hk
      rw [show (200 : Nat) = 199 + 1 from rfl, pth, h3] at this
      exact this
    have p2 : pth T (rk k) k' = none := by
      cases e : pth T (rk k) k' with
      | none => rfl
      | some q =>
        have := pth_rk hI hr _ _ _ e
        have := hr k k' h2 h1
        omega
    have a1 := pth_stab (o := o) (m := rk k) 199 k' p1
    have a2 := pth_stab (o := o) (m := 199) (rk k) k' p2
    rw [← a1, ← a2, Nat.add_comm]
def zChain (Z : Zt) (x y : Int32) : Int64 × Zt :=
  if ¬ dI Z.1 x ∨ ¬ dI Z.1 y then ((-2000000001 : Int64), Z) else if s_du Z.1 6 x.toNatClampNeg = (-2000000005 : Int64) then ((-2000000002 : Int64), Z) else if bh Z.1 x.toNatClampNeg 200 y.toNatClampNeg = true then ((-2000000004 : Int64), Z)
  else (0, (s_wdu Z.1 6 x.toNatClampNeg y.toInt64, (zKeep Z).2))
theorem cChain {st : Nat → StV} {kv : KvV} {cu : Nat} {Z : Zt} (h : KI st kv cu Z) (hI : IT Z.1) {x y : Int32} {post : Int64 → (Nat → StV) → KvV → Prop} (hp : ∀ st' kv', KI st' kv' cu (zChain Z x y).2 → post (zChain Z x y).1 st' kv') : PX6_chain st kv cu x y post := by
  unfold PX6_chain
  have bad : (¬ dI Z.1 x ∨ ¬ dI Z.1 y) → post (-2000000001 : Int64) st kv := fun q => by
    have e : zChain Z x y = ((-2000000001 : Int64), Z) := by unfold zChain; rw [if_pos q]
    rw [e] at hp
    exact hp _ _ h
  refine cIsDue2 h.cs (fun d hin => b1 (cIsDue2 h.cs (fun d2 hin2 => b1 ⟨hin, ?_⟩) (fun d2 => b0 (bad (Or.inr d2))))) (fun d => b0 (bad (Or.inl d)))
  obtain ⟨k, hk, ex, ek, -, hd⟩ := h.cs.k d
  obtain ⟨q, hq, ey, eq, -, hdq⟩ := h.cs.k d2
  have ok : ¬ (¬ dI Z.1 x ∨ ¬ dI Z.1 y) := fun z => z.elim (fun z => z d) (fun z => z d2)
  rw [ek, h.cs.f (f := 6) hd (by omega) (by omega) (by omega)]
  refine ⟨fun q1 => ?_, fun q1 => ?_⟩
  · have e : zChain Z x y = ((-2000000002 : Int64), Z) := by unfold zChain; rw [if_neg ok, ek, if_pos q1]
    rw [e] at hp
    exact hp _ _ h
  · unfold PX4_isBehind
    rintro _ rfl
    rw [ey, nI_l (by omega), ex]
    refine ⟨202, cBh_loop h.cs hI hk 200 0 q (by omega) hdq ?_⟩
    by_cases b : bh Z.1 k 200 q = true
    · rw [if_pos b]
      refine b1 ?_
      have e : zChain Z x y = ((-2000000004 : Int64), Z) := by unfold zChain; rw [if_neg ok, ek, eq, if_neg q1, if_pos b]
      rw [e] at hp
      exact hp _ _ h
    · rw [if_neg b]
      refine b0 (cKeep h (fun st1 kv1 hk1 => ?_))
      have e : zChain Z x y = (0, (s_wdu Z.1 6 k y.toInt64, (zKeep Z).2)) := by unfold zChain; rw [if_neg ok, ek, eq, if_neg q1, if_neg b]
      rw [e] at hp
      rw [ex] at hin
      refine ⟨hin, ?_⟩
      rintro _ rfl
      have hy : y.toInt64 = (nI q).toInt64 := by rw [ey]
      rw [← nI_l (show q < 2 ^ 31 by omega), ← hy]
      exact hp _ _ (hk1.upd (hk1.cs.put (f := 6) hd (by omega) (by omega) (by omega)))
  done
theorem mChain {r : MmV} {Z : Zt} (h : MK r Z) (hI : IT Z.1) {x y : Int32} {post : Int64 → MmV → Prop} (hp : ∀ r', MK r' (zChain Z x y).2 → post (zChain Z x y).1 r') : PX7_chain r x y post := by
  unfold PX7_chain
  have bad : (¬ dI Z.1 x ∨ ¬ dI Z.1 y) → post (-2000000001 : Int64) r := fun q => by
    have e : zChain Z x y = ((-2000000001 : Int64), Z) := by unfold zChain; rw [if_pos q]
    rw [e] at hp
    exact hp _ h
  refine mIsDue rfl h.1 (fun d => b1 (mIsDue rfl h.1 (fun d2 => b1 ?_) (fun d2 => b0 (bad (Or.inr d2))))) (fun d => b0 (bad (Or.inl d)))
  obtain ⟨k, hk, ex, ek, hd⟩ := h.1.k d
  obtain ⟨q, hq, ey, eq, hdq⟩ := h.1.k d2
  have ok : ¬ (¬ dI Z.1 x ∨ ¬ dI Z.1 y) := fun z => z.elim (fun z => z d) (fun z => z d2)
  refine mWaits rfl h.1 hk ex (fun _ q1 => b1 ?_) (fun q1 => b0 ?_)
  · have ring : bh Z.1 k 200 q = true → post (-2000000004 : Int64) r := fun b => by
      have e : zChain Z x y = ((-2000000004 : Int64), Z) := by unfold zChain; rw [if_neg ok, ek, eq, if_neg q1, if_pos b]
      rw [e] at hp
      exact hp _ h
    refine ⟨fun z => ring ?_, fun z => ?_⟩
    · rw [ex, ey, nI_eq (by omega) (by omega)] at z
      rw [show (200 : Nat) = 199 + 1 from rfl, bh, if_pos z]
    · have hne : q ≠ k := fun w => z (by rw [ex, ey, w])
      obtain ⟨rk, hr⟩ := hI.2.2.2.2.2
      unfold PX7_isBehind
      refine ⟨rk q + 1, ?_⟩
      rw [ey, ex]
      refine mBh_loop rfl h.1 hI hr hk (rk q) q (Nat.le_refl _) hdq ?_
      rw [bh_eq hI hr hq hne]
      by_cases b : bh Z.1 k 200 q = true
      · rw [if_pos b]
        exact b1 (ring b)
      · rw [if_neg b]
        refine b0 (mKeep h (fun r1 hr1 _ => ?_))
        have e : zChain Z x y = (0, (s_wdu Z.1 6 k y.toInt64, (zKeep Z).2)) := by unfold zChain; rw [if_neg ok, ek, eq, if_neg q1, if_neg b]
        rw [e] at hp
        refine mPut rfl rfl hk (c := 7) rfl (by omega) ?_
        have hy : y.toInt64 = (nI q).toInt64 := by rw [ey]
        rw [← hy]
        exact hp _ (hr1.ws (MS.put (f := 6) hr1.1 hd (by omega) (by omega) (by omega)))
  · have e : zChain Z x y = ((-2000000002 : Int64), Z) := by unfold zChain; rw [if_neg ok, ek, if_pos q1]
    rw [e] at hp
    exact hp _ h
