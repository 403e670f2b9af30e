/-! drop, tell on the model's side -/
theorem x_rngL (x : Int64) : -9223372036854775808 ≤ x.toInt ∧ x.toInt < 9223372036854775808 := by
  have h1 := Int64.le_toInt x
  have h2 := Int64.toInt_lt x
  omega
theorem x_addL {x y : Int64} (h1 : -9223372036854775808 ≤ x.toInt + y.toInt) (h2 : x.toInt + y.toInt < 9223372036854775808) : (x + y).toInt = x.toInt + y.toInt := by
  rw [Int64.toInt_add, Int.bmod_eq_of_le (by omega) (by omega)]
theorem x_subL {x y : Int64} (h1 : -9223372036854775808 ≤ x.toInt - y.toInt) (h2 : x.toInt - y.toInt < 9223372036854775808) : (x - y).toInt = x.toInt - y.toInt := by
  rw [Int64.toInt_sub, Int.bmod_eq_of_le (by omega) (by omega)]
theorem y_lt {x y : Int64} : x < y ↔ x.toInt < y.toInt := Int64.lt_iff_toInt_lt
theorem y_le {x y : Int64} : x ≤ y ↔ x.toInt ≤ y.toInt := Int64.le_iff_toInt_le
theorem y_eq {x y : Int64} : x = y ↔ x.toInt = y.toInt := Int64.toInt_inj.symm
theorem x_M : ((1125899906842624 : Int64)).toInt = 1125899906842624 := by decide
theorem x_1 : (1 : Int64).toInt = 1 := by decide
theorem x_0 : (0 : Int64).toInt = 0 := by decide
theorem x_N : ((-2000000005 : Int64)).toInt = -2000000005 := by decide
theorem lN_ne {k : Nat} (h : k < 2 ^ 31) : lN k ≠ (-2000000005 : Int64) := by
  rw [Ne, y_eq, lN_toInt h, x_N]
  omega
theorem x_p1 {T : StV} (h : IT T) : (s_tm T + 1).toInt = (s_tm T).toInt + 1 := by
  obtain ⟨⟨a, b⟩, -⟩ := h
  rw [y_le, x_0] at a
  rw [y_lt, x_M] at b
  rw [x_addL (by rw [x_1]; omega) (by rw [x_1]; omega), x_1]
theorem dropTo_eq {T : StV} (h : IT T) (r : Int64) : dropTo (s_tm T) r = if r ≤ s_tm T then s_tm T + 1 else r := by
  unfold dropTo
  have e := x_p1 h
  by_cases q : r ≤ s_tm T
  · rw [if_pos q, if_neg]
    intro z
    rw [y_lt, e] at z
    rw [y_le] at q
    omega
  · rw [if_neg q]
    by_cases z : s_tm T + 1 < r
    · rw [if_pos z]
    · rw [if_neg z, y_eq, e]
      rw [y_lt, e] at z
      rw [y_le] at q
      omega
theorem dropTo_mn {T : StV} (h : IT T) {r : Int64} (hr : r ≤ (1125899906842624 : Int64)) : mn (dropTo (s_tm T) r) = dropTo (s_tm T) r := by
  unfold mn
  rw [if_neg]
  intro q
  have e := x_p1 h
  obtain ⟨⟨a, b⟩, -⟩ := h
  rw [y_lt, x_M] at b q
  rw [y_le, x_M] at hr
  unfold dropTo at q
  split at q
  · omega
  · omega
theorem aTell_congr {T : StV} {a : Int64} {g g' : Nat → Int64} (h : ∀ i, s_du T 6 i = a → g i = g' i) : aTell T a g = aTell T a g' := by
  refine st_ext rfl rfl rfl rfl rfl rfl (fun f i => ?_) (fun _ _ => rfl)
  show (if s_du T 6 i = a then (if f = 6 then (-2000000005 : Int64) else if f = 2 then g i else if f = 11 then 0 else s_du T f i) else s_du T f i) = (if s_du T 6 i = a then (if f = 6 then (-2000000005 : Int64) else if f = 2 then g' i else if f = 11 then 0 else s_du T f i) else s_du T f i)
  by_cases q : s_du T 6 i = a
  · rw [if_pos q, if_pos q, h i q]
  · rw [if_neg q, if_neg q]
theorem tl_200 {T : StV} {a : Int64} {g : Nat → Int64} (h : ∀ i, 200 ≤ i → s_du T 6 i ≠ a) : tl T a 200 g = aTell T a g := by
  refine st_ext rfl rfl rfl rfl rfl rfl (fun f i => ?_) (fun _ _ => rfl)
  rw [tl_du]
  show _ = (if s_du T 6 i = a then (if f = 6 then (-2000000005 : Int64) else if f = 2 then g i else if f = 11 then 0 else s_du T f i) else s_du T f i)
  by_cases q : s_du T 6 i = a
  · have : i < 200 := by
      rcases Nat.lt_or_ge i 200 with z | z
      · exact z
      · exact absurd q (h i z)
    rw [if_pos q, if_pos ⟨this, q⟩]
  · rw [if_neg q, if_neg (fun z => q z.2)]
theorem aTell_tm (T : StV) (a : Int64) (g : Nat → Int64) : s_tm (aTell T a g) = s_tm T := rfl
theorem aTell_pl (T : StV) (a : Int64) (g : Nat → Int64) : s_pl (aTell T a g) = s_pl T := rfl
theorem aTell_go (T : StV) (a : Int64) (g : Nat → Int64) : s_go (aTell T a g) = s_go T := rfl
theorem aTell_mv (T : StV) (a : Int64) (g : Nat → Int64) : s_mv (aTell T a g) = s_mv T := rfl
theorem aTell_en (T : StV) (a : Int64) (g : Nat → Int64) : s_en (aTell T a g) = s_en T := rfl
theorem aTell_rs (T : StV) (a : Int64) (g : Nat → Int64) : s_rs (aTell T a g) = s_rs T := rfl
theorem aTell_ro (T : StV) (a : Int64) (g : Nat → Int64) : s_ro (aTell T a g) = s_ro T := rfl
theorem aClose_tm (T : StV) (k : Nat) : s_tm (aClose T k) = s_tm T := rfl
theorem aClose_pl (T : StV) (k : Nat) : s_pl (aClose T k) = s_pl T := rfl
theorem aClose_go (T : StV) (k : Nat) : s_go (aClose T k) = s_go T := rfl
theorem aClose_mv (T : StV) (k : Nat) : s_mv (aClose T k) = s_mv T := rfl
theorem aClose_en (T : StV) (k : Nat) : s_en (aClose T k) = s_en T := rfl
theorem aClose_rs (T : StV) (k : Nat) : s_rs (aClose T k) = s_rs T := rfl
theorem aClose_ro (T : StV) (k : Nat) : s_ro (aClose T k) = s_ro T := rfl
def zDrop (Z : Zt) (x : Int32) : Int64 × Zt :=
  if ¬ dI Z.1 x then ((-2000000001 : Int64), Z) else (s_du Z.1 1 x.toNatClampNeg, (aClose (aTell Z.1 x.toInt64 (fun i => dropTo (s_tm Z.1) (s_du Z.1 10 i))) x.toNatClampNeg, (zKeep Z).2))
theorem cDrop {st : Nat → StV} {kv : KvV} {cu : Nat} {Z : Zt} (h : KI st kv cu Z) (hI : IT Z.1) {x : Int32} {post : Int64 → (Nat → StV) → KvV → Prop} (hp : ∀ st' kv', KI st' kv' cu (zDrop Z x).2 → post (zDrop Z x).1 st' kv') : PX6_drop st kv cu x post := by
  unfold PX6_drop
  refine cIsDue2 h.cs (fun d hin => b1 ?_) (fun d => b0 ?_)
  · obtain ⟨k, hk, ex, ek, -, hd⟩ := h.cs.k d
    have e : zDrop Z x = (s_du Z.1 1 k, (aClose (aTell Z.1 x.toInt64 (fun i => dropTo (s_tm Z.1) (s_du Z.1 10 i))) k, (zKeep Z).2)) := by
      unfold zDrop
      rw [if_neg (fun z => z d), ek]
    rw [e] at hp
    refine cKeep h (fun st1 kv1 hk1 => ⟨hin, ?_⟩)
    have hc : CS (st1 cu) Z.1 := hk1.cs
    rintro _ rfl
    rw [ek, hc.f (f := 1) hd (by omega) (by omega) (by omega)]
    have hx : x.toInt64 ≠ (-2000000005 : Int64) := by rw [ex, nI_l (by omega)]; exact lN_ne (by omega)
    refine cTellDropped hc hx hI.ah3 (fun v1 hv1 => ?_)
    rintro _ rfl
    rw [va_up_self]
    rw [ex]
    refine cClose hv1 hk (fun v2 hv2 => ?_)
    rintro _ rfl
    rw [bx_uu]
    refine hp _ _ (hk1.upd ?_)
    have e2 : aTell Z.1 x.toInt64 (fun i => mn (dropTo (s_tm Z.1) (s_du Z.1 10 i))) = aTell Z.1 x.toInt64 (fun i => dropTo (s_tm Z.1) (s_du Z.1 10 i)) := aTell_congr (fun i q => by
      have k3 := hI.ah3 i (by rw [q]; exact hx)
      have ri := hI.ri (i := i) (by rw [k3]; decide)
      exact dropTo_mn hI (ri.2.2.2.2.2.2.2.1 k3).2.2.2)
    rw [e2] at hv2
    exact hv2
  · have e : zDrop Z x = ((-2000000001 : Int64), Z) := by unfold zDrop; rw [if_pos d]
    rw [e] at hp
    exact hp _ _ h
theorem mDrop_loop {r : MmV} {T : StV} {x : Int32} {y : Int64} (hx : x.toInt64 ≠ (-2000000005 : Int64)) (hA : ∀ i, s_du T 6 i ≠ (-2000000005 : Int64) → s_du T 0 i = 3) (hd : ∀ q, dropTo (s_tm T) q = if q ≤ s_tm T then s_tm T + 1 else q) {post : Int64 → MmV → Prop} (hp : ∀ s', MS s' (tl T x.toInt64 200 (fun i => dropTo (s_tm T) (s_du T 10 i))) → post y (m_ws r s')) :
    ∀ m k s, k + m = 200 → MS s (tl T x.toInt64 k (fun i => dropTo (s_tm T) (s_du T 10 i))) → LX7_drop_33 x y post (m + 1) (nI k) (m_ws r s) := by
  intro m
  induction m with
  | zero =>
    intro k s hk hs
    obtain rfl : k = 200 := by omega
    rw [LX7_drop_33]
    exact ⟨fun _ => hp s hs, fun q => absurd (by decide) q⟩
  | succ m ih =>
    intro k s hk hs
    rw [LX7_drop_33]
    have d6 : s_du (tl T x.toInt64 k (fun i => dropTo (s_tm T) (s_du T 10 i))) 6 k = s_du T 6 k := by rw [tl_du, if_neg (by omega)]
    have nx : ∀ s', MS s' (tl T x.toInt64 (k + 1) (fun i => dropTo (s_tm T) (s_du T 10 i))) → ∀ z : Int32, z = nI k + 1 → LX7_drop_33 x y post (m + 1) z (m_ws r s') := fun s' hs' z hz => by
      rw [hz, nI_1]
      exact ih (k + 1) s' (by omega) hs'
    refine ⟨fun q => absurd q ?_, fun _ => mWaits (m_ws_m_s r s) hs (by omega) rfl (fun t0 q => b1 ?_) (fun q => b0 (nx s ?_))⟩
    · rw [show (200 : Int32) = nI 200 from rfl, nI_leI (by omega) (by omega)]; omega
    · rw [d6] at q
      have t3 : s_du T 0 k = 3 := hA k q
      have tk3 : s_du (tl T x.toInt64 k (fun i => dropTo (s_tm T) (s_du T 10 i))) 0 k = 3 := by rw [tl_du, if_neg (by omega)]; exact t3
      refine mGet (m_ws_m_s r s) rfl (by omega) (c := 7) rfl (by omega) ?_
      have e6 : s (14 * k + 7) = s_du T 6 k := (hs.f (f := 6) t0 (by omega) (by omega) (by omega)).trans d6
      rw [e6]
      refine ⟨fun q2 => ?_, fun q2 => nx s (by rw [tl_no q2] at hs; exact hs)⟩
      refine mPut2 rfl (by omega) (c := 7) rfl (by omega) ?_
      have hs2 := MS.put (f := 6) (x := (-2000000005 : Int64)) hs t0 (by omega) (by omega) (by omega)
      have k3 : s_du (s_wdu (tl T x.toInt64 k (fun i => dropTo (s_tm T) (s_du T 10 i))) 6 k (-2000000005 : Int64)) 0 k = 3 := by rw [du_wdu, if_neg (by omega)]; exact tk3
      have k0 : s_du (s_wdu (tl T x.toInt64 k (fun i => dropTo (s_tm T) (s_du T 10 i))) 6 k (-2000000005 : Int64)) 0 k ≠ (-2000000005 : Int64) := by rw [k3]; decide
      refine mGet (s := vp_updL s (14 * k + 7) (-2000000005 : Int64)) (m_ws_m_s r _) rfl (by omega) (c := 9) rfl (by omega) ?_
      have e10 : vp_updL s (14 * k + 7) (-2000000005 : Int64) (14 * k + 9) = s_du T 10 k := by
        have := hs2.f3 (f := 10) k3 (by omega)
        rw [du_wdu, if_neg (by omega), tl_du, if_neg (by omega)] at this
        exact this
      have etm : m_s (m_ws r (vp_updL s (14 * k + 7) (-2000000005 : Int64))) 3700 = s_tm T := by
        rw [m_ws_m_s]
        exact hs2.tm
      rw [e10, etm]
      have fin : ∀ t, t = dropTo (s_tm T) (s_du T 10 k) → PX7_tick (m_ws r (vp_updL s (14 * k + 7) (-2000000005 : Int64))) (nI k) t (fun r_16 => ∀ z : Int32, z = nI k + 1 → LX7_drop_33 x y post (m + 1) z r_16) := fun t ht => by
        refine mTick2 hs2 rfl k0 (fun s3 hs3 => nx s3 ?_)
        have e1 := tl_yes (g := fun i => dropTo (s_tm T) (s_du T 10 i)) q2
        rw [ht] at hs3
        rw [← e1]
        exact hs3
      have hdd := hd (s_du T 10 k)
      exact ⟨fun q3 => fin _ (by rw [hdd, if_pos q3]), fun q3 => fin _ (by rw [hdd, if_neg q3])⟩
    · rw [d6] at q
      rw [tl_no (by rw [q]; exact fun z => hx z.symm)] at hs
      exact hs
theorem tl0_MS {s : Nat → Int64} {T : StV} (h : MS s T) (a : Int64) (g : Nat → Int64) : MS s (tl T a 0 g) := by rw [tl_0]; exact h
theorem aClose_du (T : StV) (k f i : Nat) : s_du (aClose T k) f i = if i = k then (-2000000005 : Int64) else s_du T f i := rfl
theorem mDrop {r : MmV} {Z : Zt} (h : MK r Z) (hI : IT Z.1) {x : Int32} {post : Int64 → MmV → Prop} (hp : ∀ r', MK r' (zDrop Z x).2 → post (zDrop Z x).1 r') : PX7_drop r x post := by
  unfold PX7_drop
  refine mIsDue rfl h.1 (fun d => b1 ?_) (fun d => b0 ?_)
  · obtain ⟨k, hk, ex, ek, hd⟩ := h.1.k d
    have e : zDrop Z x = (s_du Z.1 1 k, (aClose (aTell Z.1 x.toInt64 (fun i => dropTo (s_tm Z.1) (s_du Z.1 10 i))) k, (zKeep Z).2)) := by
      unfold zDrop
      rw [if_neg (fun z => z d), ek]
    rw [e] at hp
    have hx : x.toInt64 ≠ (-2000000005 : Int64) := by rw [ex, nI_l (by omega)]; exact lN_ne (by omega)
    refine mKeep h (fun r1 hr1 _ => ?_)
    have hm : MS (m_s r1) Z.1 := hr1.1
    refine mGet rfl ex hk (c := 2) rfl (by omega) (mPut rfl ex hk (c := 0) rfl (by omega) ?_)
    have e1 : m_s r1 (14 * k + 2) = s_du Z.1 1 k := hm.f (f := 1) hd (by omega) (by omega) (by omega)
    rw [e1]
    have hc : MS (vp_updL (m_s r1) (14 * k + 0) 0) (aClose Z.1 k) := hm.close hk
    refine ⟨201, mDrop_loop (T := aClose Z.1 k) hx (fun i q => ?_) (fun q => dropTo_eq hI q) (fun s' hs' => hp _ (hr1.ws ?_)) 200 0 _ (by omega) (tl0_MS hc _ _)⟩
    · rw [aClose_du] at q ⊢
      by_cases hi : i = k
      · rw [if_pos hi] at q; exact absurd rfl q
      · rw [if_neg hi] at q ⊢; exact hI.ah3 i q
    · rw [tl_200 (fun i hi q => by
        rw [aClose_du] at q
        split at q
        · exact hx q.symm
        · exact hx (by rw [← q]; exact hI.2.2.1 i 6 (hI.2.2.2.1 i hi)))] at hs'
      have e2 : aTell (aClose Z.1 k) x.toInt64 (fun i => dropTo (s_tm (aClose Z.1 k)) (s_du (aClose Z.1 k) 10 i)) = aClose (aTell Z.1 x.toInt64 (fun i => dropTo (s_tm Z.1) (s_du Z.1 10 i))) k := by
        refine st_ext (by simp only [aTell_tm, aClose_tm]) (by simp only [aTell_pl, aClose_pl]) (by simp only [aTell_go, aClose_go]) (by simp only [aTell_mv, aClose_mv]) (by simp only [aTell_en, aClose_en]) (by simp only [aTell_rs, aClose_rs]) (fun f i => ?_) (fun _ _ => by simp only [aTell_ro, aClose_ro])
        show (if s_du (aClose Z.1 k) 6 i = x.toInt64 then (if f = 6 then (-2000000005 : Int64) else if f = 2 then dropTo (s_tm Z.1) (s_du (aClose Z.1 k) 10 i) else if f = 11 then 0 else s_du (aClose Z.1 k) f i) else s_du (aClose Z.1 k) f i) = (if i = k then (-2000000005 : Int64) else (if s_du Z.1 6 i = x.toInt64 then (if f = 6 then (-2000000005 : Int64) else if f = 2 then dropTo (s_tm Z.1) (s_du Z.1 10 i) else if f = 11 then 0 else s_du Z.1 f i) else s_du Z.1 f i))
        rw [aClose_du, aClose_du, aClose_du]
        by_cases hi : i = k
        · rw [if_pos hi, if_pos hi, if_pos hi, if_pos hi, if_neg (fun z => hx z.symm)]
        · rw [if_neg hi, if_neg hi, if_neg hi, if_neg hi]
      rw [e2] at hs'
      exact hs'
  · have e : zDrop Z x = ((-2000000001 : Int64), Z) := by unfold zDrop; rw [if_pos d]
    rw [e] at hp
    exact hp _ h
/-- tell(due, tick) of the model -/
theorem mTell_loop {r : MmV} {T : StV} {x : Int32} {t : Int64} (hx : x.toInt64 ≠ (-2000000005 : Int64)) (hA : ∀ i, s_du T 6 i ≠ (-2000000005 : Int64) → s_du T 0 i = 3) {post : MmV → Prop} (hp : ∀ s', MS s' (tl T x.toInt64 200 (fun i => mn (t + s_du T 9 i))) → post (m_ws r s')) :
    ∀ m k s, k + m = 200 → MS s (tl T x.toInt64 k (fun i => mn (t + s_du T 9 i))) → LX7_tell_3 x t post (m + 1) (nI k) (m_ws r s) := by
  intro m
  induction m with
  | zero =>
    intro k s hk hs
    obtain rfl : k = 200 := by omega
    rw [LX7_tell_3]
    exact ⟨fun _ => hp s hs, fun q => absurd (by decide) q⟩
  | succ m ih =>
    intro k s hk hs
    rw [LX7_tell_3]
    have d6 : s_du (tl T x.toInt64 k (fun i => mn (t + s_du T 9 i))) 6 k = s_du T 6 k := by rw [tl_du, if_neg (by omega)]
    have nx : ∀ s', MS s' (tl T x.toInt64 (k + 1) (fun i => mn (t + s_du T 9 i))) → ∀ z : Int32, z = nI k + 1 → LX7_tell_3 x t post (m + 1) z (m_ws r s') := fun s' hs' z hz => by
      rw [hz, nI_1]
      exact ih (k + 1) s' (by omega) hs'
    refine ⟨fun q => absurd q ?_, fun _ => mWaits (m_ws_m_s r s) hs (by omega) rfl (fun t0 q => b1 ?_) (fun q => b0 (nx s ?_))⟩
    · rw [show (200 : Int32) = nI 200 from rfl, nI_leI (by omega) (by omega)]; omega
    · rw [d6] at q
      have t3 : s_du T 0 k = 3 := hA k q
      have tk3 : s_du (tl T x.toInt64 k (fun i => mn (t + s_du T 9 i))) 0 k = 3 := by rw [tl_du, if_neg (by omega)]; exact t3
      refine mGet (m_ws_m_s r s) rfl (by omega) (c := 7) rfl (by omega) ?_
      have e6 : s (14 * k + 7) = s_du T 6 k := (hs.f (f := 6) t0 (by omega) (by omega) (by omega)).trans d6
      rw [e6]
      refine ⟨fun q2 => ?_, fun q2 => nx s (by rw [tl_no q2] at hs; exact hs)⟩
      refine mPut2 rfl (by omega) (c := 7) rfl (by omega) ?_
      have hs2 := MS.put (f := 6) (x := (-2000000005 : Int64)) hs t0 (by omega) (by omega) (by omega)
      have k3 : s_du (s_wdu (tl T x.toInt64 k (fun i => mn (t + s_du T 9 i))) 6 k (-2000000005 : Int64)) 0 k = 3 := by rw [du_wdu, if_neg (by omega)]; exact tk3
      have k0 : s_du (s_wdu (tl T x.toInt64 k (fun i => mn (t + s_du T 9 i))) 6 k (-2000000005 : Int64)) 0 k ≠ (-2000000005 : Int64) := by rw [k3]; decide
      refine mGet (s := vp_updL s (14 * k + 7) (-2000000005 : Int64)) (m_ws_m_s r _) rfl (by omega) (c := 8) rfl (by omega) ?_
      have e10 : vp_updL s (14 * k + 7) (-2000000005 : Int64) (14 * k + 8) = s_du T 9 k := by
        have := hs2.f3 (f := 9) k3 (by omega)
        rw [du_wdu, if_neg (by omega), tl_du, if_neg (by omega)] at this
        exact this
      rw [e10]
      rintro _ rfl
      have fin : ∀ z, z = mn (t + s_du T 9 k) → PX7_tick (m_ws r (vp_updL s (14 * k + 7) (-2000000005 : Int64))) (nI k) z (fun r_16 => ∀ z : Int32, z = nI k + 1 → LX7_tell_3 x t post (m + 1) z r_16) := fun z hz => by
        refine mTick2 hs2 rfl k0 (fun s3 hs3 => nx s3 ?_)
        have e1 := tl_yes (g := fun i => mn (t + s_du T 9 i)) q2
        rw [hz] at hs3
        rw [← e1]
        exact hs3
      refine ⟨fun q3 => fin _ ?_, fun q3 => fin _ ?_⟩
      · unfold mn; rw [if_neg (Int64.not_lt.mpr q3)]
      · unfold mn; rw [if_pos (Int64.not_le.mp q3)]
    · rw [d6] at q
      rw [tl_no (by rw [q]; exact fun z => hx z.symm)] at hs
      exact hs
theorem mTell {r : MmV} {s : Nat → Int64} {T : StV} (h : MS s T) {x : Int32} {t : Int64} (hx : x.toInt64 ≠ (-2000000005 : Int64)) (hA : ∀ i, s_du T 6 i ≠ (-2000000005 : Int64) → s_du T 0 i = 3) (hF : ∀ i, 200 ≤ i → s_du T 6 i = (-2000000005 : Int64)) {post : MmV → Prop} (hp : ∀ s', MS s' (aTell T x.toInt64 (fun i => mn (t + s_du T 9 i))) → post (m_ws r s')) : PX7_tell (m_ws r s) x t post := by
  unfold PX7_tell
  refine ⟨201, mTell_loop hx hA (fun s' hs' => hp s' ?_) 200 0 s (by omega) (tl0_MS h _ _)⟩
  rw [tl_200 (fun i hi q => hx (by rw [← q]; exact hF i hi))] at hs'
  exact hs'
