/-! reads: about, isOf, went, next, now, count; both sides -/
theorem i64_rng (x : Int32) {n : Nat} (hn : n < 2 ^ 31) : ((0 : Int64) ≤ x.toInt64 ∧ x.toInt64 ≤ lN n) ↔ ∃ k : Nat, k ≤ n ∧ x = nI k := by
  constructor
  · intro h
    have h1 : ¬ x < 0 := by
      intro q
      rw [y_le, i64_of32, x_0] at h
      have := Int32.lt_iff_toInt_lt.mp q
      have e0 : (0 : Int32).toInt = 0 := by decide
      omega
    obtain ⟨j, j1, j2⟩ := nI_of h1
    refine ⟨j, ?_, j2⟩
    rw [j2, nI_l j1] at h
    exact (lN_le j1 hn).mp h.2
  · rintro ⟨k, hk, rfl⟩
    rw [nI_l (by omega)]
    exact ⟨(lN_le (a := 0) (b := k) (by omega) (by omega)).mpr (by omega), (lN_le (by omega) (by omega)).mpr hk⟩
theorem i_rng {y : Int32} {n : Nat} (h0 : ¬ y < 0) (h1 : y < nI n) (hn : n < 2 ^ 31) : ∃ k : Nat, k < n ∧ y = nI k ∧ y.toNatClampNeg = k := by
  obtain ⟨j, j1, j2, j3⟩ := i_nn h0
  rw [j2, nI_ltI j1 hn] at h1
  exact ⟨j, h1, j2, j3⟩
def zAbout (T : StV) (x y : Int32) : Int64 := if ¬ dI T x ∨ y < 0 ∨ ¬ y < 9 then (-2000000001 : Int64) else s_du T y.toNatClampNeg x.toNatClampNeg
theorem cAbout {st : Nat → StV} {cu : Nat} {T : StV} (h : CS (st cu) T) {x y : Int32} {post : Int64 → Prop} (hp : post (zAbout T x y)) : PX6_about st cu x y post := by
  unfold PX6_about
  unfold zAbout at hp
  refine cIsDue2 h (fun d hin => b1 ⟨fun q => ?_, fun q => ⟨fun q2 => ?_, fun q2 => ?_⟩⟩) (fun d => b0 ?_)
  · rw [if_pos (Or.inr (Or.inl q))] at hp; exact hp
  · rw [if_neg (fun z => z.elim (fun z => z d) (fun z => z.elim q (fun z => z q2)))] at hp
    obtain ⟨f, hf, ey, ef⟩ := i_rng (n := 9) q q2 (by omega)
    obtain ⟨k, hk, ex, ek, -, hd⟩ := h.k d
    rw [ef, ek] at hp ⊢
    rw [h.f hd (by omega) (by omega) (by omega)]
    exact ⟨by rw [ey]; exact vp_in_nI (by omega) (by omega), hin, hp⟩
  · rw [if_pos (Or.inr (Or.inr q2))] at hp; exact hp
  · rw [if_pos (Or.inl d)] at hp; exact hp
theorem mAbout {r : MmV} {T : StV} (h : MS (m_s r) T) {x y : Int32} {post : Int64 → Prop} (hp : post (zAbout T x y)) : PX7_about r x y post := by
  unfold PX7_about
  unfold zAbout at hp
  refine mIsDue rfl h (fun d => b1 (mIsIn (fun a b => b1 ?_) (fun q => b0 ?_))) (fun d => b0 ?_)
  · obtain ⟨f, hf, ey⟩ := (i64_rng y (n := 8) (by omega)).mp ⟨a, b⟩
    obtain ⟨k, hk, ex, ek, hd⟩ := h.k d
    have h9 : nI f < 9 := by rw [show (9 : Int32) = nI 9 from rfl, nI_ltI (by omega) (by omega)]; omega
    rw [ey, if_neg (fun z => z.elim (fun z => z d) (fun z => z.elim (nI_pos (by omega)) (fun z => z h9))), nI_clamp (by omega), ek] at hp
    have ne : ∀ c, f ≠ c → c < 100 → ¬ nI f = nI c := fun c hc hc2 z => hc ((nI_eq (by omega) (by omega)).mp z)
    have g : ∀ c : Nat, c < 14 → c = mcol f → ∀ z : Int32, z = nI c → PX7_get r x z post := fun c hc ec z hz => mGet rfl ex hk hz hc (by
      rw [ec, h.f hd (by omega) (by omega) (by omega)]
      exact hp)
    rw [ey]
    rcases (show f = 0 ∨ f = 1 ∨ f = 2 ∨ f = 3 ∨ f = 4 ∨ f = 5 ∨ f = 6 ∨ f = 7 ∨ f = 8 by omega) with rfl | rfl | rfl | rfl | rfl | rfl | rfl | rfl | rfl
    · exact ⟨fun _ => g 1 (by omega) rfl _ rfl, fun q => absurd rfl q⟩
    · exact ⟨fun q => absurd q (by decide), fun _ => ⟨fun _ => g 2 (by omega) rfl _ rfl, fun q => absurd rfl q⟩⟩
    · exact ⟨fun q => absurd q (by decide), fun _ => ⟨fun q => absurd q (by decide), fun _ => ⟨fun _ => g 3 (by omega) rfl _ rfl, fun q => absurd rfl q⟩⟩⟩
    · exact ⟨fun q => absurd q (by decide), fun _ => ⟨fun q => absurd q (by decide), fun _ => ⟨fun q => absurd q (by decide), fun _ => ⟨fun _ => g 4 (by omega) rfl _ rfl, fun q => absurd rfl q⟩⟩⟩⟩
    · exact ⟨fun q => absurd q (by decide), fun _ => ⟨fun q => absurd q (by decide), fun _ => ⟨fun q => absurd q (by decide), fun _ => ⟨fun q => absurd q (by decide), fun _ => ⟨fun _ => g 5 (by omega) rfl _ rfl, fun q => absurd rfl q⟩⟩⟩⟩⟩
    · exact ⟨fun q => absurd q (by decide), fun _ => ⟨fun q => absurd q (by decide), fun _ => ⟨fun q => absurd q (by decide), fun _ => ⟨fun q => absurd q (by decide), fun _ => ⟨fun q => absurd q (by decide), fun _ => ⟨fun _ => g 6 (by omega) rfl _ rfl, fun q => absurd rfl q⟩⟩⟩⟩⟩⟩
    · exact ⟨fun q => absurd q (by decide), fun _ => ⟨fun q => absurd q (by decide), fun _ => ⟨fun q => absurd q (by decide), fun _ => ⟨fun q => absurd q (by decide), fun _ => ⟨fun q => absurd q (by decide), fun _ => ⟨fun q => absurd q (by decide), fun _ => ⟨fun _ => g 7 (by omega) rfl _ rfl, fun q => absurd rfl q⟩⟩⟩⟩⟩⟩⟩
    · exact ⟨fun q => absurd q (by decide), fun _ => ⟨fun q => absurd q (by decide), fun _ => ⟨fun q => absurd q (by decide), fun _ => ⟨fun q => absurd q (by decide), fun _ => ⟨fun q => absurd q (by decide), fun _ => ⟨fun q => absurd q (by decide), fun _ => ⟨fun q => absurd q (by decide), fun _ => ⟨fun _ => g 10 (by omega) rfl _ rfl, fun q => absurd rfl q⟩⟩⟩⟩⟩⟩⟩⟩
    · exact ⟨fun q => absurd q (by decide), fun _ => ⟨fun q => absurd q (by decide), fun _ => ⟨fun q => absurd q (by decide), fun _ => ⟨fun q => absurd q (by decide), fun _ => ⟨fun q => absurd q (by decide), fun _ => ⟨fun q => absurd q (by decide), fun _ => ⟨fun q => absurd q (by decide), fun _ => ⟨fun q => absurd q (by decide), fun _ => g 11 (by omega) rfl _ rfl⟩⟩⟩⟩⟩⟩⟩⟩
  · have : ¬ dI T x ∨ y < 0 ∨ ¬ y < 9 := by
      by_cases z : y < 0
      · exact Or.inr (Or.inl z)
      · refine Or.inr (Or.inr (fun z2 => q ?_))
        obtain ⟨k, hk, ey, -⟩ := i_rng (n := 9) z z2 (by omega)
        exact (i64_rng y (n := 8) (by omega)).mpr ⟨k, by omega, ey⟩
    rw [if_pos this] at hp
    exact hp
  · rw [if_pos (Or.inl d)] at hp; exact hp
def zIsOf (T : StV) (x y : Int32) : Int64 := if ¬ dI T x ∨ y < 0 ∨ ¬ y < 5 then (-2000000001 : Int64) else if s_du T 0 x.toNatClampNeg = y.toInt64 ∨ (s_du T 0 x.toNatClampNeg = 4 ∧ y = 1) then 1 else 0
theorem of_fin {a y64 : Int64} {y : Int32} {post : Int64 → Prop} (hp : post (if a = y64 ∨ (a = 4 ∧ y = 1) then 1 else 0)) : ((a = y64 → post (1 : Int64)) ∧ (¬ a = y64 → ((a = (4 : Int64) → ((y = (1 : Int32) → post (1 : Int64)) ∧ (¬ y = (1 : Int32) → post (0 : Int64)))) ∧ (¬ a = (4 : Int64) → post (0 : Int64))))) := by
  refine ⟨fun q => ?_, fun q => ⟨fun q2 => ⟨fun q3 => ?_, fun q3 => ?_⟩, fun q2 => ?_⟩⟩
  · rw [if_pos (Or.inl q)] at hp; exact hp
  · rw [if_pos (Or.inr ⟨q2, q3⟩)] at hp; exact hp
  · rw [if_neg (fun z => z.elim q (fun z => q3 z.2))] at hp; exact hp
  · rw [if_neg (fun z => z.elim q (fun z => q2 z.1))] at hp; exact hp
theorem cIsOf {st : Nat → StV} {cu : Nat} {T : StV} (h : CS (st cu) T) {x y : Int32} {post : Int64 → Prop} (hp : post (zIsOf T x y)) : PX6_isOf st cu x y post := by
  unfold PX6_isOf
  unfold zIsOf at hp
  refine cIsDue2 h (fun d hin => b1 ⟨fun q => ?_, fun q => ⟨fun q2 => ⟨hin, ?_⟩, fun q2 => ?_⟩⟩) (fun d => b0 ?_)
  · rw [if_pos (Or.inr (Or.inl q))] at hp; exact hp
  · rw [if_neg (fun z => z.elim (fun z => z d) (fun z => z.elim q (fun z => z q2)))] at hp
    obtain ⟨k, hk, ex, ek, -, hd⟩ := h.k d
    rintro _ rfl
    rw [ek] at hp ⊢
    rw [h.f hd (by omega) (by omega) (by omega)]
    exact of_fin hp
  · rw [if_pos (Or.inr (Or.inr q2))] at hp; exact hp
  · rw [if_pos (Or.inl d)] at hp; exact hp
theorem mIsOf {r : MmV} {T : StV} (h : MS (m_s r) T) {x y : Int32} {post : Int64 → Prop} (hp : post (zIsOf T x y)) : PX7_isOf r x y post := by
  unfold PX7_isOf
  unfold zIsOf at hp
  refine mIsDue rfl h (fun d => b1 (mIsIn (fun a b => b1 ?_) (fun q => b0 ?_))) (fun d => b0 ?_)
  · obtain ⟨f, hf, ey⟩ := (i64_rng y (n := 4) (by omega)).mp ⟨a, b⟩
    obtain ⟨k, hk, ex, ek, hd⟩ := h.k d
    have h1 : ¬ y < 0 := by rw [ey]; exact nI_pos (by omega)
    have h5 : y < 5 := by rw [ey, show (5 : Int32) = nI 5 from rfl, nI_ltI (by omega) (by omega)]; omega
    rw [if_neg (fun z => z.elim (fun z => z d) (fun z => z.elim h1 (fun z => z h5))), ek] at hp
    refine mGet rfl ex hk (c := 1) rfl (by omega) ?_
    have e0 : m_s r (14 * k + 1) = s_du T 0 k := h.f (f := 0) hd (by omega) (by omega) (by omega)
    rw [e0]
    exact of_fin hp
  · have : ¬ dI T x ∨ y < 0 ∨ ¬ y < 5 := by
      by_cases z : y < 0
      · exact Or.inr (Or.inl z)
      · refine Or.inr (Or.inr (fun z2 => q ?_))
        obtain ⟨k, hk, ey, -⟩ := i_rng (n := 5) z z2 (by omega)
        exact (i64_rng y (n := 4) (by omega)).mpr ⟨k, by omega, ey⟩
    rw [if_pos this] at hp
    exact hp
  · rw [if_pos (Or.inl d)] at hp; exact hp
def zWent (T : StV) (x y : Int32) : Int64 := if x < 0 ∨ y < 0 ∨ ¬ y < 3 then (-2000000001 : Int64) else if s_rs T ≤ x then (-2000000005 : Int64) else s_ro T y.toNatClampNeg x.toNatClampNeg
theorem cWent {st : Nat → StV} {cu : Nat} {T : StV} (h : CS (st cu) T) {x y : Int32} {post : Int64 → Prop} (hp : post (zWent T x y)) : PX6_went st cu x y post := by
  unfold PX6_went
  unfold zWent at hp
  refine ⟨fun q => ?_, fun q => ⟨fun q2 => ?_, fun q2 => ⟨fun q3 => ⟨fun q4 => ?_, fun q4 => ?_⟩, fun q3 => ?_⟩⟩⟩
  · rw [if_pos (Or.inl q)] at hp; exact hp
  · rw [if_pos (Or.inr (Or.inl q2))] at hp; exact hp
  · rw [if_neg (fun z => z.elim q (fun z => z.elim q2 (fun z => z q3))), if_pos (by rw [← h.rs]; exact q4)] at hp; exact hp
  · rw [if_neg (fun z => z.elim q (fun z => z.elim q2 (fun z => z q3))), if_neg (by rw [← h.rs]; exact q4)] at hp
    obtain ⟨e, n, he, hn, ee, en, hN⟩ := id h.1
    obtain ⟨j, j1, j2, j3⟩ := i_nn q
    obtain ⟨f, hf, ey, ef⟩ := i_rng (n := 3) q2 q3 (by omega)
    rw [en, j2, nI_leI (by omega) j1] at q4
    refine ⟨by rw [ey]; exact vp_in_nI hf (by omega), by rw [j2]; exact vp_in_nI (by omega) (by omega), ?_⟩
    rw [j3, ef] at hp ⊢
    rw [← h.2, vC_ro, en, nI_clamp (by omega)] at hp
    unfold rwN at hp
    rw [if_pos ⟨hf, by omega⟩] at hp
    exact hp
  · rw [if_pos (Or.inr (Or.inr q3))] at hp; exact hp
theorem mWent {r : MmV} {T : StV} (h : MS (m_s r) T) {x y : Int32} {post : Int64 → Prop} (hp : post (zWent T x y)) : PX7_went r x y post := by
  unfold PX7_went
  unfold zWent at hp
  refine ⟨fun q => ?_, fun q => mIsIn (fun a b => b1 ?_) (fun q2 => b0 ?_)⟩
  · rw [if_pos (Or.inl q)] at hp; exact hp
  · obtain ⟨f, hf, ey⟩ := (i64_rng y (n := 2) (by omega)).mp ⟨a, b⟩
    have h1 : ¬ y < 0 := by rw [ey]; exact nI_pos (by omega)
    have h3 : y < 3 := by rw [ey, show (3 : Int32) = nI 3 from rfl, nI_ltI (by omega) (by omega)]; omega
    rw [if_neg (fun z => z.elim q (fun z => z.elim h1 (fun z => z h3)))] at hp
    obtain ⟨⟨n, hn, e⟩, -⟩ := id h.1
    obtain ⟨j, j1, j2, j3⟩ := i_nn q
    have ers : s_rs T = nI n := by rw [← h.rs, e, lN_i]
    rw [ers, j2] at hp
    rw [e, j2, nI_l j1]
    refine ⟨fun q4 => ?_, fun q4 => ?_⟩
    · rw [lN_le (by omega) j1] at q4
      rw [if_pos ((nI_leI (by omega) j1).mpr q4)] at hp
      exact hp
    · rw [lN_le (by omega) j1] at q4
      rw [if_neg (fun z => q4 ((nI_leI (by omega) j1).mp z)), ey, nI_clamp (by omega), nI_clamp j1, h.ro, e, lN_i, nI_clamp (by omega), if_pos ⟨by omega, by omega⟩] at hp
      rw [ey, show (2800 : Int32) = nI 2800 from rfl, show (3 : Int32) = nI 3 from rfl, pk_mul, nI_add, nI_add, nI_clamp (by omega)]
      exact ⟨vp_in_nI (by omega) (by omega), hp⟩
  · have : x < 0 ∨ y < 0 ∨ ¬ y < 3 := by
      by_cases z : y < 0
      · exact Or.inr (Or.inl z)
      · refine Or.inr (Or.inr (fun z2 => q2 ?_))
        obtain ⟨k, hk, ey, -⟩ := i_rng (n := 3) z z2 (by omega)
        exact (i64_rng y (n := 2) (by omega)).mpr ⟨k, by omega, ey⟩
    rw [if_pos this] at hp
    exact hp
theorem lt_le (T : StV) : ∀ n, lt T n ≤ (1125899906842624 : Int64)
  | 0 => Int64.le_refl _
  | n + 1 => by
    have ih := lt_le T n
    unfold lt
    split
    · exact ih
    · split
      · exact ih
      · rename_i h
        exact Int64.le_trans (Int64.le_of_lt (Int64.not_le.mp h)) ih
theorem mNT_loop {r : MmV} {s : Nat → Int64} {T : StV} (es : m_s r = s) (h : MS s T) {post : Int64 → Prop} (hp : post (lt T 200)) :
    ∀ m k, k + m = 200 → LX7_nextTick_6 r post (m + 1) (lt T k) (nI k) := by
  intro m
  induction m with
  | zero =>
    intro k hk
    obtain rfl : k = 200 := by omega
    rw [LX7_nextTick_6]
    exact ⟨fun _ => hp, fun q => absurd (by decide) q⟩
  | succ m ih =>
    intro k hk
    rw [LX7_nextTick_6]
    have step := ih (k + 1) (by omega)
    rw [lt] at step
    refine ⟨fun q => absurd q ?_, fun _ => mHas es h (by omega) rfl (fun d q => b1 ?_) (fun q => b0 ?_)⟩
    · rw [show (200 : Int32) = nI 200 from rfl, nI_leI (by omega) (by omega)]; omega
    · rw [if_neg q] at step
      have e2 : s (14 * k + 3) = s_du T 2 k := h.f (f := 2) d (by omega) (by omega) (by omega)
      refine mGet es rfl (by omega) (c := 3) rfl (by omega) ?_
      rw [e2]
      refine ⟨fun q2 => ?_, fun q2 => mGet es rfl (by omega) (c := 3) rfl (by omega) ?_⟩
      · rintro _ rfl
        rw [nI_1]
        rw [if_pos q2] at step
        exact step
      · rintro _ rfl
        rw [nI_1, e2]
        rw [if_neg q2] at step
        exact step
    · rintro _ rfl
      rw [nI_1]
      rw [if_pos q] at step
      exact step
theorem mNT {r : MmV} {s : Nat → Int64} {T : StV} (es : m_s r = s) (h : MS s T) {post : Int64 → Prop} (hp : post (lt T 200)) : PX7_nextTick r post := by
  unfold PX7_nextTick
  exact ⟨201, mNT_loop es h hp 200 0 (by omega)⟩
def zNext (T : StV) : Int64 := if (1125899906842624 : Int64) ≤ lt T 200 then (-2000000005 : Int64) else lt T 200
theorem cNext {st : Nat → StV} {cu : Nat} {T : StV} (h : CS (st cu) T) {post : Int64 → Prop} (hp : post (zNext T)) : PX6_next st cu post := by
  unfold PX6_next
  unfold zNext at hp
  exact cLT h (fun q => by rw [if_pos q] at hp; exact hp) (fun q => by rw [if_neg q] at hp; exact hp)
theorem mNext {r : MmV} {T : StV} (h : MS (m_s r) T) {post : Int64 → Prop} (hp : post (zNext T)) : PX7_next r post := by
  unfold PX7_next
  unfold zNext at hp
  refine mNT rfl h ⟨fun q => ?_, fun q => ?_⟩
  · rw [if_pos (by rw [q]; exact Int64.le_refl _)] at hp; exact hp
  · rw [if_neg (fun z => q (Int64.le_antisymm (lt_le T 200) z))] at hp; exact hp
theorem cNow {st : Nat → StV} {cu : Nat} {T : StV} (h : CS (st cu) T) {post : Int64 → Prop} (hp : post (s_tm T)) : PX6_now st cu post := by
  unfold PX6_now
  rw [h.tm]; exact hp
theorem mNow {r : MmV} {T : StV} (h : MS (m_s r) T) {post : Int64 → Prop} (hp : post (s_tm T)) : PX7_now r post := by
  unfold PX7_now
  rw [h.tm]; exact hp
