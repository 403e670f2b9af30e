/-! the model's s array: what its methods do, in the normalised state's words -/
def MS (s : Nat → Int64) (T : StV) : Prop := MI s ∧ vM s = T
theorem mcol_le (f : Nat) : mcol f ≤ 12 := by
  unfold mcol
  repeat' (first | omega | split)
theorem mcol_pos (f : Nat) : 1 ≤ mcol f := by
  unfold mcol
  repeat' (first | omega | split)
theorem mcol_0 : mcol 0 = 1 := rfl
theorem mcol_inj {f g : Nat} (hf : f < 12) (hg : g < 12) (h : mcol f = mcol g) : f = g := by
  unfold mcol at h
  repeat' split at h
  all_goals omega
theorem updL_at (s : Nat → Int64) (k : Nat) (x : Int64) : vp_updL s k x k = x := if_pos rfl
theorem updL_ne {s : Nat → Int64} {k j : Nat} {x : Int64} (h : j ≠ k) : vp_updL s k x j = s j := if_neg h
theorem vM_tm (s : Nat → Int64) : s_tm (vM s) = s 3700 := rfl
theorem vM_pl (s : Nat → Int64) : s_pl (vM s) = s 3701 := rfl
theorem vM_go (s : Nat → Int64) : s_go (vM s) = s 3703 := rfl
theorem vM_mv (s : Nat → Int64) : s_mv (vM s) = s 3704 := rfl
theorem vM_en (s : Nat → Int64) : s_en (vM s) = 0 := rfl
theorem vM_rs (s : Nat → Int64) : s_rs (vM s) = (s 3702).toInt32 := rfl
theorem vM_ro (s : Nat → Int64) (k i : Nat) : s_ro (vM s) k i = if k < 3 ∧ i < (s 3702).toInt32.toNatClampNeg then s (2800 + 3 * i + k) else 0 := rfl
theorem MS.du {s : Nat → Int64} {T : StV} (h : MS s T) (f i : Nat) : s_du T f i = rM s i f := by rw [← h.2]; rfl
theorem MS.tm {s : Nat → Int64} {T : StV} (h : MS s T) : s 3700 = s_tm T := by rw [← h.2]; rfl
theorem MS.pl {s : Nat → Int64} {T : StV} (h : MS s T) : s 3701 = s_pl T := by rw [← h.2]; rfl
theorem MS.go {s : Nat → Int64} {T : StV} (h : MS s T) : s 3703 = s_go T := by rw [← h.2]; rfl
theorem MS.mv {s : Nat → Int64} {T : StV} (h : MS s T) : s 3704 = s_mv T := by rw [← h.2]; rfl
theorem MS.rs {s : Nat → Int64} {T : StV} (h : MS s T) : (s 3702).toInt32 = s_rs T := by rw [← h.2]; rfl
theorem MS.far {s : Nat → Int64} {T : StV} (h : MS s T) {k : Nat} (hk : 200 ≤ k) (f : Nat) : s_du T f k = (-2000000005 : Int64) := by
  rw [h.du]
  unfold rM
  rw [if_neg (by omega)]
theorem rM_in {s : Nat → Int64} {k : Nat} (h1 : k < 200) (h2 : s (14 * k) = 1) : rM s k = nrm (fun f => s (14 * k + mcol f)) := by
  unfold rM
  rw [if_pos ⟨h1, h2⟩]
theorem rM_out {s : Nat → Int64} {k : Nat} (h : ¬ (k < 200 ∧ s (14 * k) = 1)) : rM s k = fun _ => (-2000000005 : Int64) := by
  unfold rM
  rw [if_neg h]
theorem MS.there {s : Nat → Int64} {T : StV} (h : MS s T) {k : Nat} : s_du T 0 k ≠ (-2000000005 : Int64) ↔ k < 200 ∧ s (14 * k) = 1 := by
  rw [h.du]
  by_cases q : k < 200 ∧ s (14 * k) = 1
  · rw [rM_in q.1 q.2, nrm_0]
    exact ⟨fun _ => q, fun _ => h.1.2 k q.1 q.2⟩
  · rw [rM_out q]
    exact ⟨fun z => absurd rfl z, fun z => absurd z q⟩
theorem MS.f {s : Nat → Int64} {T : StV} (h : MS s T) {k f : Nat} (hk : s_du T 0 k ≠ (-2000000005 : Int64)) (hf : f < 12) (h9 : f ≠ 9) (h10 : f ≠ 10) : s (14 * k + mcol f) = s_du T f k := by
  obtain ⟨a, b⟩ := h.there.mp hk
  rw [h.du, rM_in a b, nrm_f (h.1.2 k a b) hf h9 h10]
theorem MS.f3 {s : Nat → Int64} {T : StV} (h : MS s T) {k f : Nat} (hk : s_du T 0 k = 3) (hf : f < 12) : s (14 * k + mcol f) = s_du T f k := by
  obtain ⟨a, b⟩ := h.there.mp (by rw [hk]; decide)
  have k3 : s (14 * k + 1) = 3 := by
    rw [h.du, rM_in a b, nrm_0] at hk
    exact hk
  rw [h.du, rM_in a b, nrm_3 k3 hf]
theorem MS.k {s : Nat → Int64} {T : StV} (h : MS s T) {x : Int32} (d : dI T x) : ∃ k : Nat, k < 200 ∧ x = nI k ∧ x.toNatClampNeg = k ∧ s_du T 0 k ≠ (-2000000005 : Int64) := by
  obtain ⟨j, j1, j2, j3⟩ := i_nn d.1
  have hd := d.2
  rw [j3] at hd
  exact ⟨j, (h.there.mp hd).1, j2, j3, hd⟩
/-- the same numbers, the same state -/
theorem vM_ext {s s' : Nat → Int64} {T : StV} (h1 : s' 3700 = s_tm T) (h2 : s' 3701 = s_pl T) (h3 : s' 3703 = s_go T) (h4 : s' 3704 = s_mv T) (h5 : s_en T = 0) (h6 : (s' 3702).toInt32 = s_rs T) (h7 : ∀ f i, rM s' i f = s_du T f i) (h8 : ∀ k i, (if k < 3 ∧ i < (s' 3702).toInt32.toNatClampNeg then s' (2800 + 3 * i + k) else 0) = s_ro T k i) : vM s' = T :=
  st_ext h1 h2 h3 h4 h5.symm h6 h7 h8
theorem MS.en {s : Nat → Int64} {T : StV} (h : MS s T) : s_en T = 0 := by rw [← h.2]; rfl
theorem MS.ro {s : Nat → Int64} {T : StV} (h : MS s T) (k i : Nat) : s_ro T k i = if k < 3 ∧ i < (s 3702).toInt32.toNatClampNeg then s (2800 + 3 * i + k) else 0 := by rw [← h.2]; rfl
theorem rM_congr {s s' : Nat → Int64} {i : Nat} (h : ∀ c, c ≤ 12 → i < 200 → s' (14 * i + c) = s (14 * i + c)) : rM s' i = rM s i := by
  by_cases hi : i < 200
  · have h0 := h 0 (by omega) hi
    rw [Nat.add_zero] at h0
    by_cases q : s (14 * i) = 1
    · rw [rM_in hi (h0.trans q), rM_in hi q]
      exact nrm_congr (fun f _ => h _ (mcol_le f) hi)
    · rw [rM_out (fun z => q (h0.symm.trans z.2)), rM_out (fun z => q z.2)]
  · rw [rM_out (fun z => hi z.1), rM_out (fun z => hi z.1)]
/-- a number beside the dues' table -/
theorem MS.big {s : Nat → Int64} {T : StV} (h : MS s T) {j : Nat} (hj : 2800 ≤ j) (x : Int64) (i : Nat) : rM (vp_updL s j x) i = rM s i := rM_congr (fun c hc hi => updL_ne (by omega))
theorem MI.big {s : Nat → Int64} (h : MI s) {j : Nat} (hj : 2800 ≤ j) (hj2 : j ≠ 3702) (x : Int64) : MI (vp_updL s j x) := by
  obtain ⟨⟨n, hn, e⟩, h2⟩ := h
  refine ⟨⟨n, hn, by rw [updL_ne (Ne.symm hj2)]; exact e⟩, fun k hk q => ?_⟩
  rw [updL_ne (by omega)] at q ⊢
  exact h2 k hk q
theorem MS.wtm {s : Nat → Int64} {T : StV} (h : MS s T) (x : Int64) : MS (vp_updL s 3700 x) (s_wtm T x) := by
  refine ⟨h.1.big (by omega) (by omega) x, vM_ext (s := s) ?_ ?_ ?_ ?_ h.en ?_ (fun f i => ?_) (fun k i => ?_)⟩
  · rw [updL_at]; rfl
  · rw [updL_ne (by omega)]; exact h.pl
  · rw [updL_ne (by omega)]; exact h.go
  · rw [updL_ne (by omega)]; exact h.mv
  · rw [updL_ne (by omega)]; exact h.rs
  · rw [h.big (by omega)]; exact (h.du f i).symm
  · rw [updL_ne (show (3702 : Nat) ≠ 3700 by omega)]
    refine Eq.trans ?_ (h.ro k i).symm
    obtain ⟨⟨n, hn, e⟩, -⟩ := h.1
    rw [e, lN_i, nI_clamp (by omega)]
    by_cases q : k < 3 ∧ i < n
    · rw [if_pos q, if_pos q, updL_ne (by omega)]
    · rw [if_neg q, if_neg q]
theorem MS.wpl {s : Nat → Int64} {T : StV} (h : MS s T) (x : Int64) : MS (vp_updL s 3701 x) (s_wpl T x) := by
  refine ⟨h.1.big (by omega) (by omega) x, vM_ext (s := s) ?_ ?_ ?_ ?_ h.en ?_ (fun f i => ?_) (fun k i => ?_)⟩
  · rw [updL_ne (by omega)]; exact h.tm
  · rw [updL_at]; rfl
  · rw [updL_ne (by omega)]; exact h.go
  · rw [updL_ne (by omega)]; exact h.mv
  · rw [updL_ne (by omega)]; exact h.rs
  · rw [h.big (by omega)]; exact (h.du f i).symm
  · rw [updL_ne (show (3702 : Nat) ≠ 3701 by omega)]
    refine Eq.trans ?_ (h.ro k i).symm
    obtain ⟨⟨n, hn, e⟩, -⟩ := h.1
    rw [e, lN_i, nI_clamp (by omega)]
    by_cases q : k < 3 ∧ i < n
    · rw [if_pos q, if_pos q, updL_ne (by omega)]
    · rw [if_neg q, if_neg q]
theorem MS.wgo {s : Nat → Int64} {T : StV} (h : MS s T) (x : Int64) : MS (vp_updL s 3703 x) (s_wgo T x) := by
  refine ⟨h.1.big (by omega) (by omega) x, vM_ext (s := s) ?_ ?_ ?_ ?_ h.en ?_ (fun f i => ?_) (fun k i => ?_)⟩
  · rw [updL_ne (by omega)]; exact h.tm
  · rw [updL_ne (by omega)]; exact h.pl
  · rw [updL_at]; rfl
  · rw [updL_ne (by omega)]; exact h.mv
  · rw [updL_ne (by omega)]; exact h.rs
  · rw [h.big (by omega)]; exact (h.du f i).symm
  · rw [updL_ne (show (3702 : Nat) ≠ 3703 by omega)]
    refine Eq.trans ?_ (h.ro k i).symm
    obtain ⟨⟨n, hn, e⟩, -⟩ := h.1
    rw [e, lN_i, nI_clamp (by omega)]
    by_cases q : k < 3 ∧ i < n
    · rw [if_pos q, if_pos q, updL_ne (by omega)]
    · rw [if_neg q, if_neg q]
theorem MS.wmv {s : Nat → Int64} {T : StV} (h : MS s T) (x : Int64) : MS (vp_updL s 3704 x) (s_wmv T x) := by
  refine ⟨h.1.big (by omega) (by omega) x, vM_ext (s := s) ?_ ?_ ?_ ?_ h.en ?_ (fun f i => ?_) (fun k i => ?_)⟩
  · rw [updL_ne (by omega)]; exact h.tm
  · rw [updL_ne (by omega)]; exact h.pl
  · rw [updL_ne (by omega)]; exact h.go
  · rw [updL_at]; rfl
  · rw [updL_ne (by omega)]; exact h.rs
  · rw [h.big (by omega)]; exact (h.du f i).symm
  · rw [updL_ne (show (3702 : Nat) ≠ 3704 by omega)]
    refine Eq.trans ?_ (h.ro k i).symm
    obtain ⟨⟨n, hn, e⟩, -⟩ := h.1
    rw [e, lN_i, nI_clamp (by omega)]
    by_cases q : k < 3 ∧ i < n
    · rw [if_pos q, if_pos q, updL_ne (by omega)]
    · rw [if_neg q, if_neg q]
/-- one place of a due that is there -/
theorem MS.put {s : Nat → Int64} {T : StV} (h : MS s T) {k f : Nat} {x : Int64} (hk : s_du T 0 k ≠ (-2000000005 : Int64)) (hf : f < 12) (h0 : f ≠ 0) (h9 : f = 9 ∨ f = 10 → s_du T 0 k = 3) : MS (vp_updL s (14 * k + mcol f) x) (s_wdu T f k x) := by
  obtain ⟨k2, kt⟩ := h.there.mp hk
  have hm := mcol_le f
  have hm1 := mcol_pos f
  have hm0 : mcol f ≠ 1 := fun q => h0 (mcol_inj hf (by omega) (q.trans mcol_0.symm))
  obtain ⟨⟨n, hn, e⟩, h2⟩ := id h.1
  have hother : ∀ j, 2800 ≤ j → vp_updL s (14 * k + mcol f) x j = s j := fun j hj => updL_ne (by omega)
  refine ⟨⟨⟨n, hn, by rw [hother _ (by omega)]; exact e⟩, fun i hi q => ?_⟩, vM_ext (s := s) ?_ ?_ ?_ ?_ h.en ?_ (fun a i => ?_) (fun a i => ?_)⟩
  · rw [updL_ne (by omega)] at q
    rw [updL_ne (by omega)]
    exact h2 i hi q
  · rw [hother _ (by omega)]; exact h.tm
  · rw [hother _ (by omega)]; exact h.pl
  · rw [hother _ (by omega)]; exact h.go
  · rw [hother _ (by omega)]; exact h.mv
  · rw [hother _ (by omega)]; exact h.rs
  · rw [du_wdu, h.du]
    by_cases hi : i = k
    · subst hi
      have t' : vp_updL s (14 * i + mcol f) x (14 * i) = 1 := by rw [updL_ne (by omega)]; exact kt
      have d0 : vp_updL s (14 * i + mcol f) x (14 * i + mcol 0) = s (14 * i + mcol 0) := updL_ne (by rw [mcol_0]; omega)
      have kn : s (14 * i + mcol 0) ≠ (-2000000005 : Int64) := h2 i k2 kt
      rw [rM_in k2 t', rM_in k2 kt]
      by_cases h12 : a < 12
      · by_cases haf : a = f
        · subst haf
          rw [if_pos ⟨rfl, rfl⟩]
          by_cases h910 : a = 9 ∨ a = 10
          · have k3 := h9 h910
            rw [h.du, rM_in k2 kt, nrm_0] at k3
            rw [nrm_3 (by rw [d0]; exact k3) h12, updL_at]
          · rw [nrm_f (by rw [d0]; exact kn) h12 (by omega) (by omega), updL_at]
        · rw [if_neg (fun q => haf q.1)]
          have da : vp_updL s (14 * i + mcol f) x (14 * i + mcol a) = s (14 * i + mcol a) := updL_ne (fun q => haf (mcol_inj h12 hf (by omega)))
          by_cases h910 : a = 9 ∨ a = 10
          · by_cases k3 : s (14 * i + mcol 0) = 3
            · rw [nrm_3 (by rw [d0]; exact k3) h12, nrm_3 k3 h12, da]
            · rw [nrm_n3 (by rw [d0]; exact k3) h910, nrm_n3 k3 h910]
          · rw [nrm_f (by rw [d0]; exact kn) h12 (by omega) (by omega), nrm_f kn h12 (by omega) (by omega), da]
      · rw [if_neg (by omega), nrm_big (by omega), nrm_big (by omega)]
    · rw [if_neg (fun q => hi q.2)]
      exact congrFun (rM_congr (fun c hc hi2 => updL_ne (by omega))) a
  · rw [hother 3702 (by omega)]
    refine Eq.trans ?_ (h.ro a i).symm
    by_cases q : a < 3 ∧ i < (s 3702).toInt32.toNatClampNeg
    · rw [if_pos q, if_pos q, hother _ (by omega)]
    · rw [if_neg q, if_neg q]
/-- a due is one no more -/
theorem MS.close {s : Nat → Int64} {T : StV} (h : MS s T) {k : Nat} (hk : k < 200) : MS (vp_updL s (14 * k) 0) (aClose T k) := by
  obtain ⟨⟨n, hn, e⟩, h2⟩ := id h.1
  have hother : ∀ j, 2800 ≤ j → vp_updL s (14 * k) 0 j = s j := fun j hj => updL_ne (by omega)
  refine ⟨⟨⟨n, hn, by rw [hother _ (by omega)]; exact e⟩, fun i hi q => ?_⟩, vM_ext (s := s) ?_ ?_ ?_ ?_ h.en ?_ (fun a i => ?_) (fun a i => ?_)⟩
  · by_cases hi2 : i = k
    · rw [hi2, updL_at] at q
      exact absurd q (by decide)
    · rw [updL_ne (by omega)] at q
      rw [updL_ne (by omega)]
      exact h2 i hi q
  · rw [hother _ (by omega)]; exact h.tm
  · rw [hother _ (by omega)]; exact h.pl
  · rw [hother _ (by omega)]; exact h.go
  · rw [hother _ (by omega)]; exact h.mv
  · rw [hother _ (by omega)]; exact h.rs
  · show rM (vp_updL s (14 * k) 0) i a = (if i = k then (-2000000005 : Int64) else s_du T a i)
    by_cases hi : i = k
    · rw [if_pos hi, rM_out (fun q => by rw [hi, updL_at] at q; exact absurd q.2 (by decide))]
    · rw [if_neg hi, h.du]
      exact congrFun (rM_congr (fun c hc hi2 => updL_ne (by omega))) a
  · rw [hother 3702 (by omega)]
    refine Eq.trans ?_ (h.ro a i).symm
    by_cases q : a < 3 ∧ i < (s 3702).toInt32.toNatClampNeg
    · rw [if_pos q, if_pos q, hother _ (by omega)]
    · rw [if_neg q, if_neg q]
/-- reads and writes -/
theorem m_ix (k c : Nat) : (14 : Int32) * nI k + nI c = nI (14 * k + c) := by
  rw [show (14 : Int32) = nI 14 from rfl, pk_mul, nI_add]
theorem mGet {r : MmV} {s : Nat → Int64} (es : m_s r = s) {k c : Nat} {x y : Int32} (hx : x = nI k) (hk : k < 200) (hy : y = nI c) (hc : c < 14) {post : Int64 → Prop} (hp : post (s (14 * k + c))) : PX7_get r x y post := by
  subst hx; subst hy; subst es
  unfold PX7_get
  rw [m_ix, nI_clamp (by omega)]
  exact ⟨vp_in_nI (by omega) (by omega), hp⟩
theorem mPut {r : MmV} {s : Nat → Int64} (es : m_s r = s) {k c : Nat} {x y : Int32} {v : Int64} (hx : x = nI k) (hk : k < 200) (hy : y = nI c) (hc : c < 14) {post : MmV → Prop} (hp : post (m_ws r (vp_updL s (14 * k + c) v))) : PX7_put r x y v post := by
  subst hx; subst hy; subst es
  unfold PX7_put
  rw [m_ix, nI_clamp (by omega)]
  refine ⟨vp_in_nI (by omega) (by omega), ?_⟩
  rintro _ rfl
  exact hp
theorem mIsIn {a b c : Int64} {post : Int32 → Prop} (h1 : b ≤ a → a ≤ c → post 1) (h0 : ¬ (b ≤ a ∧ a ≤ c) → post 0) : PX7_isIn a b c post := by
  unfold PX7_isIn
  refine ⟨fun q => h0 (fun z => Int64.not_le.mpr q z.1), fun q => ⟨fun q2 => h0 (fun z => Int64.not_le.mpr q2 z.2), fun q2 => h1 (Int64.not_lt.mp q) (Int64.not_lt.mp q2)⟩⟩
theorem i64_199 (x : Int32) : ((0 : Int64) ≤ x.toInt64 ∧ x.toInt64 ≤ (199 : Int64)) ↔ ∃ k : Nat, k < 200 ∧ x = nI k := by
  constructor
  · intro h
    have h1 : ¬ x < 0 := by
      intro q
      rw [Int64.le_iff_toInt_le] at h
      have := Int32.lt_iff_toInt_lt.mp q
      simp at h this
      omega
    obtain ⟨j, j1, j2⟩ := nI_of h1
    refine ⟨j, ?_, j2⟩
    rw [j2, nI_l j1] at h
    have := h.2
    rw [show (199 : Int64) = lN 199 from rfl, lN_le j1 (by omega)] at this
    omega
  · rintro ⟨k, hk, rfl⟩
    rw [nI_l (by omega)]
    exact ⟨(lN_le (a := 0) (b := k) (by omega) (by omega)).mpr (by omega), (lN_le (a := k) (b := 199) (by omega) (by omega)).mpr (by omega)⟩
theorem mIsDue {r : MmV} {s : Nat → Int64} {T : StV} (es : m_s r = s) (h : MS s T) {x : Int32} {post : Int32 → Prop} (h1 : dI T x → post 1) (h0 : ¬ dI T x → post 0) : PX7_isDue r x post := by
  unfold PX7_isDue
  refine mIsIn (fun a b => b1 ?_) (fun q => b0 (h0 (fun d => ?_)))
  · obtain ⟨k, hk, rfl⟩ := (i64_199 x).mp ⟨a, b⟩
    refine mGet es rfl hk (c := 0) rfl (by omega) ?_
    have hd : dI T (nI k) ↔ s_du T 0 k ≠ (-2000000005 : Int64) := by
      unfold dI
      rw [nI_clamp (by omega)]
      exact ⟨fun z => z.2, fun z => ⟨nI_pos (by omega), z⟩⟩
    refine ⟨fun q => h1 (hd.mpr (h.there.mpr ⟨hk, q⟩)), fun q => h0 (fun d => q (h.there.mp (hd.mp d)).2)⟩
  · obtain ⟨k, hk, e, -⟩ := h.k d
    exact q ((i64_199 x).mpr ⟨k, hk, e⟩)
theorem mHas {r : MmV} {s : Nat → Int64} {T : StV} (es : m_s r = s) (h : MS s T) {k : Nat} (hk : k < 200) {x : Int32} (hx : x = nI k) {post : Int32 → Prop} (h1 : s_du T 0 k ≠ (-2000000005 : Int64) → s_du T 2 k ≠ (-2000000005 : Int64) → post 1) (h0 : s_du T 2 k = (-2000000005 : Int64) → post 0) : PX7_hasTick r x post := by
  subst hx
  unfold PX7_hasTick
  have hd : dI T (nI k) ↔ s_du T 0 k ≠ (-2000000005 : Int64) := by
    unfold dI
    rw [nI_clamp (by omega)]
    exact ⟨fun z => z.2, fun z => ⟨nI_pos (by omega), z⟩⟩
  refine mIsDue es h (fun d => b1 ?_) (fun d => b0 (h0 ?_))
  · refine mGet es rfl hk (c := 3) rfl (by omega) ?_
    have e2 : s (14 * k + 3) = s_du T 2 k := h.f (f := 2) (hd.mp d) (by omega) (by omega) (by omega)
    rw [e2]
    exact ⟨fun q => h0 q, fun q => h1 (hd.mp d) q⟩
  · have : ¬ (k < 200 ∧ s (14 * k) = 1) := fun z => d (hd.mpr (h.there.mpr z))
    rw [h.du, rM_out this]
theorem mWaits {r : MmV} {s : Nat → Int64} {T : StV} (es : m_s r = s) (h : MS s T) {k : Nat} (hk : k < 200) {x : Int32} (hx : x = nI k) {post : Int32 → Prop} (h1 : s_du T 0 k ≠ (-2000000005 : Int64) → s_du T 6 k ≠ (-2000000005 : Int64) → post 1) (h0 : s_du T 6 k = (-2000000005 : Int64) → post 0) : PX7_waits r x post := by
  subst hx
  unfold PX7_waits
  have hd : dI T (nI k) ↔ s_du T 0 k ≠ (-2000000005 : Int64) := by
    unfold dI
    rw [nI_clamp (by omega)]
    exact ⟨fun z => z.2, fun z => ⟨nI_pos (by omega), z⟩⟩
  refine mIsDue es h (fun d => b1 ?_) (fun d => b0 (h0 ?_))
  · refine mGet es rfl hk (c := 7) rfl (by omega) ?_
    have e2 : s (14 * k + 7) = s_du T 6 k := h.f (f := 6) (hd.mp d) (by omega) (by omega) (by omega)
    rw [e2]
    exact ⟨fun q => h0 q, fun q => h1 (hd.mp d) q⟩
  · have : ¬ (k < 200 ∧ s (14 * k) = 1) := fun z => d (hd.mpr (h.there.mpr z))
    rw [h.du, rM_out this]
theorem mRests {r : MmV} {s : Nat → Int64} {T : StV} (es : m_s r = s) (h : MS s T) {k : Nat} (hk : k < 200) {x : Int32} (hx : x = nI k) {post : Int32 → Prop} (h1 : s_du T 0 k ≠ (-2000000005 : Int64) → s_du T 7 k ≠ (-2000000005 : Int64) → post 1) (h0 : s_du T 7 k = (-2000000005 : Int64) → post 0) : PX7_rests r x post := by
  subst hx
  unfold PX7_rests
  have hd : dI T (nI k) ↔ s_du T 0 k ≠ (-2000000005 : Int64) := by
    unfold dI
    rw [nI_clamp (by omega)]
    exact ⟨fun z => z.2, fun z => ⟨nI_pos (by omega), z⟩⟩
  refine mIsDue es h (fun d => b1 ?_) (fun d => b0 (h0 ?_))
  · refine mGet es rfl hk (c := 10) rfl (by omega) ?_
    have e2 : s (14 * k + 10) = s_du T 7 k := h.f (f := 7) (hd.mp d) (by omega) (by omega) (by omega)
    rw [e2]
    exact ⟨fun q => h0 q, fun q => h1 (hd.mp d) q⟩
  · have : ¬ (k < 200 ∧ s (14 * k) = 1) := fun z => d (hd.mpr (h.there.mpr z))
    rw [h.du, rM_out this]
theorem mFree_loop {r : MmV} {s : Nat → Int64} {T : StV} (es : m_s r = s) (h : MS s T) {post : Int32 → Prop} (hp : ∀ q, q ≤ 200 → (∀ i, i < q → s_du T 0 i ≠ (-2000000005 : Int64)) → (q < 200 → s_du T 0 q = (-2000000005 : Int64)) → post (nI q)) :
    ∀ m k, k + m = 200 → (∀ i, i < k → s_du T 0 i ≠ (-2000000005 : Int64)) → LX7_freeOne_2 r post (m + 1) (nI k) := by
  intro m
  induction m with
  | zero =>
    intro k hk hb
    obtain rfl : k = 200 := by omega
    rw [LX7_freeOne_2]
    exact ⟨fun _ => hp 200 (by omega) hb (fun q => by omega), fun q => absurd (by decide) q⟩
  | succ m ih =>
    intro k hk hb
    rw [LX7_freeOne_2]
    refine ⟨fun q => absurd q ?_, fun _ => mGet es rfl (by omega) (c := 0) rfl (by omega) ⟨fun q => ?_, fun q => ?_⟩⟩
    · rw [show (200 : Int32) = nI 200 from rfl, nI_leI (by omega) (by omega)]; omega
    · rintro _ rfl
      rw [nI_1]
      refine ih (k + 1) (by omega) (fun i hi => ?_)
      by_cases hi2 : i = k
      · subst hi2; exact h.there.mpr ⟨by omega, q⟩
      · exact hb i (by omega)
    · refine hp k (by omega) hb (fun _ => ?_)
      have : ¬ (k < 200 ∧ s (14 * k) = 1) := fun z => q z.2
      rw [h.du, rM_out this]
theorem mFree {r : MmV} {s : Nat → Int64} {T : StV} (es : m_s r = s) (h : MS s T) {post : Int32 → Prop} (hp : post (nI (fr T))) : PX7_freeOne r post := by
  unfold PX7_freeOne
  refine ⟨201, mFree_loop es h (fun q h1 h2 h3 => ?_) 200 0 (by omega) (fun i hi => by omega)⟩
  have : fr T = q := by
    unfold fr
    exact frst_eq h1 (fun i hi => by simpa using h2 i hi) (fun hq => by simpa using h3 hq)
  rw [← this]
  exact hp
/-- tick(k, t) and line(k) -/
theorem mTick {r : MmV} {s : Nat → Int64} {T : StV} (es : m_s r = s) (h : MS s T) {k : Nat} {x : Int32} {t : Int64} (hx : x = nI k) (hk : s_du T 0 k ≠ (-2000000005 : Int64)) {post : MmV → Prop} (hp : ∀ s', MS s' (aTick T k t) → post (m_ws r s')) : PX7_tick r x t post := by
  have k2 := (h.there.mp hk).1
  unfold PX7_tick
  refine mPut es hx k2 (c := 3) rfl (by omega) (mPut (s := vp_updL s (14 * k + 3) t) rfl hx k2 (c := 12) rfl (by omega) ?_)
  exact hp _ (MS.put (f := 11) (MS.put (f := 2) h hk (by omega) (by omega) (by omega)) (th_wdu (by omega) hk) (by omega) (by omega) (by omega))
theorem mLine {r : MmV} {s : Nat → Int64} {T : StV} (es : m_s r = s) (h : MS s T) {k : Nat} {x : Int32} (hx : x = nI k) (hk : s_du T 0 k ≠ (-2000000005 : Int64)) {post : MmV → Prop} (hp : ∀ s', MS s' (aPlace T k) → post (m_ws r s')) : PX7_line r x post := by
  have k2 := (h.there.mp hk).1
  unfold PX7_line
  refine mPut es hx k2 (c := 11) rfl (by omega) ?_
  rintro _ rfl
  have e1 : vp_updL s (14 * k + 11) (m_s r 3701) 3701 = s_pl T := by rw [updL_ne (by omega)]; exact h.pl
  have e2 : m_s r 3701 = s_pl T := by rw [es]; exact h.pl
  have h1 := MS.wpl (MS.put (f := 8) (x := s_pl T) h hk (by omega) (by omega) (by omega)) (s_pl T + 1)
  have e3 : vp_updL (vp_updL s (14 * k + 11) (m_s r 3701)) 3701 (vp_updL s (14 * k + 11) (m_s r 3701) 3701 + 1) = vp_updL (vp_updL s (14 * k + mcol 8) (s_pl T)) 3701 (s_pl T + 1) := by
    rw [e1, e2]
    rfl
  show post (m_ws r (vp_updL (vp_updL s (14 * k + 11) (m_s r 3701)) 3701 (vp_updL s (14 * k + 11) (m_s r 3701) 3701 + 1)))
  rw [e3]
  exact hp _ h1
