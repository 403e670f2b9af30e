/-! pure base: numbers, branches, states normalised -/
theorem b1 {A B : Prop} (h : B) : ((1 : Int32) = 0 → A) ∧ (¬ (1 : Int32) = 0 → B) := ⟨fun q => absurd q (by decide), fun _ => h⟩
theorem b0 {A B : Prop} (h : A) : ((0 : Int32) = 0 → A) ∧ (¬ (0 : Int32) = 0 → B) := ⟨fun _ => h, fun q => absurd rfl q⟩
theorem st_ext {a b : StV} (h1 : s_tm a = s_tm b) (h2 : s_pl a = s_pl b) (h3 : s_go a = s_go b) (h4 : s_mv a = s_mv b) (h5 : s_en a = s_en b) (h6 : s_rs a = s_rs b) (h7 : ∀ f i, s_du a f i = s_du b f i) (h8 : ∀ f i, s_ro a f i = s_ro b f i) : a = b := by
  have e7 : s_du a = s_du b := funext fun f => funext fun i => h7 f i
  have e8 : s_ro a = s_ro b := funext fun f => funext fun i => h8 f i
  obtain ⟨a1, a2, a3, a4, a5, a6, a7, a8⟩ := a
  obtain ⟨c1, c2, c3, c4, c5, c6, c7, c8⟩ := b
  simp only [s_tm, s_pl, s_go, s_mv, s_en, s_rs, s_du, s_ro] at h1 h2 h3 h4 h5 h6 e7 e8
  subst h1; subst h2; subst h3; subst h4; subst h5; subst h6; subst e7; subst e8
  rfl
theorem du_wdu (v : StV) (f i : Nat) (x : Int64) (a b : Nat) : s_du (s_wdu v f i x) a b = if a = f ∧ b = i then x else s_du v a b := by
  show va_up (s_du v) f (vp_updL (s_du v f) i x) a b = _
  by_cases h : a = f
  · subst h
    rw [va_up_self]
    by_cases h2 : b = i
    · simp [vp_updL, h2]
    · simp [vp_updL, h2]
  · rw [va_up_ne _ _ h]
    simp [h]
theorem ro_wro (v : StV) (f i : Nat) (x : Int64) (a b : Nat) : s_ro (s_wro v f i x) a b = if a = f ∧ b = i then x else s_ro v a b := by
  show va_up (s_ro v) f (vp_updL (s_ro v f) i x) a b = _
  by_cases h : a = f
  · subst h
    rw [va_up_self]
    by_cases h2 : b = i
    · simp [vp_updL, h2]
    · simp [vp_updL, h2]
  · rw [va_up_ne _ _ h]
    simp [h]
theorem tm_wdu (v : StV) (f i : Nat) (x : Int64) : s_tm (s_wdu v f i x) = s_tm v := rfl
theorem pl_wdu (v : StV) (f i : Nat) (x : Int64) : s_pl (s_wdu v f i x) = s_pl v := rfl
theorem go_wdu (v : StV) (f i : Nat) (x : Int64) : s_go (s_wdu v f i x) = s_go v := rfl
theorem mv_wdu (v : StV) (f i : Nat) (x : Int64) : s_mv (s_wdu v f i x) = s_mv v := rfl
theorem en_wdu (v : StV) (f i : Nat) (x : Int64) : s_en (s_wdu v f i x) = s_en v := rfl
theorem rs_wdu (v : StV) (f i : Nat) (x : Int64) : s_rs (s_wdu v f i x) = s_rs v := rfl
theorem ro_wdu (v : StV) (f i : Nat) (x : Int64) : s_ro (s_wdu v f i x) = s_ro v := rfl
/-- one due's row, normalised: all NONE where there is no due; BEHIND and RESERVE of the chained alone -/
def nrm (g : Nat → Int64) : Nat → Int64 := fun f => if g 0 = (-2000000005 : Int64) then (-2000000005 : Int64) else if f < 12 then (if (f = 9 ∨ f = 10) ∧ g 0 ≠ 3 then (-2000000005 : Int64) else g f) else (-2000000005 : Int64)
def rC (v : StV) (i : Nat) : Nat → Int64 := if i < (s_en v).toNatClampNeg then nrm (fun f => s_du v f i) else fun _ => (-2000000005 : Int64)
def rwN (R : Nat → Nat → Int64) (n : Nat) : Nat → Nat → Int64 := fun k i => if k < 3 ∧ i < n then R k i else 0
def vC (v : StV) : StV := (s_tm v, s_pl v, s_go v, s_mv v, 0, s_rs v, (fun f i => rC v i f), rwN (s_ro v) (s_rs v).toNatClampNeg)
def mcol : Nat → Nat := fun f => if f < 7 then f + 1 else if f = 7 then 10 else if f = 8 then 11 else if f = 9 then 8 else if f = 10 then 9 else 12
def rM (s : Nat → Int64) (i : Nat) : Nat → Int64 := if i < 200 ∧ s (14 * i) = 1 then nrm (fun f => s (14 * i + mcol f)) else fun _ => (-2000000005 : Int64)
def vM (s : Nat → Int64) : StV := (s 3700, s 3701, s 3703, s 3704, 0, (s 3702).toInt32, (fun f i => rM s i f), (fun k i => if k < 3 ∧ i < (s 3702).toInt32.toNatClampNeg then s (2800 + 3 * i + k) else 0))
/-- a state of the class as it always is -/
def CI (v : StV) : Prop := ∃ e n : Nat, e ≤ 200 ∧ n ≤ 300 ∧ s_en v = nI e ∧ s_rs v = nI n ∧ ∀ i, i < e → s_du v 0 i = (-2000000005 : Int64) → ∀ f, f < 11 → s_du v f i = (-2000000005 : Int64)
/-- the model's own -/
def MI (s : Nat → Int64) : Prop := (∃ n : Nat, n ≤ 300 ∧ s 3702 = lN n) ∧ ∀ k, k < 200 → s (14 * k) = 1 → s (14 * k + 1) ≠ (-2000000005 : Int64)
def s_row (T : StV) (k : Nat) (g : Nat → Int64) : StV := s_wDU T (fun f i => if i = k then g f else s_du T f i)
theorem vC_du (v : StV) (f i : Nat) : s_du (vC v) f i = rC v i f := rfl
theorem vM_du (s : Nat → Int64) (f i : Nat) : s_du (vM s) f i = rM s i f := rfl
theorem nrm_0 {g : Nat → Int64} : nrm g 0 = g 0 := by
  unfold nrm
  by_cases h : g 0 = (-2000000005 : Int64)
  · rw [if_pos h, h]
  · rw [if_neg h, if_pos (by omega), if_neg (by omega)]
theorem nrm_f {g : Nat → Int64} {f : Nat} (h : g 0 ≠ (-2000000005 : Int64)) (hf : f < 12) (h9 : f ≠ 9) (h10 : f ≠ 10) : nrm g f = g f := by
  unfold nrm
  rw [if_neg h, if_pos hf, if_neg (by omega)]
theorem nrm_3 {g : Nat → Int64} {f : Nat} (h : g 0 = 3) (hf : f < 12) : nrm g f = g f := by
  unfold nrm
  rw [if_neg (by rw [h]; decide), if_pos hf, if_neg (fun q => q.2 h)]
theorem nrm_N {g : Nat → Int64} {f : Nat} (h : g 0 = (-2000000005 : Int64)) : nrm g f = (-2000000005 : Int64) := by unfold nrm; rw [if_pos h]
theorem nrm_n3 {g : Nat → Int64} {f : Nat} (h : g 0 ≠ 3) (hf : f = 9 ∨ f = 10) : nrm g f = (-2000000005 : Int64) := by
  unfold nrm
  by_cases h0 : g 0 = (-2000000005 : Int64)
  · rw [if_pos h0]
  · rw [if_neg h0, if_pos (by omega), if_pos ⟨hf, h⟩]
theorem nrm_big {g : Nat → Int64} {f : Nat} (hf : 12 ≤ f) : nrm g f = (-2000000005 : Int64) := by
  unfold nrm
  by_cases h0 : g 0 = (-2000000005 : Int64)
  · rw [if_pos h0]
  · rw [if_neg h0, if_neg (by omega)]
theorem nrm_congr {g g' : Nat → Int64} (h : ∀ f, f < 12 → g f = g' f) : nrm g = nrm g' := by
  funext f
  unfold nrm
  rw [h 0 (by omega)]
  by_cases hf : f < 12
  · rw [h f hf]
  · rw [if_neg hf, if_neg hf]
theorem rC_in {v : StV} {e i : Nat} (he : s_en v = nI e) (h2 : e ≤ 200) (hi : i < e) : rC v i = nrm (fun f => s_du v f i) := by
  unfold rC
  rw [he, nI_clamp (by omega), if_pos hi]
theorem rC_out {v : StV} {e i : Nat} (he : s_en v = nI e) (h2 : e ≤ 200) (hi : e ≤ i) : rC v i = fun _ => (-2000000005 : Int64) := by
  unfold rC
  rw [he, nI_clamp (by omega), if_neg (by omega)]
/-- a field of a due below the end, read in the normalised state -/
theorem rC_f {v : StV} {e i f : Nat} (he : s_en v = nI e) (h2 : e ≤ 200) (hN : ∀ i, i < e → s_du v 0 i = (-2000000005 : Int64) → ∀ f, f < 11 → s_du v f i = (-2000000005 : Int64)) (hi : i < e) (hf : f < 9) : rC v i f = s_du v f i := by
  rw [rC_in he h2 hi]
  by_cases h : s_du v 0 i = (-2000000005 : Int64)
  · rw [nrm_N h, hN i hi h f (by omega)]
  · exact nrm_f h (by omega) (by omega) (by omega)
theorem rC_there {v : StV} {e i : Nat} (he : s_en v = nI e) (h2 : e ≤ 200) (h : rC v i 0 ≠ (-2000000005 : Int64)) : i < e ∧ s_du v 0 i ≠ (-2000000005 : Int64) ∧ rC v i = nrm (fun f => s_du v f i) := by
  by_cases hi : i < e
  · rw [rC_in he h2 hi, nrm_0] at h
    exact ⟨hi, h, rC_in he h2 hi⟩
  · rw [rC_out he h2 (by omega)] at h
    exact absurd rfl h
/-- a due's number as an int -/
theorem i_nn {x : Int32} (h : ¬ x < 0) : ∃ j : Nat, j < 2 ^ 31 ∧ x = nI j ∧ x.toNatClampNeg = j := by
  obtain ⟨j, h1, h2⟩ := nI_of h
  exact ⟨j, h1, h2, by rw [h2]; exact nI_clamp h1⟩
abbrev dI (T : StV) (x : Int32) : Prop := ¬ x < 0 ∧ s_du T 0 x.toNatClampNeg ≠ (-2000000005 : Int64)
theorem cIsDue {v : StV} (h : CI v) {x : Int32} {post : Int32 → Prop} (h1 : dI (vC v) x → vp_in x 200 → post 1) (h0 : ¬ dI (vC v) x → post 0) : PX4_isDue v x post := by
  obtain ⟨e, n, he, hn, ee, en, hN⟩ := h
  unfold PX4_isDue
  refine ⟨fun q => h0 (fun d => d.1 q), fun q => ?_⟩
  obtain ⟨j, j1, j2, j3⟩ := i_nn q
  have hd : dI (vC v) x ↔ rC v j 0 ≠ (-2000000005 : Int64) := by
    unfold dI
    rw [vC_du, j3]
    exact ⟨fun d => d.2, fun d => ⟨q, d⟩⟩
  refine ⟨fun q2 => h0 (fun d => ?_), fun q2 => ?_⟩
  · have := (rC_there ee he (hd.mp d)).1
    rw [ee, j2, nI_leI (by omega) (by omega)] at q2
    omega
  · rw [ee, j2, nI_leI (by omega) (by omega)] at q2
    have hj : j < e := by omega
    have hin : vp_in x 200 := by rw [j2]; exact vp_in_nI (by omega) (by omega)
    have hr : rC v j 0 = s_du v 0 j := rC_f ee he hN hj (by omega)
    rw [j3]
    exact ⟨hin, fun q3 => h0 (fun d => by have := hd.mp d; rw [hr] at this; exact this q3), fun q3 => h1 (hd.mpr (by rw [hr]; exact q3)) hin⟩
/-- the least number from k on, within m steps, with p -/
def frst (p : Nat → Bool) : Nat → Nat → Nat
  | 0, k => k
  | m + 1, k => if p k then k else frst p m (k + 1)
theorem frst_spec (p : Nat → Bool) : ∀ m k, k ≤ frst p m k ∧ frst p m k ≤ k + m ∧ (∀ i, k ≤ i → i < frst p m k → p i = false) ∧ (frst p m k < k + m → p (frst p m k) = true)
  | 0, k => ⟨Nat.le_refl _, Nat.le_refl _, fun i h1 h2 => absurd h2 (by show ¬ i < k; omega), fun h => absurd h (by show ¬ k < k + 0; omega)⟩
  | m + 1, k => by
    unfold frst
    by_cases h : p k = true
    · rw [if_pos h]
      exact ⟨Nat.le_refl _, by omega, fun i h1 h2 => by omega, fun _ => h⟩
    · rw [if_neg h]
      obtain ⟨a, b, c, d⟩ := frst_spec p m (k + 1)
      refine ⟨by omega, by omega, fun i h1 h2 => ?_, fun h2 => d (by omega)⟩
      by_cases hi : i = k
      · subst hi; simpa using h
      · exact c i (by omega) h2
theorem frst_eq {p : Nat → Bool} {m q : Nat} (h1 : q ≤ m) (h2 : ∀ i, i < q → p i = false) (h3 : q < m → p q = true) : frst p m 0 = q := by
  obtain ⟨-, b, c, d⟩ := frst_spec p m 0
  rw [Nat.zero_add] at b d
  rcases Nat.lt_trichotomy (frst p m 0) q with h | h | h
  · have := d (by omega)
    rw [h2 _ h] at this
    cases this
  · exact h
  · have := c q (by omega) h
    rw [h3 (by omega)] at this
    cases this
/-- the least number that no due has; 200: none -/
def fr (T : StV) : Nat := frst (fun i => decide (s_du T 0 i = (-2000000005 : Int64))) 200 0
theorem fr_le (T : StV) : fr T ≤ 200 := by
  have := (frst_spec (fun i => decide (s_du T 0 i = (-2000000005 : Int64))) 200 0).2.1
  unfold fr
  omega
theorem fr_none {T : StV} (h : fr T < 200) : s_du T 0 (fr T) = (-2000000005 : Int64) := by
  have := (frst_spec (fun i => decide (s_du T 0 i = (-2000000005 : Int64))) 200 0).2.2.2 (by unfold fr at h; omega)
  unfold fr
  simpa using this
theorem cLF_loop {v : StV} {e : Nat} (he : e ≤ 200) (ee : s_en v = nI e) {post : Int32 → Prop} (hp : ∀ q, q ≤ e → (∀ i, i < q → s_du v 0 i ≠ (-2000000005 : Int64)) → (q < e → s_du v 0 q = (-2000000005 : Int64)) → post (nI q)) :
    ∀ m k, k + m = e → (∀ i, i < k → s_du v 0 i ≠ (-2000000005 : Int64)) → LX4_leastFree_2 v post (m + 1) (nI k) := by
  intro m
  induction m with
  | zero =>
    intro k hk hb
    rw [LX4_leastFree_2, ee]
    refine ⟨fun _ => hp e (Nat.le_refl _) (fun i hi => hb i (by omega)) (fun q => by omega), fun q => absurd (nI_le (by omega) (by omega)) q⟩
  | succ m ih =>
    intro k hk hb
    rw [LX4_leastFree_2, ee]
    refine ⟨fun q => absurd ((nI_leI (by omega) (by omega)).mp q) (by omega), fun _ => ⟨vp_in_nI (by omega) (by omega), ?_⟩⟩
    rw [nI_clamp (by omega)]
    refine ⟨fun q => hp k (by omega) hb (fun _ => q), fun q => ?_⟩
    rintro _ rfl
    rw [nI_1]
    exact ih (k + 1) (by omega) (fun i hi => by
      by_cases h : i = k
      · subst h; exact q
      · exact hb i (by omega))
theorem cLF {v : StV} (h : CI v) {post : Int32 → Prop} (hp : post (nI (fr (vC v)))) : PX4_leastFree v post := by
  obtain ⟨e, n, he, hn, ee, en, hN⟩ := h
  unfold PX4_leastFree
  refine ⟨e + 1, cLF_loop he ee (fun q h1 h2 h3 => ?_) e 0 (by omega) (fun i hi => absurd hi (by omega))⟩
  have : fr (vC v) = q := by
    unfold fr
    refine frst_eq (by omega) (fun i hi => ?_) (fun hq => ?_)
    · rw [vC_du, rC_f ee he hN (by omega) (by omega)]
      simpa using h2 i hi
    · rw [vC_du]
      by_cases hqe : q < e
      · rw [rC_f ee he hN hqe (by omega), h3 hqe]; rfl
      · rw [rC_out ee he (by omega)]; rfl
  rw [← this]
  exact hp
