/-! who goes at a tick, in which order; both sides -/
def rk (k : Int64) : Int64 := if k = 2 then 5 else k
def fsN (T : StV) (tk : Int64) : Nat → Bool
  | 0 => false
  | n + 1 => fsN T tk n || decide (s_du T 2 n = tk ∧ s_du T 0 n ≠ 2)
theorem fsN_iff {T : StV} {tk : Int64} : ∀ {n}, fsN T tk n = true ↔ ∃ i, i < n ∧ s_du T 2 i = tk ∧ s_du T 0 i ≠ 2
  | 0 => by
    constructor
    · intro q
      cases q
    · rintro ⟨i, h, -⟩
      omega
  | n + 1 => by
    rw [fsN, Bool.or_eq_true, fsN_iff (n := n), decide_eq_true_iff]
    constructor
    · rintro (⟨i, h1, h2⟩ | h)
      · exact ⟨i, by omega, h2⟩
      · exact ⟨n, by omega, h⟩
    · rintro ⟨i, h1, h2⟩
      by_cases z : i = n
      · exact Or.inr (z ▸ h2)
      · exact Or.inl ⟨i, by omega, h2⟩
abbrev gP (T : StV) (tk : Int64) (b : Bool) (i : Nat) : Prop := s_du T 2 i = tk ∨ (b = true ∧ s_du T 0 i = 2 ∧ s_du T 3 i ≤ tk)
abbrev plt (T : StV) (n e : Nat) : Bool := decide (s_du T 8 n < s_du T 8 e)
abbrev rlt (T : StV) (n e : Nat) : Bool := decide (ahd (fun d => rk (s_du T 0 d)) (fun d => s_du T 8 d) n e)
def gL (T : StV) (tk : Int64) (b : Bool) (n : Nat) : List Nat := gLs (gP T tk b) (rlt T) n
def cl (T : StV) (tk : Int64) (b : Bool) (c : Int64) (n : Nat) : List Nat := gLs (fun i => gP T tk b i ∧ s_du T 0 i = c) (plt T) n
theorem cl_k {T : StV} {tk : Int64} {b : Bool} {c : Int64} {n e : Nat} (h : e ∈ cl T tk b c n) : s_du T 0 e = c := (gLs_mem.mp h).2.2
theorem rlt_t {T : StV} {n e : Nat} (h : rk (s_du T 0 n) < rk (s_du T 0 e)) : rlt T n e = true := decide_eq_true (Or.inl h)
theorem rlt_f {T : StV} {n e : Nat} (h : rk (s_du T 0 e) < rk (s_du T 0 n)) : rlt T n e = false := decide_eq_false (fun z => z.elim (fun z => Int64.lt_asymm z h) (fun z => by
  have z1 : rk (s_du T 0 n) = rk (s_du T 0 e) := z.1
  rw [z1] at h
  exact Int64.lt_irrefl h))
theorem rlt_e {T : StV} {n e : Nat} (h : rk (s_du T 0 n) = rk (s_du T 0 e)) : rlt T n e = plt T n e := decide_eq_decide.mpr ⟨fun z => z.elim (fun z => by
  have z1 : rk (s_du T 0 n) < rk (s_du T 0 e) := z
  rw [h] at z1
  exact absurd z1 Int64.lt_irrefl) (fun z => z.2), fun z => Or.inr ⟨h, z⟩⟩
theorem gL_cat {T : StV} {tk : Int64} {b : Bool} (hk : ∀ i, gP T tk b i → s_du T 0 i = 0 ∨ s_du T 0 i = 1 ∨ s_du T 0 i = 2 ∨ s_du T 0 i = 3 ∨ s_du T 0 i = 4) :
    ∀ n, gL T tk b n = cl T tk b 2 n ++ (cl T tk b 4 n ++ (cl T tk b 3 n ++ (cl T tk b 1 n ++ (cl T tk b 0 n ++ []))))
  | 0 => rfl
  | n + 1 => by
    have ih := gL_cat hk n
    have yes : ∀ c, gP T tk b n → s_du T 0 n = c → cl T tk b c (n + 1) = insR (plt T n) n (cl T tk b c n) := fun c h1 h2 => by
      unfold cl
      rw [gLs, if_pos ⟨h1, h2⟩]
    have no : ∀ c, ¬ (gP T tk b n ∧ s_du T 0 n = c) → cl T tk b c (n + 1) = cl T tk b c n := fun c h => by
      unfold cl
      rw [gLs, if_neg h]
    by_cases q : gP T tk b n
    · have e1 : gL T tk b (n + 1) = insR (rlt T n) n (gL T tk b n) := by unfold gL; rw [gLs, if_pos q]
      have tt : ∀ c c', s_du T 0 n = c → rk c < rk c' → ∀ e, e ∈ cl T tk b c' n → rlt T n e = true := fun c c' h1 h2 e he => rlt_t (by rw [h1, cl_k he]; exact h2)
      have ff : ∀ c c', s_du T 0 n = c → rk c' < rk c → ∀ e, e ∈ cl T tk b c' n → rlt T n e = false := fun c c' h1 h2 e he => rlt_f (by rw [h1, cl_k he]; exact h2)
      have ee : ∀ c, s_du T 0 n = c → ∀ e, e ∈ cl T tk b c n → rlt T n e = plt T n e := fun c h1 e he => rlt_e (by rw [h1, cl_k he])
      have ap : ∀ (A B : List Nat), (∀ e, e ∈ A → rlt T n e = false) → (∀ e, e ∈ B → rlt T n e = false) → ∀ e, e ∈ A ++ B → rlt T n e = false := fun A B h1 h2 e he => (List.mem_append.mp he).elim (h1 e) (h2 e)
      have nn : ∀ e, e ∈ ([] : List Nat) → rlt T n e = false := fun e he => by cases he
      rw [e1, ih]
      rcases hk n q with k | k | k | k | k
      · rw [yes 0 q k, no 1 (by rw [k]; rintro ⟨-, z⟩; exact absurd z (by decide)), no 2 (by rw [k]; rintro ⟨-, z⟩; exact absurd z (by decide)), no 3 (by rw [k]; rintro ⟨-, z⟩; exact absurd z (by decide)), no 4 (by rw [k]; rintro ⟨-, z⟩; exact absurd z (by decide))]
        rw [insR_pre (tt 0 2 k (by decide)), insR_pre (tt 0 4 k (by decide)), insR_pre (tt 0 3 k (by decide)), insR_pre (tt 0 1 k (by decide)), insR_post nn (ee 0 k)]
      · rw [yes 1 q k, no 0 (by rw [k]; rintro ⟨-, z⟩; exact absurd z (by decide)), no 2 (by rw [k]; rintro ⟨-, z⟩; exact absurd z (by decide)), no 3 (by rw [k]; rintro ⟨-, z⟩; exact absurd z (by decide)), no 4 (by rw [k]; rintro ⟨-, z⟩; exact absurd z (by decide))]
        rw [insR_pre (tt 1 2 k (by decide)), insR_pre (tt 1 4 k (by decide)), insR_pre (tt 1 3 k (by decide)), insR_post (ap _ _ (ff 1 0 k (by decide)) nn) (ee 1 k)]
      · rw [yes 2 q k, no 0 (by rw [k]; rintro ⟨-, z⟩; exact absurd z (by decide)), no 1 (by rw [k]; rintro ⟨-, z⟩; exact absurd z (by decide)), no 3 (by rw [k]; rintro ⟨-, z⟩; exact absurd z (by decide)), no 4 (by rw [k]; rintro ⟨-, z⟩; exact absurd z (by decide))]
        rw [insR_post (ap _ _ (ff 2 4 k (by decide)) (ap _ _ (ff 2 3 k (by decide)) (ap _ _ (ff 2 1 k (by decide)) (ap _ _ (ff 2 0 k (by decide)) nn)))) (ee 2 k)]
      · rw [yes 3 q k, no 0 (by rw [k]; rintro ⟨-, z⟩; exact absurd z (by decide)), no 1 (by rw [k]; rintro ⟨-, z⟩; exact absurd z (by decide)), no 2 (by rw [k]; rintro ⟨-, z⟩; exact absurd z (by decide)), no 4 (by rw [k]; rintro ⟨-, z⟩; exact absurd z (by decide))]
        rw [insR_pre (tt 3 2 k (by decide)), insR_pre (tt 3 4 k (by decide)), insR_post (ap _ _ (ff 3 1 k (by decide)) (ap _ _ (ff 3 0 k (by decide)) nn)) (ee 3 k)]
      · rw [yes 4 q k, no 0 (by rw [k]; rintro ⟨-, z⟩; exact absurd z (by decide)), no 1 (by rw [k]; rintro ⟨-, z⟩; exact absurd z (by decide)), no 2 (by rw [k]; rintro ⟨-, z⟩; exact absurd z (by decide)), no 3 (by rw [k]; rintro ⟨-, z⟩; exact absurd z (by decide))]
        rw [insR_pre (tt 4 2 k (by decide)), insR_post (ap _ _ (ff 4 3 k (by decide)) (ap _ _ (ff 4 1 k (by decide)) (ap _ _ (ff 4 0 k (by decide)) nn))) (ee 4 k)]
    · have e1 : gL T tk b (n + 1) = gL T tk b n := by unfold gL; rw [gLs, if_neg q]
      rw [e1, ih, no 0 (fun z => q z.1), no 1 (fun z => q z.1), no 2 (fun z => q z.1), no 3 (fun z => q z.1), no 4 (fun z => q z.1)]
/-- the class's side -/
theorem cFast_loop {v T : StV} (h : CS v T) {e : Nat} (he : e ≤ 200) (ee : s_en v = nI e) (hN : ∀ i, i < e → s_du v 0 i = (-2000000005 : Int64) → ∀ f, f < 11 → s_du v f i = (-2000000005 : Int64)) {tk : Int64} {post : Int32 → Prop} (h1 : (∃ i, i < e ∧ s_du T 2 i = tk ∧ s_du T 0 i ≠ 2) → post 1) (h0 : fsN T tk e = false → post 0) :
    ∀ m k, k + m = e → fsN T tk k = false → LX0_isFast_3 v tk post (m + 1) (nI k) := by
  intro m
  induction m with
  | zero =>
    intro k hk hf
    obtain rfl : k = e := by omega
    rw [LX0_isFast_3, ee]
    exact ⟨fun _ => h0 hf, fun q => absurd (nI_le (Nat.le_refl _) (by omega)) q⟩
  | succ m ih =>
    intro k hk hf
    rw [LX0_isFast_3, ee, nI_clamp (by omega)]
    have d2 : s_du v 2 k = s_du T 2 k := by rw [h.du, rC_f ee he hN (by omega) (by omega)]
    have d0 : s_du v 0 k = s_du T 0 k := by rw [h.du, rC_f ee he hN (by omega) (by omega)]
    have hin : vp_in (nI k) 200 := vp_in_nI (by omega) (by omega)
    rw [d2, d0]
    have nx : ¬ (s_du T 2 k = tk ∧ s_du T 0 k ≠ 2) → ∀ z : Int32, z = nI k + 1 → LX0_isFast_3 v tk post (m + 1) z := fun q z hz => by
      rw [hz, nI_1]
      refine ih (k + 1) (by omega) ?_
      rw [fsN, hf, Bool.false_or]
      exact decide_eq_false q
    refine ⟨fun q => absurd ((nI_leI (by omega) (by omega)).mp q) (by omega), fun _ => ⟨hin, fun q => ⟨hin, fun q2 => nx (fun z => z.2 q2), fun q2 => h1 ⟨k, by omega, q, q2⟩⟩, fun q => nx (fun z => q z.1)⟩⟩
theorem cFast {v T : StV} (h : CS v T) {tk : Int64} (ht : tk ≠ (-2000000005 : Int64)) {post : Int32 → Prop} (h1 : fsN T tk 200 = true → post 1) (h0 : fsN T tk 200 = false → post 0) : PX0_isFast v tk post := by
  obtain ⟨e, n, he, hn, ee, en, hN⟩ := id h.1
  unfold PX0_isFast
  refine ⟨e + 1, cFast_loop h he ee hN (fun ⟨i, a, c⟩ => h1 (fsN_iff.mpr ⟨i, by omega, c⟩)) (fun q => h0 ?_) e 0 (by omega) rfl⟩
  refine Bool.eq_false_iff.mpr (fun z => ?_)
  obtain ⟨i, i1, i2⟩ := fsN_iff.mp z
  by_cases hi : i < e
  · rw [fsN_iff.mpr ⟨i, hi, i2⟩] at q
    cases q
  · exact ht (i2.1.symm.trans (h.noT ee he 2 i (by omega)))
abbrev b32 (b : Bool) : Int32 := if b then 1 else 0
theorem cFind_loop {v T : StV} (h : CS v T) {e : Nat} (he : e ≤ 200) (ee : s_en v = nI e) (hN : ∀ i, i < e → s_du v 0 i = (-2000000005 : Int64) → ∀ f, f < 11 → s_du v f i = (-2000000005 : Int64)) {tk : Int64} {b : Bool} {post : LnV → Prop} (hp : ∀ w, LR (fun d => rk (s_du T 0 d)) (fun d => s_du T 8 d) w (gL T tk b e) → post w) :
    ∀ m k w, k + m = e → LR (fun d => rk (s_du T 0 d)) (fun d => s_du T 8 d) w (gL T tk b k) → LX0_findGoers_19 v tk (b32 b) post (m + 1) (nI k) w := by
  intro m
  induction m with
  | zero =>
    intro k w hk hw
    obtain rfl : k = e := by omega
    rw [LX0_findGoers_19, ee]
    exact ⟨fun _ => hp w hw, fun q => absurd (nI_le (Nat.le_refl _) (by omega)) q⟩
  | succ m ih =>
    intro k w hk hw
    rw [LX0_findGoers_19, ee, nI_clamp (by omega)]
    have dd : ∀ f, f < 9 → s_du v f k = s_du T f k := fun f hf => by rw [h.du, rC_f ee he hN (by omega) hf]
    have hin : vp_in (nI k) 200 := vp_in_nI (by omega) (by omega)
    rw [dd 2 (by omega), dd 0 (by omega), dd 8 (by omega)]
    have no : ¬ gP T tk b k → ∀ z : Int32, z = nI k + 1 → LX0_findGoers_19 v tk (b32 b) post (m + 1) z w := fun q z hz => by
      rw [hz, nI_1]
      refine ih (k + 1) w (by omega) ?_
      unfold gL
      rw [gLs, if_neg q]
      exact hw
    have hl : (gL T tk b k).length < 200 := by
      have := gLs_len (p := gP T tk b) (lt := rlt T) k
      unfold gL
      omega
    have yes : gP T tk b k → PX0_rankOf (s_du T 0 k) (fun (r_7 : Int64) => (vp_in (nI k) 200 ∧ (PX2_add w (nI k) r_7 (s_du T 8 k) (fun (w_9 : LnV) => ∀ x5_10 : Int32, x5_10 = nI k + 1 → LX0_findGoers_19 v tk (b32 b) post (m + 1) x5_10 w_9)))) := fun q => by
      have key : ∀ z, z = rk (s_du T 0 k) → (vp_in (nI k) 200 ∧ (PX2_add w (nI k) z (s_du T 8 k) (fun (w_9 : LnV) => ∀ x5_10 : Int32, x5_10 = nI k + 1 → LX0_findGoers_19 v tk (b32 b) post (m + 1) x5_10 w_9))) := fun z hz => by
        refine ⟨hin, cAdd hw hl rfl hz rfl (fun w' hw' => ?_)⟩
        rintro _ rfl
        rw [nI_1]
        refine ih (k + 1) w' (by omega) ?_
        unfold gL
        rw [gLs, if_pos q]
        exact hw'
      unfold PX0_rankOf
      exact ⟨fun q2 => key _ (by unfold rk; rw [if_pos q2]), fun q2 => key _ (by unfold rk; rw [if_neg q2])⟩
    refine ⟨fun q => absurd ((nI_leI (by omega) (by omega)).mp q) (by omega), fun _ => ⟨hin, fun q => ⟨hin, yes (Or.inl q)⟩, fun q => ⟨fun q2 => no ?_, fun q2 => ?_⟩⟩⟩
    · rintro (z | z)
      · exact q z
      · rw [z.1] at q2; exact absurd q2 (by decide)
    · have hb : b = true := by
        cases b
        · exact absurd rfl q2
        · rfl
      unfold PX0_isLooseFrom
      rw [nI_clamp (by omega), dd 0 (by omega), dd 3 (by omega)]
      refine ⟨hin, fun q3 => ⟨hin, fun q4 => b0 (no ?_), fun q4 => b1 ⟨hin, yes (Or.inr ⟨hb, q3, Int64.not_lt.mp q4⟩)⟩⟩, fun q3 => b0 (no ?_)⟩
      · rintro (z | z)
        · exact q z
        · exact Int64.not_lt.mpr z.2.2 q4
      · rintro (z | z)
        · exact q z
        · exact q3 z.2.1
theorem cFind {v T : StV} (h : CS v T) {w : LnV} {tk : Int64} (ht : tk ≠ (-2000000005 : Int64)) {post : LnV → Prop} (hp : ∀ w', LR (fun d => rk (s_du T 0 d)) (fun d => s_du T 8 d) w' (gL T tk (fsN T tk 200) 200) → post w') : PX0_findGoers v w tk post := by
  unfold PX0_findGoers
  obtain ⟨e, n, he, hn, ee, en, hN⟩ := id h.1
  have hl : ∀ b, gL T tk b 200 = gL T tk b e := fun b => by
    have := gLs_out (p := gP T tk b) (lt := rlt T) (e := e) (fun i hi z => ?_) (200 - e)
    · rwa [show e + (200 - e) = 200 by omega] at this
    · rcases z with z | z
      · exact ht (z.symm.trans (h.noT ee he 2 i hi))
      · have := z.2.1
        rw [h.noT ee he 0 i hi] at this
        exact absurd this (by decide)
  refine cFast h ht (fun q => ?_) (fun q => ?_)
  · rintro _ rfl
    rw [q, hl] at hp
    exact ⟨e + 1, cFind_loop (b := true) h he ee hN hp e 0 _ (by omega) (LR.nil _ _ w)⟩
  · rintro _ rfl
    rw [q, hl] at hp
    exact ⟨e + 1, cFind_loop (b := false) h he ee hN hp e 0 _ (by omega) (LR.nil _ _ w)⟩
/-- the model's side -/
def mQ (r : MmV) (g : Nat → Int32) (y : Int32) : MmV := m_wgc (m_wgs r g) y
theorem mQ_s (r : MmV) (g : Nat → Int32) (y : Int32) : m_s (mQ r g y) = m_s r := rfl
theorem mQ_bf (r : MmV) (g : Nat → Int32) (y : Int32) : m_bf (mQ r g y) = m_bf r := rfl
theorem mQ_kp (r : MmV) (g : Nat → Int32) (y : Int32) : m_kp (mQ r g y) = m_kp r := rfl
theorem mQ_gs (r : MmV) (g : Nat → Int32) (y : Int32) : m_gs (mQ r g y) = g := rfl
theorem mQ_gc (r : MmV) (g : Nat → Int32) (y : Int32) : m_gc (mQ r g y) = y := rfl
theorem mQ_wgs (r : MmV) (g g' : Nat → Int32) (y : Int32) : m_wgs (mQ r g y) g' = mQ r g' y := rfl
theorem mQ_wgc (r : MmV) (g : Nat → Int32) (y y' : Int32) : m_wgc (mQ r g y) y' = mQ r g y' := rfl
theorem mFi_in {r : MmV} {T : StV} (h : MS (m_s r) T) {A : List Nat} {x n : Nat} (hn : n < 200) (hx : s_du T 0 x ≠ (-2000000005 : Int64)) {y x1 x4 : Int32} {x2 : Int64} {K : Int32 → MmV → Prop} {post : MmV → Prop} :
    ∀ (R2 R1 : List Nat) (g : Nat → Int32), R1.length + (R2 ++ A).length = n → (∀ d, d ∈ R2 → s_du T 0 d ≠ (-2000000005 : Int64)) → (∀ j d, (R2 ++ A)[j]? = some d → g ((R2 ++ A).length - 1 - j) = nI d) → (∀ j d, R1[j]? = some d → g (n - j) = nI d) → (∀ p g', p < 200 → GR (upd g' p (nI x)) (R1 ++ (insR (plt T x) x R2 ++ A)) → K (nI p) (mQ r g' y)) → LX7_find_86 x1 x2 x4 (nI A.length) (nI x) K post (R2.length + 1) (nI (R2 ++ A).length) (mQ r g y) := by
  intro R2
  induction R2 with
  | nil =>
    intro R1 g hl hd h2 h1 hp
    rw [LX7_find_86]
    refine ⟨fun _ => hp _ g (by omega) (GR_put hl h2 h1), fun q => absurd ?_ q⟩
    exact nI_le (Nat.le_refl _) (by rw [List.nil_append] at hl; omega)
  | cons e R2 ih =>
    intro R1 g hl hd h2 h1 hp
    rw [LX7_find_86]
    rw [List.cons_append] at hl h2 ⊢
    rw [List.length_cons] at hl h2 ⊢
    have hla : (R2 ++ A).length = R2.length + A.length := List.length_append
    have e0 : g (R2 ++ A).length = nI e := by
      have := h2 0 e (List.getElem?_cons_zero)
      rwa [show (R2 ++ A).length + 1 - 1 - 0 = (R2 ++ A).length by omega] at this
    have he := hd e List.mem_cons_self
    rw [nI_pred, nI_clamp (show (R2 ++ A).length < 2 ^ 31 by omega), nI_clamp (show (R2 ++ A).length + 1 < 2 ^ 31 by omega), mQ_gs, e0]
    have hin : vp_in (nI (R2 ++ A).length) 200 := vp_in_nI (by omega) (by omega)
    have hin1 : vp_in (nI ((R2 ++ A).length + 1)) 200 := vp_in_nI (by omega) (by omega)
    refine ⟨fun q => absurd q ?_, fun _ => ⟨hin, mGet (mQ_s r g y) rfl (h.there.mp he).1 (c := 11) rfl (by omega) (mGet (mQ_s r g y) rfl (h.there.mp hx).1 (c := 11) rfl (by omega) ?_)⟩⟩
    · rw [nI_leI (by omega) (by omega)]; omega
    have g1 : m_s r (14 * e + 11) = s_du T 8 e := h.f (f := 8) he (by omega) (by omega) (by omega)
    have g2 : m_s r (14 * x + 11) = s_du T 8 x := h.f (f := 8) hx (by omega) (by omega) (by omega)
    rw [g1, g2]
    refine ⟨fun q => ?_, fun q => ⟨hin, hin1, ?_⟩⟩
    · refine hp _ g (by omega) ?_
      rw [insR, if_neg (by simpa using q), List.cons_append, List.cons_append]
      have := GR_put (g := g) (x := x) (R1 := R1) (R2 := e :: (R2 ++ A)) (n := n) (by rw [List.length_cons]; omega) (by rw [List.length_cons]; exact h2) h1
      rw [List.length_cons] at this
      exact this
    · rintro _ rfl _ rfl
      rw [← Int32.sub_eq_add_neg, nI_pred, mQ_wgs, ← e0]
      obtain ⟨a1, a2⟩ := GR_shift (g := g) (e := e) (n := n) (R1 := R1) (R2 := R2 ++ A) hl h2 h1
      refine ih (R1 ++ [e]) _ (by rw [List.length_append, List.length_singleton]; omega) (fun d hd' => hd d (List.mem_cons_of_mem _ hd')) a1 a2 (fun p g' hp' hG => hp p g' hp' ?_)
      rw [insR, if_pos (by simpa using q)]
      rw [List.append_assoc] at hG
      exact hG
theorem mFi_loop {r : MmV} {T : StV} (h : MS (m_s r) T) {A : List Nat} {c : Nat} {x4 : Int32} {tk : Int64} {p : Nat → Prop} [DecidablePred p] (hq : ∀ i, (s_du T 2 i ≠ (-2000000005 : Int64) ∧ s_du T 0 i = lN c ∧ (s_du T 2 i = tk ∨ (x4 ≠ 0 ∧ s_du T 3 i ≤ tk))) ↔ p i) (hc : c < 5) (hlen : (gLs p (plt T) 200).length + A.length ≤ 200) {post : MmV → Prop} (hp : ∀ g', GR g' (gLs p (plt T) 200 ++ A) → post (mQ r g' (nI (gLs p (plt T) 200 ++ A).length))) :
    ∀ m k g, k + m = 200 → GR g (gLs p (plt T) k ++ A) → LX7_find_9 (nI c) tk x4 (nI A.length) post (m + 1) (nI k) (mQ r g (nI (gLs p (plt T) k ++ A).length)) := by
  intro m
  induction m with
  | zero =>
    intro k g hk hg
    obtain rfl : k = 200 := by omega
    rw [LX7_find_9]
    exact ⟨fun _ => hp g hg, fun q => absurd (by decide) q⟩
  | succ m ih =>
    intro k g hk hg
    rw [LX7_find_9]
    have no : ¬ p k → ∀ z : Int32, z = nI k + 1 → LX7_find_9 (nI c) tk x4 (nI A.length) post (m + 1) z (mQ r g (nI (gLs p (plt T) k ++ A).length)) := fun q z hz => by
      rw [hz, nI_1]
      have e1 : gLs p (plt T) (k + 1) = gLs p (plt T) k := by rw [gLs, if_neg q]
      rw [← e1]
      exact ih (k + 1) g (by omega) (by rw [e1]; exact hg)
    have hth : ∀ d, d ∈ gLs p (plt T) k → s_du T 0 d ≠ (-2000000005 : Int64) := fun d hd => by
      have := ((hq d).mpr (gLs_mem.mp hd).2).2.1
      rw [this]
      exact lN_ne (by omega)
    have yes : p k → ∀ z : Int32, z = nI (gLs p (plt T) k ++ A).length → ∃ n9 : Nat, LX7_find_86 (nI c) tk x4 (nI A.length) (nI k) (fun (x8_24 : Int32) (r_25 : MmV) => (vp_in x8_24 200 ∧ (∀ r_27 : MmV, r_27 = m_wgs r_25 (upd (m_gs r_25) (x8_24.toNatClampNeg) (nI k)) → ∀ r_28 : MmV, r_28 = m_wgc r_27 ((m_gc r_27) + (1 : Int32)) → ∀ x6_29 : Int32, x6_29 = nI k + 1 → LX7_find_9 (nI c) tk x4 (nI A.length) post (m + 1) x6_29 r_28))) post n9 z (mQ r g (nI (gLs p (plt T) k ++ A).length)) := fun q z hz => by
      subst hz
      have e1 : gLs p (plt T) (k + 1) = insR (plt T k) k (gLs p (plt T) k) := by rw [gLs, if_pos q]
      have l1 := gLs_mono (p := p) (lt := plt T) (n := k + 1) (200 - (k + 1))
      rw [show k + 1 + (200 - (k + 1)) = 200 by omega, e1, insR_len] at l1
      have la : (gLs p (plt T) k ++ A).length = (gLs p (plt T) k).length + A.length := List.length_append
      have tk0 : s_du T 0 k ≠ (-2000000005 : Int64) := by
        have := ((hq k).mpr q).2.1
        rw [this]
        exact lN_ne (by omega)
      refine ⟨_, mFi_in h (n := (gLs p (plt T) k ++ A).length) (by omega) tk0 (gLs p (plt T) k) [] g (by rw [List.length_nil]; omega) hth hg (fun j d z => by simp at z) (fun p' g' hp' hG => ⟨vp_in_nI hp' (by omega), ?_⟩)⟩
      rintro _ rfl _ rfl _ rfl
      rw [mQ_gs, mQ_wgs, mQ_gc, mQ_wgc, nI_1, nI_1, nI_clamp (by omega)]
      have l2 : (gLs p (plt T) k ++ A).length + 1 = (gLs p (plt T) (k + 1) ++ A).length := by
        rw [e1, List.length_append, List.length_append, insR_len]; omega
      rw [l2]
      refine ih (k + 1) _ (by omega) ?_
      rw [e1]
      exact hG
    refine ⟨fun q => absurd q ?_, fun _ => mHas (mQ_s r g _) h (by omega) rfl (fun d q => b1 (mGet (mQ_s r g _) rfl (by omega) (c := 1) rfl (by omega) ?_)) (fun q => b0 (no (fun z => ((hq k).mpr z).1 q)))⟩
    · rw [show (200 : Int32) = nI 200 from rfl, nI_leI (by omega) (by omega)]; omega
    have g0 : m_s r (14 * k + 1) = s_du T 0 k := h.f (f := 0) d (by omega) (by omega) (by omega)
    have g2 : m_s r (14 * k + 3) = s_du T 2 k := h.f (f := 2) d (by omega) (by omega) (by omega)
    have g3 : m_s r (14 * k + 4) = s_du T 3 k := h.f (f := 3) d (by omega) (by omega) (by omega)
    rw [g0, nI_l (show c < 2 ^ 31 by omega)]
    refine ⟨fun q1 => mGet (mQ_s r g _) rfl (by omega) (c := 3) rfl (by omega) ?_, fun q1 => no (fun z => q1 ((hq k).mpr z).2.1)⟩
    rw [g2]
    refine ⟨fun q2 => yes ((hq k).mp ⟨q, q1, Or.inl q2⟩), fun q2 => ⟨fun q3 => no (fun z => ?_), fun q3 => mGet (mQ_s r g _) rfl (by omega) (c := 4) rfl (by omega) ?_⟩⟩
    · rcases ((hq k).mpr z).2.2 with w | w
      · exact q2 w
      · exact w.1 q3
    · rw [g3]
      refine ⟨fun q4 => no (fun z => ?_), fun q4 => yes ((hq k).mp ⟨q, q1, Or.inr ⟨q3, Int64.not_lt.mp q4⟩⟩)⟩
      rcases ((hq k).mpr z).2.2 with w | w
      · exact q2 w
      · exact Int64.not_lt.mpr w.2 q4
theorem mFi {r : MmV} {T : StV} (h : MS (m_s r) T) {A : List Nat} {g : Nat → Int32} (hg : GR g A) {c : Nat} {x1 x4 : Int32} (hx : x1 = nI c) {tk : Int64} {p : Nat → Prop} [DecidablePred p] (hq : ∀ i, (s_du T 2 i ≠ (-2000000005 : Int64) ∧ s_du T 0 i = lN c ∧ (s_du T 2 i = tk ∨ (x4 ≠ 0 ∧ s_du T 3 i ≤ tk))) ↔ p i) (hc : c < 5) (hlen : (gLs p (plt T) 200).length + A.length ≤ 200) {post : MmV → Prop} (hp : ∀ g', GR g' (gLs p (plt T) 200 ++ A) → post (mQ r g' (nI (gLs p (plt T) 200 ++ A).length))) : PX7_find (mQ r g (nI A.length)) x1 tk x4 post := by
  subst hx
  unfold PX7_find
  rintro _ rfl
  rw [mQ_gc]
  exact ⟨201, mFi_loop h hq hc hlen hp 200 0 g (by omega) hg⟩
theorem mFindAll {r : MmV} {T : StV} (h : MS (m_s r) T) (hI : IT T) {tk : Int64} (ht : tk ≠ (-2000000005 : Int64)) {post : MmV → Prop} (hp : ∀ g', GR g' (gL T tk (fsN T tk 200) 200) → post (mQ r g' (nI (gL T tk (fsN T tk 200) 200).length))) : PX7_findAll r tk post := by
  unfold PX7_findAll
  rintro _ rfl
  obtain ⟨b, eb⟩ : ∃ b, b = fsN T tk 200 := ⟨_, rfl⟩
  rw [← eb] at hp
  have hgk : ∀ i, gP T tk b i → s_du T 0 i ≠ (-2000000005 : Int64) := fun i z => z.elim (fun z => hI.there (f := 2) (by rw [z]; exact ht)) (fun z => by rw [z.2.1]; decide)
  have hk : ∀ i, gP T tk b i → s_du T 0 i = 0 ∨ s_du T 0 i = 1 ∨ s_du T 0 i = 2 ∨ s_du T 0 i = 3 ∨ s_du T 0 i = 4 := fun i z => (hI.ri (hgk i z)).1
  have cat := gL_cat hk 200
  have len : (gL T tk b 200).length ≤ 200 := gLs_len 200
  rw [cat] at hp len
  have ln : ∀ X Y : List Nat, (X ++ Y).length = X.length + Y.length := fun X Y => List.length_append
  rw [ln, ln, ln, ln, ln] at len
  have qn : ∀ c : Nat, c < 5 → c ≠ 2 → ∀ i, (s_du T 2 i ≠ (-2000000005 : Int64) ∧ s_du T 0 i = lN c ∧ (s_du T 2 i = tk ∨ ((0 : Int32) ≠ 0 ∧ s_du T 3 i ≤ tk))) ↔ (gP T tk b i ∧ s_du T 0 i = lN c) := fun c hc hc2 i => by
    constructor
    · rintro ⟨-, k, z | z⟩
      · exact ⟨Or.inl z, k⟩
      · exact absurd rfl z.1
    · rintro ⟨z | z, k⟩
      · exact ⟨by rw [z]; exact ht, k, Or.inl z⟩
      · exfalso
        have := z.2.1
        rw [k, show (2 : Int64) = lN 2 from rfl, lN_eqL (by omega) (by omega)] at this
        exact hc2 this
  have q2 : ∀ x4 : Int32, (x4 ≠ 0 ↔ b = true) → ∀ i, (s_du T 2 i ≠ (-2000000005 : Int64) ∧ s_du T 0 i = lN 2 ∧ (s_du T 2 i = tk ∨ (x4 ≠ 0 ∧ s_du T 3 i ≤ tk))) ↔ (gP T tk b i ∧ s_du T 0 i = lN 2) := fun x4 hx i => by
    constructor
    · rintro ⟨-, k, z | z⟩
      · exact ⟨Or.inl z, k⟩
      · exact ⟨Or.inr ⟨hx.mp z.1, k, z.2⟩, k⟩
    · rintro ⟨z | z, k⟩
      · exact ⟨by rw [z]; exact ht, k, Or.inl z⟩
      · refine ⟨?_, k, Or.inr ⟨hx.mpr z.1, z.2.2⟩⟩
        exact ((hI.ri (i := i) (by rw [k]; decide)).2.2.1 k).2
  unfold cl at hp len
  refine mFi h (A := []) (g := m_gs r) (fun j d z => by simp at z) (c := 0) rfl (qn 0 (by omega) (by omega)) (by omega) ?_ (fun g1 hg1 => ?_)
  · rw [List.length_nil]
    exact Nat.le_trans (Nat.le_refl _) (by have := len; exact Nat.le_trans (gLs_len 200) (Nat.le_refl _))
  refine mFi h hg1 (c := 1) rfl (qn 1 (by omega) (by omega)) (by omega) ?_ (fun g2 hg2 => ?_)
  · rw [ln]
    have := len
    show (gLs (fun i => gP T tk b i ∧ s_du T 0 i = 1) (plt T) 200).length + ((gLs (fun i => gP T tk b i ∧ s_du T 0 i = 0) (plt T) 200).length + _) ≤ 200
    omega
  refine mFi h hg2 (c := 3) rfl (qn 3 (by omega) (by omega)) (by omega) ?_ (fun g3 hg3 => ?_)
  · rw [ln, ln]
    have := len
    show (gLs (fun i => gP T tk b i ∧ s_du T 0 i = 3) (plt T) 200).length + ((gLs (fun i => gP T tk b i ∧ s_du T 0 i = 1) (plt T) 200).length + ((gLs (fun i => gP T tk b i ∧ s_du T 0 i = 0) (plt T) 200).length + _)) ≤ 200
    omega
  refine mFi h hg3 (c := 4) rfl (qn 4 (by omega) (by omega)) (by omega) ?_ (fun g4 hg4 => ?_)
  · rw [ln, ln, ln]
    have := len
    show (gLs (fun i => gP T tk b i ∧ s_du T 0 i = 4) (plt T) 200).length + ((gLs (fun i => gP T tk b i ∧ s_du T 0 i = 3) (plt T) 200).length + ((gLs (fun i => gP T tk b i ∧ s_du T 0 i = 1) (plt T) 200).length + ((gLs (fun i => gP T tk b i ∧ s_du T 0 i = 0) (plt T) 200).length + _))) ≤ 200
    omega
  have l2 : (gLs (fun i => gP T tk b i ∧ s_du T 0 i = lN 2) (plt T) 200).length + (gLs (fun i => gP T tk b i ∧ s_du T 0 i = lN 4) (plt T) 200 ++ (gLs (fun i => gP T tk b i ∧ s_du T 0 i = lN 3) (plt T) 200 ++ (gLs (fun i => gP T tk b i ∧ s_du T 0 i = lN 1) (plt T) 200 ++ (gLs (fun i => gP T tk b i ∧ s_du T 0 i = lN 0) (plt T) 200 ++ [])))).length ≤ 200 := by
    rw [ln, ln, ln, ln]
    exact len
  rw [mQ_gc]
  refine ⟨fun q => ?_, fun q => ?_⟩
  · refine mFi h hg4 (c := 2) rfl (q2 0 ⟨fun z => absurd rfl z, fun z => ?_⟩) (by omega) l2 hp
    exfalso
    obtain ⟨i, i1, i2, i3⟩ := fsN_iff.mp (eb.symm.trans z)
    rw [show (0 : Int32) = nI 0 from rfl, nI_leI (by have := l2; omega) (by omega)] at q
    have mem : ∀ c, c ∈ ([4, 3, 1, 0] : List Nat) → s_du T 0 i = lN c → False := fun c hc k => by
      have m1 : i ∈ gLs (fun i => gP T tk b i ∧ s_du T 0 i = lN c) (plt T) 200 := gLs_mem.mpr ⟨i1, Or.inl i2, k⟩
      have m2 : i ∈ (gLs (fun i => gP T tk b i ∧ s_du T 0 i = lN 4) (plt T) 200 ++ (gLs (fun i => gP T tk b i ∧ s_du T 0 i = lN 3) (plt T) 200 ++ (gLs (fun i => gP T tk b i ∧ s_du T 0 i = lN 1) (plt T) 200 ++ (gLs (fun i => gP T tk b i ∧ s_du T 0 i = lN 0) (plt T) 200 ++ [])))) := by
        rw [List.mem_append, List.mem_append, List.mem_append, List.mem_append]
        simp only [List.mem_cons, List.not_mem_nil, or_false] at hc
        rcases hc with rfl | rfl | rfl | rfl
        · exact Or.inl m1
        · exact Or.inr (Or.inl m1)
        · exact Or.inr (Or.inr (Or.inl m1))
        · exact Or.inr (Or.inr (Or.inr (Or.inl m1)))
      have := List.length_pos_of_mem m2
      omega
    rcases hk i (Or.inl i2) with k | k | k | k | k
    · exact mem 0 (by decide) k
    · exact mem 1 (by decide) k
    · exact i3 k
    · exact mem 3 (by decide) k
    · exact mem 4 (by decide) k
  · refine mFi h hg4 (c := 2) rfl (q2 1 ⟨fun _ => ?_, fun _ => by decide⟩) (by omega) l2 hp
    rw [eb, fsN_iff]
    rw [show (0 : Int32) = nI 0 from rfl, nI_leI (by have := l2; omega) (by omega)] at q
    obtain ⟨i, hi⟩ : ∃ i, i ∈ (gLs (fun i => gP T tk b i ∧ s_du T 0 i = lN 4) (plt T) 200 ++ (gLs (fun i => gP T tk b i ∧ s_du T 0 i = lN 3) (plt T) 200 ++ (gLs (fun i => gP T tk b i ∧ s_du T 0 i = lN 1) (plt T) 200 ++ (gLs (fun i => gP T tk b i ∧ s_du T 0 i = lN 0) (plt T) 200 ++ [])))) := List.exists_mem_of_length_pos (by omega)
    have fin : ∀ c, c < 5 → c ≠ 2 → i ∈ gLs (fun i => gP T tk b i ∧ s_du T 0 i = lN c) (plt T) 200 → ∃ i, i < 200 ∧ s_du T 2 i = tk ∧ s_du T 0 i ≠ 2 := fun c hc hc2 hm => by
      obtain ⟨m1, m2, m3⟩ := gLs_mem.mp hm
      have n2 : s_du T 0 i ≠ 2 := fun z => hc2 (by
        rw [m3, show (2 : Int64) = lN 2 from rfl, lN_eqL (by omega) (by omega)] at z
        exact z)
      rcases m2 with w | w
      · exact ⟨i, m1, w, n2⟩
      · exact absurd w.2.1 n2
    rw [List.mem_append, List.mem_append, List.mem_append, List.mem_append] at hi
    rcases hi with hi | hi | hi | hi | hi
    · exact fin 4 (by omega) (by omega) hi
    · exact fin 3 (by omega) (by omega) hi
    · exact fin 1 (by omega) (by omega) hi
    · exact fin 0 (by omega) (by omega) hi
    · cases hi
