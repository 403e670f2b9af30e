/-! settling: the plan, the class's side -/
def LsT (F : Int64 → Prop) (a b x : Int64) : Prop := (x = (-2000000005 : Int64) ∧ ∀ y, F y → ¬ (a ≤ y ∧ y ≤ b)) ∨ (F x ∧ a ≤ x ∧ x ≤ b ∧ ∀ y, F y → a ≤ y → y ≤ b → x ≤ y)
theorem none_lt {a : Int64} (h : 0 ≤ a) : ¬ a ≤ (-2000000005 : Int64) := by
  rw [y_le, x_0] at h
  rw [y_le, x_N]
  omega
theorem LsT_uniq {F : Int64 → Prop} {a b x y : Int64} (ha : 0 ≤ a) (h : LsT F a b x) (h' : LsT F a b y) : x = y := by
  rcases h with ⟨h1, h2⟩ | ⟨h1, h2, h3, h4⟩
  · rcases h' with ⟨k1, k2⟩ | ⟨k1, k2, k3, k4⟩
    · rw [h1, k1]
    · exact absurd ⟨k2, k3⟩ (h2 y k1)
  · rcases h' with ⟨k1, k2⟩ | ⟨k1, k2, k3, k4⟩
    · exact absurd ⟨h2, h3⟩ (k2 x h1)
    · exact Int64.le_antisymm (h4 y k1 k2 k3) (k4 x h1 h2 h3)
theorem LsT_ex (F : Int64 → Prop) {a b : Int64} (ha : 0 ≤ a) : ∃ x, LsT F a b x := by
  by_cases q : ∃ y, F y ∧ a ≤ y ∧ y ≤ b
  · obtain ⟨y, y1, y2, y3⟩ := q
    have tn : ∀ z : Int64, tN z < 2 ^ 63 := fun z => by
      have := x_rngL z
      unfold tN
      omega
    have e : ∀ z : Int64, a ≤ z → z = lN (tN z) := fun z hz => tN_lN (Int64.le_trans ha hz)
    obtain ⟨k, ⟨k0, k1, k2, k3⟩, k4⟩ := pk_least (fun k => k < 2 ^ 63 ∧ F (lN k) ∧ a ≤ lN k ∧ lN k ≤ b) ⟨tN y, tn y, by rw [← e y y2]; exact y1, by rw [← e y y2]; exact y2, by rw [← e y y2]; exact y3⟩
    refine ⟨lN k, Or.inr ⟨k1, k2, k3, fun z z1 z2 z3 => ?_⟩⟩
    rw [e z z2, lN_leL k0 (tn z)]
    rcases Nat.lt_or_ge (tN z) k with w | w
    · exact absurd ⟨tn z, by rw [← e z z2]; exact z1, by rw [← e z z2]; exact z2, by rw [← e z z2]; exact z3⟩ (k4 _ w)
    · exact w
  · exact ⟨(-2000000005 : Int64), Or.inl ⟨rfl, fun y h1 h2 => q ⟨y, h1, h2.1, h2.2⟩⟩⟩
noncomputable def lsF (F : Int64 → Prop) (a b : Int64) : Int64 := Classical.epsilon (fun x => LsT F a b x)
theorem lsF_spec (F : Int64 → Prop) {a b : Int64} (ha : 0 ≤ a) : LsT F a b (lsF F a b) := Classical.epsilon_spec (LsT_ex F ha)
theorem lsF_eq {F : Int64 → Prop} {a b x : Int64} (ha : 0 ≤ a) (h : LsT F a b x) : x = lsF F a b := LsT_uniq ha h (lsF_spec F ha)
def addF (F : Int64 → Prop) (x : Int64) : Int64 → Prop := fun y => F y ∨ y = x
theorem LsT_skip {F : Int64 → Prop} {a b x z : Int64} (h : LsT F a b x) (hz : ¬ (a ≤ z ∧ z ≤ b)) : LsT (addF F z) a b x := by
  rcases h with ⟨h1, h2⟩ | ⟨h1, h2, h3, h4⟩
  · exact Or.inl ⟨h1, fun y hy => hy.elim (h2 y) (fun w => by rw [w]; exact hz)⟩
  · exact Or.inr ⟨Or.inl h1, h2, h3, fun y hy a1 a2 => hy.elim (fun w => h4 y w a1 a2) (fun w => absurd (by rw [← w]; exact ⟨a1, a2⟩) hz)⟩
theorem LsT_first {F : Int64 → Prop} {a b z : Int64} (ha : 0 ≤ a) (h : LsT F a b (-2000000005 : Int64)) (h1 : a ≤ z) (h2 : z ≤ b) : LsT (addF F z) a b z := by
  rcases h with ⟨-, k2⟩ | ⟨-, k2, -, -⟩
  · exact Or.inr ⟨Or.inr rfl, h1, h2, fun y hy a1 a2 => hy.elim (fun w => absurd ⟨a1, a2⟩ (k2 y w)) (fun w => by rw [w]; exact Int64.le_refl _)⟩
  · exact absurd k2 (none_lt ha)
theorem LsT_keep {F : Int64 → Prop} {a b x z : Int64} (h : LsT F a b x) (hx : x ≠ (-2000000005 : Int64)) (hz : x ≤ z) : LsT (addF F z) a b x := by
  rcases h with ⟨k1, -⟩ | ⟨k1, k2, k3, k4⟩
  · exact absurd k1 hx
  · exact Or.inr ⟨Or.inl k1, k2, k3, fun y hy a1 a2 => hy.elim (fun w => k4 y w a1 a2) (fun w => by rw [w]; exact hz)⟩
theorem LsT_take {F : Int64 → Prop} {a b x z : Int64} (h : LsT F a b x) (hx : x ≠ (-2000000005 : Int64)) (hz : z ≤ x) (h1 : a ≤ z) (h2 : z ≤ b) : LsT (addF F z) a b z := by
  rcases h with ⟨k1, -⟩ | ⟨k1, k2, k3, k4⟩
  · exact absurd k1 hx
  · exact Or.inr ⟨Or.inr rfl, h1, h2, fun y hy a1 a2 => hy.elim (fun w => Int64.le_trans hz (k4 y w a1 a2)) (fun w => by rw [w]; exact Int64.le_refl _)⟩
theorem ex_succ (f : Nat → Int64) (p : Nat → Prop) (k : Nat) (hk : p k) : (fun y => ∃ i, i < k + 1 ∧ p i ∧ f i = y) = addF (fun y => ∃ i, i < k ∧ p i ∧ f i = y) (f k) := by
  funext y
  apply propext
  constructor
  · rintro ⟨i, h1, h2, h3⟩
    by_cases q : i = k
    · right; rw [← h3, q]
    · left; exact ⟨i, by omega, h2, h3⟩
  · rintro (⟨i, h1, h2, h3⟩ | h)
    · exact ⟨i, by omega, h2, h3⟩
    · exact ⟨k, by omega, hk, h.symm⟩
theorem ex_not (f : Nat → Int64) (p : Nat → Prop) (k : Nat) (hk : ¬ p k) : (fun y => ∃ i, i < k + 1 ∧ p i ∧ f i = y) = (fun y => ∃ i, i < k ∧ p i ∧ f i = y) := by
  funext y
  apply propext
  constructor
  · rintro ⟨i, h1, h2, h3⟩
    by_cases q : i = k
    · exact absurd (q ▸ h2) hk
    · exact ⟨i, by omega, h2, h3⟩
  · rintro ⟨i, h1, h2, h3⟩
    exact ⟨i, by omega, h2, h3⟩
/-- the fast ticks -/
abbrev fP (T : StV) (i : Nat) : Prop := s_du T 2 i ≠ (-2000000005 : Int64) ∧ s_du T 0 i ≠ 2
def Ft0 (T : StV) (n : Nat) : Int64 → Prop := fun y => ∃ i, i < n ∧ fP T i ∧ s_du T 2 i = y
theorem Ft0_yes {T : StV} {k : Nat} (h : fP T k) : Ft0 T (k + 1) = addF (Ft0 T k) (s_du T 2 k) := ex_succ (fun i => s_du T 2 i) (fP T) k h
theorem Ft0_no {T : StV} {k : Nat} (h : ¬ fP T k) : Ft0 T (k + 1) = Ft0 T k := ex_not (fun i => s_du T 2 i) (fP T) k h
def fm (T : StV) (d : Nat) : Int64 := dropTo (s_tm T) (s_du T 3 d)
noncomputable def plT (T : StV) : (Int64 → Prop) → List Nat → List Int64
  | _, [] => []
  | F, d :: L => if lsF F (fm T d) (s_du T 2 d) = (-2000000005 : Int64) then s_du T 2 d :: plT T (addF F (s_du T 2 d)) L else lsF F (fm T d) (s_du T 2 d) :: plT T F L
noncomputable def plA (T : StV) : (Int64 → Prop) → List Nat → Nat
  | _, [] => 0
  | F, d :: L => if lsF F (fm T d) (s_du T 2 d) = (-2000000005 : Int64) then plA T (addF F (s_du T 2 d)) L + 1 else plA T F L
theorem plA_le (T : StV) : ∀ (L : List Nat) (F : Int64 → Prop), plA T F L ≤ L.length
  | [], _ => Nat.le_refl _
  | d :: L, F => by
    rw [plA, List.length_cons]
    split
    · have := plA_le T L (addF F (s_du T 2 d)); omega
    · have := plA_le T L F; omega
theorem plT_len (T : StV) : ∀ (L : List Nat) (F : Int64 → Prop), (plT T F L).length = L.length
  | [], _ => rfl
  | d :: L, F => by
    rw [plT]
    split
    · rw [List.length_cons, List.length_cons, plT_len T L]
    · rw [List.length_cons, List.length_cons, plT_len T L]
abbrev slt (T : StV) (n e : Nat) : Bool := decide (ahd (fun d => s_du T 2 d) (fun d => s_du T 8 d) n e)
def sR (T : StV) (n : Nat) : List Nat := gLs (fun i => s_du T 0 i = 2) (slt T) n
def sL (T : StV) : List Nat := (sR T 200).reverse
theorem sL_mem {T : StV} {d : Nat} : d ∈ sL T ↔ d < 200 ∧ s_du T 0 d = 2 := by
  unfold sL sR
  rw [List.mem_reverse, gLs_mem]
theorem sL_nd (T : StV) : (sL T).Nodup := by
  unfold sL sR
  exact List.pairwise_reverse.mpr ((gLs_nd 200).imp (fun h => h.symm))
def nf (T : StV) (n : Nat) : Nat := mny (fP T) n
theorem nf_le (T : StV) : ∀ n, nf T n + (sR T n).length ≤ n
  | 0 => Nat.le_refl _
  | n + 1 => by
    have ih := nf_le T n
    unfold nf sR at ih ⊢
    rw [mny, gLs]
    by_cases q : s_du T 0 n = 2
    · rw [if_pos q, if_neg (show ¬ fP T n from fun z => z.2 q), insR_len]; omega
    · rw [if_neg q]
      split <;> omega
theorem fm_ok {T : StV} (h : IT T) (d : Nat) : 0 ≤ fm T d ∧ s_tm T < fm T d := by
  have a := h.1.1
  have b := x_p1 h
  rw [y_le, x_0] at a
  unfold fm dropTo
  split
  · rename_i q
    rw [y_lt] at q
    exact ⟨by rw [y_le, x_0]; omega, by rw [y_lt]; omega⟩
  · exact ⟨by rw [y_le, x_0]; omega, by rw [y_lt]; omega⟩
/-- what the plan gives each -/
theorem pl_ok {T : StV} (h : IT T) {F : Int64 → Prop} {d : Nat} (hd : s_du T 0 d = 2) (q : lsF F (fm T d) (s_du T 2 d) ≠ (-2000000005 : Int64)) : s_tm T < lsF F (fm T d) (s_du T 2 d) ∧ lsF F (fm T d) (s_du T 2 d) ≤ s_du T 2 d := by
  obtain ⟨a, b⟩ := fm_ok h d
  rcases lsF_spec F (a := fm T d) (b := s_du T 2 d) a with ⟨h1, -⟩ | ⟨-, h2, h3, -⟩
  · exact absurd h1 q
  · rw [y_lt] at b
    rw [y_le] at h2
    exact ⟨by rw [y_lt]; omega, h3⟩
def FR (sv : SvV) (F : Int64 → Prop) (n : Nat) : Prop := t_fz sv = nI n ∧ F = fun y => ∃ i, i < n ∧ True ∧ t_fa sv i = y
theorem cAddFast {sv : SvV} {F : Int64 → Prop} {n : Nat} (h : FR sv F n) (hn : n < 200) {x : Int64} {post : SvV → Prop} (hp : ∀ sv', FR sv' (addF F x) (n + 1) → t_sd sv' = t_sd sv → post sv') : PX3_addFast sv x post := by
  unfold PX3_addFast
  rw [h.1, nI_clamp (by omega)]
  refine ⟨fun q => absurd q ?_, fun _ => ⟨vp_in_nI hn (by omega), ?_⟩⟩
  · rw [show (200 : Int32) = nI 200 from rfl, nI_leI (by omega) (by omega)]; omega
  rintro _ rfl _ rfl
  refine hp _ ⟨?_, ?_⟩ rfl
  · rw [t_wfz_t_fz, t_wfa_t_fz, h.1, nI_1]
  · have e1 := ex_succ (vp_updL (t_fa sv) n x) (fun _ => True) n trivial
    have e2 : (fun y => ∃ i, i < n ∧ True ∧ vp_updL (t_fa sv) n x i = y) = F := by
      rw [h.2]
      funext y
      apply propext
      constructor
      · rintro ⟨i, h1, h2, h3⟩
        exact ⟨i, h1, h2, by rw [updL_ne (by omega)] at h3; exact h3⟩
      · rintro ⟨i, h1, h2, h3⟩
        exact ⟨i, h1, h2, by rw [updL_ne (by omega)]; exact h3⟩
    rw [e2, updL_at] at e1
    exact e1.symm
theorem cFF_loop {v T : StV} (h : CS v T) {e : Nat} (he : e ≤ 200) (ee : s_en v = nI e) (hN : ∀ i, i < e → s_du v 0 i = (-2000000005 : Int64) → ∀ f, f < 11 → s_du v f i = (-2000000005 : Int64)) {post : SvV → Prop} (hp : ∀ sv, FR sv (Ft0 T e) (nf T e) → post sv) :
    ∀ m k sv, k + m = e → FR sv (Ft0 T k) (nf T k) → LX3_findFast_7 v post (m + 1) (nI k) sv := by
  intro m
  induction m with
  | zero =>
    intro k sv hk hs
    obtain rfl : k = e := by omega
    rw [LX3_findFast_7, ee]
    exact ⟨fun _ => hp sv hs, fun q => absurd (nI_le (Nat.le_refl _) (by omega)) q⟩
  | succ m ih =>
    intro k sv hk hs
    rw [LX3_findFast_7, ee, nI_clamp (by omega)]
    have d2 : s_du v 2 k = s_du T 2 k := by rw [h.du, rC_f ee he hN (by omega) (by omega)]
    have d0 : s_du v 0 k = s_du T 0 k := by rw [h.du, rC_f ee he hN (by omega) (by omega)]
    have hin : vp_in (nI k) 200 := vp_in_nI (by omega) (by omega)
    rw [d2, d0]
    have no : ¬ fP T k → ∀ z : Int32, z = nI k + 1 → LX3_findFast_7 v post (m + 1) z sv := fun q z hz => by
      rw [hz, nI_1]
      refine ih (k + 1) sv (by omega) ?_
      rw [Ft0_no q]
      unfold nf
      rw [mny, if_neg q]
      exact hs
    refine ⟨fun q => absurd ((nI_leI (by omega) (by omega)).mp q) (by omega), fun _ => ⟨hin, fun q => no (fun z => z.2 q), fun q => ⟨hin, fun q2 => no (fun z => z.1 q2), fun q2 => ⟨hin, ?_⟩⟩⟩⟩
    have y : fP T k := ⟨q2, q⟩
    have hl := nf_le T k
    refine cAddFast hs (by omega) (fun sv' hs' _ => ?_)
    rintro _ rfl
    rw [nI_1]
    refine ih (k + 1) sv' (by omega) ?_
    rw [Ft0_yes y]
    unfold nf at hs' ⊢
    rw [mny, if_pos y]
    exact hs'
theorem cFF {v T : StV} (h : CS v T) {sv : SvV} {post : SvV → Prop} (hp : ∀ sv, FR sv (Ft0 T 200) (nf T 200) → post sv) : PX3_findFast v sv post := by
  unfold PX3_findFast
  obtain ⟨e, n, he, hn, ee, en, hN⟩ := id h.1
  rintro _ rfl
  have out : ∀ i, e ≤ i → ¬ fP T i := fun i hi z => z.1 (h.noT ee he 2 i hi)
  have e1 : nf T 200 = nf T e := by
    have := mny_out (p := fP T) out (200 - e)
    rwa [show e + (200 - e) = 200 by omega] at this
  have e2 : Ft0 T 200 = Ft0 T e := by
    funext y
    apply propext
    constructor
    · rintro ⟨i, h1, h2, h3⟩
      rcases Nat.lt_or_ge i e with w | w
      · exact ⟨i, w, h2, h3⟩
      · exact absurd h2 (out i w)
    · rintro ⟨i, h1, h2, h3⟩
      exact ⟨i, by omega, h2, h3⟩
  rw [e1, e2] at hp
  refine ⟨e + 1, cFF_loop h he ee hN hp e 0 _ (by omega) ⟨rfl, ?_⟩⟩
  funext y
  apply propext
  constructor
  · rintro ⟨i, h1, -⟩
    exact absurd h1 (Nat.not_lt_zero _)
  · rintro ⟨i, h1, -⟩
    exact absurd h1 (Nat.not_lt_zero _)
theorem cFL_loop {v T : StV} (h : CS v T) {e : Nat} (he : e ≤ 200) (ee : s_en v = nI e) (hN : ∀ i, i < e → s_du v 0 i = (-2000000005 : Int64) → ∀ f, f < 11 → s_du v f i = (-2000000005 : Int64)) {post : LnV → Prop} (hp : ∀ w, LR (fun d => s_du T 2 d) (fun d => s_du T 8 d) w (sR T e) → post w) :
    ∀ m k w, k + m = e → LR (fun d => s_du T 2 d) (fun d => s_du T 8 d) w (sR T k) → LX3_findLoose_10 v post (m + 1) (nI k) w := by
  intro m
  induction m with
  | zero =>
    intro k w hk hw
    obtain rfl : k = e := by omega
    rw [LX3_findLoose_10, ee]
    exact ⟨fun _ => hp w hw, fun q => absurd (nI_le (Nat.le_refl _) (by omega)) q⟩
  | succ m ih =>
    intro k w hk hw
    rw [LX3_findLoose_10, ee, nI_clamp (by omega)]
    have dd : ∀ f, f < 9 → s_du v f k = s_du T f k := fun f hf => by rw [h.du, rC_f ee he hN (by omega) hf]
    have hin : vp_in (nI k) 200 := vp_in_nI (by omega) (by omega)
    rw [dd 2 (by omega), dd 0 (by omega), dd 8 (by omega)]
    have hl : (sR T k).length < 200 := by
      have := gLs_len (p := fun i => s_du T 0 i = 2) (lt := slt T) k
      unfold sR
      omega
    refine ⟨fun q => absurd ((nI_leI (by omega) (by omega)).mp q) (by omega), fun _ => ⟨hin, fun q => ⟨hin, hin, ?_⟩, fun q => ?_⟩⟩
    · refine cAdd hw hl rfl rfl rfl (fun w' hw' => ?_)
      rintro _ rfl
      rw [nI_1]
      refine ih (k + 1) w' (by omega) ?_
      unfold sR
      rw [gLs, if_pos q]
      exact hw'
    · rintro _ rfl
      rw [nI_1]
      refine ih (k + 1) w (by omega) ?_
      unfold sR
      rw [gLs, if_neg q]
      exact hw
theorem cFL {v T : StV} (h : CS v T) {w : LnV} {post : LnV → Prop} (hp : ∀ w, LR (fun d => s_du T 2 d) (fun d => s_du T 8 d) w (sR T 200) → post w) : PX3_findLoose v w post := by
  unfold PX3_findLoose
  obtain ⟨e, n, he, hn, ee, en, hN⟩ := id h.1
  rintro _ rfl
  have e1 : sR T 200 = sR T e := by
    have := gLs_out (p := fun i => s_du T 0 i = 2) (lt := slt T) (e := e) (fun i hi z => by
      rw [h.noT ee he 0 i hi] at z
      exact absurd z (by decide)) (200 - e)
    rwa [show e + (200 - e) = 200 by omega] at this
  rw [e1] at hp
  exact ⟨e + 1, cFL_loop h he ee hN hp e 0 _ (by omega) (LR.nil _ _ w)⟩
theorem cLst_loop {sv : SvV} {n : Nat} (hn : n ≤ 200) (en : t_fz sv = nI n) {a b : Int64} (ha : 0 ≤ a) {post : Int64 → Prop} (hp : ∀ x, LsT (fun y => ∃ i, i < n ∧ True ∧ t_fa sv i = y) a b x → post x) :
    ∀ m k x, k + m = n → LsT (fun y => ∃ i, i < k ∧ True ∧ t_fa sv i = y) a b x → LX3_leastFast_8 sv a b post (m + 1) x (nI k) := by
  intro m
  induction m with
  | zero =>
    intro k x hk hx
    obtain rfl : k = n := by omega
    rw [LX3_leastFast_8, en]
    exact ⟨fun _ => hp x hx, fun q => absurd (nI_le (Nat.le_refl _) (by omega)) q⟩
  | succ m ih =>
    intro k x hk hx
    rw [LX3_leastFast_8, en, nI_clamp (by omega)]
    have hin : vp_in (nI k) 200 := vp_in_nI (by omega) (by omega)
    have es := ex_succ (t_fa sv) (fun _ => True) k trivial
    have nx : ∀ x', LsT (addF (fun y => ∃ i, i < k ∧ True ∧ t_fa sv i = y) (t_fa sv k)) a b x' → ∀ z : Int32, z = nI k + 1 → LX3_leastFast_8 sv a b post (m + 1) x' z := fun x' hx' z hz => by
      rw [hz, nI_1]
      refine ih (k + 1) x' (by omega) ?_
      rw [es]
      exact hx'
    refine ⟨fun q => absurd ((nI_leI (by omega) (by omega)).mp q) (by omega), fun _ => ⟨hin, fun q => nx x (LsT_skip hx (fun z => Int64.not_le.mpr q z.1)), fun q => ⟨hin, fun q2 => nx x (LsT_skip hx (fun z => Int64.not_le.mpr q2 z.2)), fun q2 => ⟨fun q3 => ⟨hin, ?_⟩, fun q3 => ⟨hin, fun q4 => nx x (LsT_keep hx q3 q4), fun q4 => ⟨hin, ?_⟩⟩⟩⟩⟩⟩
    · rintro _ rfl
      rw [q3] at hx
      exact nx _ (LsT_first ha hx (Int64.not_lt.mp q) (Int64.not_lt.mp q2))
    · rintro _ rfl
      exact nx _ (LsT_take hx q3 (Int64.le_of_lt (Int64.not_le.mp q4)) (Int64.not_lt.mp q) (Int64.not_lt.mp q2))
theorem cLst {sv : SvV} {F : Int64 → Prop} {n : Nat} (h : FR sv F n) (hn : n ≤ 200) {a b : Int64} (ha : 0 ≤ a) {post : Int64 → Prop} (hp : post (lsF F a b)) : PX3_leastFast sv a b post := by
  unfold PX3_leastFast
  refine ⟨n + 1, cLst_loop hn h.1 ha (fun x hx => ?_) n 0 (-2000000005 : Int64) (by omega) (Or.inl ⟨rfl, fun y hy => ?_⟩)⟩
  · rw [← h.2] at hx
    rw [lsF_eq ha hx]
    exact hp
  · obtain ⟨i, h1, -⟩ := hy
    exact absurd h1 (Nat.not_lt_zero _)
theorem cPlan_loop {v T : StV} (h : CS v T) (hI : IT T) {w : LnV} {N : Nat} (hN : N ≤ 200) (hz : l_sz w = nI N) {post : Int32 → LnV → SvV → Prop} :
    ∀ (L : List Nat) (i c n : Nat) (F : Int64 → Prop) (sv : SvV), i + L.length = N → n + L.length ≤ 200 → FR sv F n → (∀ j d, L[j]? = some d → l_du w (i + j) = nI d) → (∀ d, d ∈ L → s_du T 0 d = 2) → (∀ sv', (∀ j, j < i → t_sd sv' j = t_sd sv j) → (∀ j x, (plT T F L)[j]? = some x → t_sd sv' (i + j) = x) → post (nI (c + plA T F L)) w sv') → LX3_plan_14 v w post (L.length + 1) (nI c) (nI i) sv := by
  intro L
  induction L with
  | nil =>
    intro i c n F sv hi hn hF hd h2 hp
    rw [LX3_plan_14, hz]
    rw [List.length_nil] at hi
    exact ⟨fun _ => hp sv (fun _ _ => rfl) (fun j x q => by simp [plT] at q), fun q => absurd (nI_le (by omega) (by omega)) q⟩
  | cons d L ih =>
    intro i c n F sv hi hn hF hd h2 hp
    rw [List.length_cons] at hi hn
    have e0 : l_du w i = nI d := hd 0 d (List.getElem?_cons_zero)
    have k2 := h2 d List.mem_cons_self
    have hk0 : s_du T 0 d ≠ (-2000000005 : Int64) := by rw [k2]; decide
    have hk := hI.wi.lt hk0
    have hin : vp_in (nI i) 200 := vp_in_nI (by omega) (by omega)
    have hind : vp_in (nI d) 200 := vp_in_nI hk (by omega)
    rw [LX3_plan_14, hz, nI_clamp (show i < 2 ^ 31 by omega), e0]
    refine ⟨fun q => absurd ((nI_leI (by omega) (by omega)).mp q) (by omega), fun _ => ⟨hin, ?_⟩⟩
    rintro _ rfl
    rw [nI_clamp (show d < 2 ^ 31 by omega)]
    refine ⟨hind, ?_⟩
    rintro _ rfl
    refine ⟨hind, ?_⟩
    rw [h.f hk0 (f := 2) (by omega) (by omega) (by omega), h.f hk0 (f := 3) (by omega) (by omega) (by omega), h.tm]
    have tail : ∀ j z, L[j]? = some z → l_du w (i + 1 + j) = nI z := fun j z q => by
      rw [show i + 1 + j = i + (j + 1) by omega]
      exact hd (j + 1) z (by rw [List.getElem?_cons_succ]; exact q)
    have tail2 : ∀ z, z ∈ L → s_du T 0 z = 2 := fun z q => h2 z (List.mem_cons_of_mem _ q)
    refine cLst hF (by omega) (a := fm T d) (fm_ok hI d).1 ⟨fun q => ?_, fun q => ⟨hin, ?_⟩⟩
    · have e1 : plT T F (d :: L) = s_du T 2 d :: plT T (addF F (s_du T 2 d)) L := by rw [plT, if_pos q]
      have e2 : plA T F (d :: L) = plA T (addF F (s_du T 2 d)) L + 1 := by rw [plA, if_pos q]
      rw [e1, e2] at hp
      refine cAddFast hF (by omega) (fun sv1 hF1 es => ?_)
      rintro _ rfl
      refine ⟨hin, ?_⟩
      rintro _ rfl _ rfl
      rw [nI_1, nI_1]
      refine ih (i + 1) (c + 1) (n + 1) _ _ (by omega) (by omega) hF1 tail tail2 (fun sv' a1 a2 => ?_)
      rw [show c + 1 + plA T (addF F (s_du T 2 d)) L = c + (plA T (addF F (s_du T 2 d)) L + 1) by omega]
      refine hp sv' (fun j hj => ?_) (fun j x z => ?_)
      · rw [a1 j (by omega), t_wsd_t_sd, updL_ne (by omega), es]
      · cases j with
        | zero =>
          rw [List.getElem?_cons_zero] at z
          rw [a1 (i + 0) (by omega), t_wsd_t_sd, Nat.add_zero, updL_at]
          exact Option.some.inj z
        | succ j =>
          rw [List.getElem?_cons_succ] at z
          rw [show i + (j + 1) = i + 1 + j by omega]
          exact a2 j x z
    · have e1 : plT T F (d :: L) = lsF F (fm T d) (s_du T 2 d) :: plT T F L := by rw [plT, if_neg q]
      have e2 : plA T F (d :: L) = plA T F L := by rw [plA, if_neg q]
      rw [e1, e2] at hp
      rintro _ rfl _ rfl
      rw [nI_1]
      refine ih (i + 1) c n F _ (by omega) (by omega) hF tail tail2 (fun sv' a1 a2 => ?_)
      refine hp sv' (fun j hj => ?_) (fun j x z => ?_)
      · rw [a1 j (by omega), t_wsd_t_sd, updL_ne (by omega)]
      · cases j with
        | zero =>
          rw [List.getElem?_cons_zero] at z
          rw [a1 (i + 0) (by omega), t_wsd_t_sd, Nat.add_zero, updL_at]
          exact Option.some.inj z
        | succ j =>
          rw [List.getElem?_cons_succ] at z
          rw [show i + (j + 1) = i + 1 + j by omega]
          exact a2 j x z
theorem cPlan {v T : StV} (h : CS v T) (hI : IT T) {w : LnV} {sv : SvV} {post : Int32 → LnV → SvV → Prop} (hp : ∀ w' sv', l_sz w' = nI (sL T).length → (∀ j d, (sL T)[j]? = some d → l_du w' (0 + j) = nI d) → (∀ j x, (plT T (Ft0 T 200) (sL T))[j]? = some x → t_sd sv' (0 + j) = x) → post (nI (plA T (Ft0 T 200) (sL T))) w' sv') : PX3_plan v w sv post := by
  unfold PX3_plan
  refine cFF h (fun sv1 hF => cFL h (fun w1 hw => ?_))
  have hl : (sR T 200).length = (sL T).length := by unfold sL; rw [List.length_reverse]
  have hle := nf_le T 200
  have ez : l_sz w1 = nI (sL T).length := by rw [← hl]; exact hw.1
  have at' : ∀ j d, (sL T)[j]? = some d → l_du w1 (0 + j) = nI d := rev_at (fun j d z => (hw.2 j d z).1)
  refine ⟨_, cPlan_loop h hI (N := (sL T).length) (by omega) ez (sL T) 0 0 (nf T 200) (Ft0 T 200) sv1 (by omega) (by omega) hF at' (fun d hd => (sL_mem.mp hd).2) (fun sv' _ a2 => ?_)⟩
  rw [Nat.zero_add]
  exact hp w1 sv' ez at' a2
theorem cFew {st : Nat → StV} {ln : Nat → LnV} {sv : SvV} {cu : Nat} {T : StV} (h : CS (st cu) T) (hI : IT T) {post : Int64 → (Nat → LnV) → SvV → Prop} (hp : ∀ ln' sv', post (lN (plA T (Ft0 T 200) (sL T))) ln' sv') : PX6_fewest st ln sv cu post := by
  unfold PX6_fewest
  refine cPlan h hI (fun w' sv' _ _ _ => ?_)
  rintro _ rfl
  have := plA_le T (sL T) (Ft0 T 200)
  have l1 : (sL T).length ≤ 200 := by
    unfold sL sR
    rw [List.length_reverse]
    exact gLs_len 200
  rw [nI_l (by omega)]
  exact hp _ _
