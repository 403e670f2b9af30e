/-! moves from wheel to wheel; time goes on; both sides -/
theorem tr_step (b k : Nat) : tr b (k + 1) ≤ tr b k := by
  unfold tr
  have e : 2 ^ (6 * (k + 1 + 1)) = 2 ^ (6 * (k + 1)) * 64 := by
    rw [show 6 * (k + 1 + 1) = 6 * (k + 1) + 6 by omega, Nat.pow_add]
  rw [e, ← Nat.div_div_eq_div_mul, Nat.mul_comm (2 ^ (6 * (k + 1))) 64, ← Nat.mul_assoc]
  exact Nat.mul_le_mul_right _ (Nat.div_mul_le_self _ _)
theorem tr_anti (b : Nat) {i : Nat} : ∀ d, tr b (i + d) ≤ tr b i
  | 0 => Nat.le_refl _
  | d + 1 => Nat.le_trans (tr_step b (i + d)) (tr_anti b d)
theorem tr_an {b i j : Nat} (h : i ≤ j) : tr b j ≤ tr b i := by
  have := tr_anti b (i := i) (j - i)
  rwa [show i + (j - i) = j by omega] at this
abbrev fstT (b k : Nat) : Prop := k = 0 ∨ ¬ tr b (k - 1) = tr b k
def mvN (b a t : Nat) : Nat → Nat
  | 0 => 0
  | k + 1 => mvN b a t k + (if fstT b k ∧ a < tr b k ∧ tr b k ≤ t then 1 else 0)
def dnN (b t : Nat) : Nat → Nat
  | 0 => 0
  | k + 1 => dnN b t k + (if fstT b k ∧ tr b k ≤ t then 1 else 0)
theorem mvN_le (b a t : Nat) : ∀ n, mvN b a t n ≤ n
  | 0 => Nat.le_refl _
  | n + 1 => by
    have := mvN_le b a t n
    unfold mvN
    split <;> omega
theorem mvN_lo {b a t : Nat} : ∀ n, (∀ i, i < n → a < tr b i) → mvN b a t n = dnN b t n
  | 0, _ => rfl
  | n + 1, h => by
    rw [mvN, dnN, mvN_lo n (fun i hi => h i (by omega))]
    by_cases q : fstT b n ∧ tr b n ≤ t
    · rw [if_pos ⟨q.1, h n (by omega), q.2⟩, if_pos q]
    · rw [if_neg (fun z => q ⟨z.1, z.2.2⟩), if_neg q]
theorem mvN_hi {b a t w : Nat} (h : tr b w ≤ a) : ∀ d, mvN b a t (w + d) = mvN b a t w
  | 0 => rfl
  | d + 1 => by
    have := tr_anti b (i := w) d
    rw [show w + (d + 1) = (w + d) + 1 from rfl, mvN, if_neg (fun z => by have := z.2.1; omega), mvN_hi h d, Nat.add_zero]
theorem whN_spec (a b : Nat) : (∀ i, i < whN a b → a < tr b i) ∧ (whN a b < 5 → tr b (whN a b) ≤ a) := by
  obtain ⟨-, h1, h2, h3⟩ := frst_spec (fun k => decide (tr b k ≤ a)) 5 0
  refine ⟨fun i hi => ?_, fun h => ?_⟩
  · have := h2 i (by omega) hi
    simpa using this
  · have := h3 (by unfold whN at h; omega)
    unfold whN
    simpa using this
theorem mv_dn (b a t : Nat) : mvN b a t 5 = dnN b t (whN a b) := by
  obtain ⟨h1, h2⟩ := whN_spec a b
  have h5 := whN_le a b
  rw [← mvN_lo _ h1]
  rcases Nat.lt_or_ge (whN a b) 5 with q | q
  · have := mvN_hi (t := t) (h2 q) (5 - whN a b)
    rwa [show whN a b + (5 - whN a b) = 5 by omega] at this
  · rw [show whN a b = 5 by omega]
theorem dnN_0 {b t : Nat} : ∀ n, (∀ k, k < n → t < tr b k) → dnN b t n = 0
  | 0, _ => rfl
  | n + 1, h => by
    rw [dnN, dnN_0 n (fun k hk => h k (by omega)), if_neg (fun z => by have := h n (by omega); have := z.2; omega)]
theorem dnN_eq {b t w : Nat} : ∀ d, tr b (w + d) = tr b w → dnN b t (w + 1 + d) = dnN b t (w + 1)
  | 0, _ => rfl
  | d + 1, h => by
    have h1 : tr b (w + d) ≤ tr b w := tr_anti b d
    have h2 : tr b (w + (d + 1)) ≤ tr b (w + d) := tr_step b (w + d)
    have h3 : tr b (w + d) = tr b w := by omega
    rw [show w + 1 + (d + 1) = (w + 1 + d) + 1 from rfl, dnN, dnN_eq d h3, if_neg, Nat.add_zero]
    intro z
    rcases z.1 with q | q
    · omega
    · rw [show w + 1 + d - 1 = w + d by omega, show w + 1 + d = w + (d + 1) by omega, h3, h] at q
      exact q rfl
theorem dn_step {b t w : Nat} (hw : w < 5) (h : tr b w ≤ t) : whN (tr b w) b ≤ w ∧ dnN b t (w + 1) = dnN b t (whN (tr b w) b) + 1 := by
  obtain ⟨h1, h2⟩ := whN_spec (tr b w) b
  have hle : whN (tr b w) b ≤ w := by
    rcases Nat.lt_or_ge w (whN (tr b w) b) with q | q
    · exact absurd (h1 w q) (Nat.lt_irrefl _)
    · exact q
  obtain ⟨z, hz⟩ : ∃ z, z = whN (tr b w) b := ⟨_, rfl⟩
  rw [← hz] at h1 h2 hle ⊢
  have e1 : tr b z = tr b w := Nat.le_antisymm (h2 (by omega)) (tr_an hle)
  refine ⟨hle, ?_⟩
  have e2 := dnN_eq (b := b) (t := t) (w := z) (w - z) (by rw [show z + (w - z) = w by omega]; exact e1.symm)
  rw [show z + 1 + (w - z) = w + 1 by omega] at e2
  rw [e2, dnN, if_pos]
  refine ⟨?_, by omega⟩
  by_cases q : z = 0
  · exact Or.inl q
  · right
    have := h1 (z - 1) (by omega)
    omega
theorem cMd_loop {b t : Nat} (hb : b < 2 ^ 62) (ht : t < 2 ^ 62) {post : Int32 → Prop} :
    ∀ m w s n, w ≤ m → w + s ≤ 5 → post (nI (n + dnN b t w)) → LX5_movesDown_14 (lN t) (lN b) post (m + 1) (nI w) (nI n) (nI s) := by
  intro m
  induction m with
  | zero =>
    intro w s n h1 h2 hp
    obtain rfl : w = 0 := by omega
    rw [LX5_movesDown_14]
    exact ⟨fun _ => hp, fun _ => ⟨fun _ => hp, fun q => absurd (by decide) q⟩⟩
  | succ m ih =>
    intro w s n h1 h2 hp
    rw [LX5_movesDown_14]
    cases w with
    | zero => exact ⟨fun _ => hp, fun _ => ⟨fun _ => hp, fun q => absurd (by decide) q⟩⟩
    | succ w =>
      refine ⟨fun q => absurd q ?_, fun _ => ⟨fun q => absurd q ?_, fun _ => ?_⟩⟩
      · rw [show (5 : Int32) = nI 5 from rfl, nI_leI (by omega) (by omega)]; omega
      · rw [show (0 : Int32) = nI 0 from rfl, nI_leI (by omega) (by omega)]; omega
      rintro _ rfl _ rfl
      have e6 : (6 : Int32) * nI (w + 1) = nI (6 * (w + 1)) := by rw [show (6 : Int32) = nI 6 from rfl, pk_mul]
      have etr := tr_le b w
      rw [e6, sh_r (by omega) hb, wb_shl _ (by omega)]
      show ((lN (tr b w) ≤ lN t → PX5_wheelOf (lN (tr b w)) (lN b) _) ∧ (¬ lN (tr b w) ≤ lN t → _))
      rw [lN_leL (by omega) (by omega)]
      refine ⟨fun q => cWhN (by omega) hb etr ?_, fun q => ?_⟩
      · obtain ⟨d1, d2⟩ := dn_step (t := t) (by omega) q
        rintro _ rfl _ rfl
        rw [nI_1, nI_1]
        refine ih _ _ _ (by omega) (by omega) ?_
        rw [d2] at hp
        rw [show n + 1 + dnN b t (whN (tr b w) b) = n + (dnN b t (whN (tr b w) b) + 1) by omega]
        exact hp
      · rw [dnN_0 (w + 1) (fun k hk => by have := tr_an (b := b) (show k ≤ w by omega); omega)] at hp
        exact hp
def mvs (x t y : Int64) : Int64 := lN (mvN (tN y) (tN x) (tN t) 5)
theorem cMd {x t y : Int64} (h0 : 0 ≤ x) (h1 : x ≤ y) (h2 : y ≤ (1125899906842624 : Int64)) (t0 : 0 ≤ t) (t1 : t ≤ (1125899906842624 : Int64)) {post : Int32 → Prop} (hp : ∀ z : Int32, z.toInt64 = mvs x t y → post z) : PX5_movesDown x t y post := by
  have hy0 := Int64.le_trans h0 h1
  have a2 := tN_le h0 h1
  have b2 := tN_M hy0 h2
  have c2 := tN_M t0 t1
  unfold PX5_movesDown
  have hw := whN_le (tN x) (tN y)
  have hq : post (nI (0 + dnN (tN y) (tN t) (whN (tN x) (tN y)))) := by
    rw [Nat.zero_add, ← mv_dn]
    refine hp _ ?_
    have := mvN_le (tN y) (tN x) (tN t) 5
    rw [nI_l (by omega)]
    rfl
  rw [tN_lN h0, tN_lN hy0, tN_lN t0]
  exact cWhN (by omega) (by omega) a2 ⟨6, cMd_loop (by omega) (by omega) 5 _ 0 0 hw (by omega) hq⟩
theorem mMo_loop {a b t : Nat} (hb : b < 2 ^ 62) (ha : a < 2 ^ 62) (ht : t < 2 ^ 62) {post : Int32 → Prop} (hp : post (nI (mvN b a t 5))) :
    ∀ m k, k + m = 5 → LX7_movesOf_6 (lN b) (lN a) (lN t) post (m + 1) (nI (mvN b a t k)) (nI k) := by
  intro m
  induction m with
  | zero =>
    intro k hk
    obtain rfl : k = 5 := by omega
    rw [LX7_movesOf_6]
    exact ⟨fun _ => hp, fun q => absurd (by decide) q⟩
  | succ m ih =>
    intro k hk
    rw [LX7_movesOf_6]
    have step := ih (k + 1) (by omega)
    rw [mvN] at step
    have n0 : ¬ (fstT b k ∧ a < tr b k ∧ tr b k ≤ t) → ∀ x6 : Int32, x6 = nI (mvN b a t k) + 0 → ∀ x7 : Int32, x7 = nI k + 1 → LX7_movesOf_6 (lN b) (lN a) (lN t) post (m + 1) x6 x7 := fun q x6 e6 x7 e7 => by
      rw [if_neg q, Nat.add_zero] at step
      rw [e6, e7, Int32.add_zero, nI_1]
      exact step
    have n1 : (fstT b k ∧ a < tr b k ∧ tr b k ≤ t) → ∀ x6 : Int32, x6 = nI (mvN b a t k) + 1 → ∀ x7 : Int32, x7 = nI k + 1 → LX7_movesOf_6 (lN b) (lN a) (lN t) post (m + 1) x6 x7 := fun q x6 e6 x7 e7 => by
      rw [if_pos q] at step
      rw [e6, e7, nI_1, nI_1]
      exact step
    have etr := tr_le b k
    have etr1 := tr_le b (k - 1)
    refine ⟨fun q => absurd q ?_, fun _ => mTurn hb (by omega) rfl ⟨fun q => ?_, fun q => ?_⟩⟩
    · rw [show (5 : Int32) = nI 5 from rfl, nI_leI (by omega) (by omega)]; omega
    · have k0 : k = 0 := by
        rw [show (0 : Int32) = nI 0 from rfl, nI_eq (by omega) (by omega)] at q
        exact q
      rw [lN_leL (by omega) (by omega), lN_ltL (by omega) (by omega)]
      exact ⟨fun z => n0 (fun w => by have := w.2.1; omega), fun z => ⟨fun z2 => n0 (fun w => by have := w.2.2; omega), fun z2 => n1 ⟨Or.inl k0, by omega, by omega⟩⟩⟩
    · have k0 : k ≠ 0 := fun z => q (by rw [z]; rfl)
      have ek : nI k - 1 = nI (k - 1) := by
        obtain ⟨j, rfl⟩ : ∃ j, k = j + 1 := ⟨k - 1, by omega⟩
        rw [nI_pred]
        rfl
      refine mTurn hb (k := k - 1) (by omega) ek ?_
      rw [lN_eqL (by omega) (by omega), lN_leL (by omega) (by omega), lN_ltL (by omega) (by omega)]
      refine ⟨fun z => n0 (fun w => ?_), fun z => ⟨fun z1 => n0 (fun w => by have := w.2.1; omega), fun z1 => ⟨fun z2 => n0 (fun w => by have := w.2.2; omega), fun z2 => n1 ⟨Or.inr z, by omega, by omega⟩⟩⟩⟩
      exact w.1.elim k0 (fun w => w z)
theorem mMo {x t y : Int64} (h0 : 0 ≤ x) (h1 : x ≤ y) (h2 : y ≤ (1125899906842624 : Int64)) (t0 : 0 ≤ t) (t1 : t ≤ (1125899906842624 : Int64)) {post : Int32 → Prop} (hp : ∀ z : Int32, z.toInt64 = mvs x t y → post z) : PX7_movesOf y x t post := by
  have hy0 := Int64.le_trans h0 h1
  have a2 := tN_le h0 h1
  have b2 := tN_M hy0 h2
  have c2 := tN_M t0 t1
  unfold PX7_movesOf
  have hq : post (nI (mvN (tN y) (tN x) (tN t) 5)) := by
    refine hp _ ?_
    have := mvN_le (tN y) (tN x) (tN t) 5
    rw [nI_l (by omega)]
    rfl
  rw [tN_lN h0, tN_lN hy0, tN_lN t0]
  exact ⟨6, mMo_loop (by omega) (by omega) (by omega) hq 5 0 (by omega)⟩
/-- within one turn of wheel 0 nothing moves -/
theorem tr_64 (b k : Nat) : ∃ c, tr b k = 64 * c := by
  refine ⟨b / 2 ^ (6 * (k + 1)) * 2 ^ (6 * k), ?_⟩
  unfold tr
  rw [show 6 * (k + 1) = 6 * k + 6 by omega, Nat.pow_add, Nat.mul_comm (2 ^ (6 * k)) (2 ^ 6), Nat.mul_left_comm]
theorem mvN_0 {b a t : Nat} (h : a / 64 = t / 64) : ∀ n, mvN b a t n = 0
  | 0 => rfl
  | n + 1 => by
    rw [mvN, mvN_0 h n, if_neg (fun z => ?_)]
    obtain ⟨c, hc⟩ := tr_64 b n
    have := z.2
    omega
/-- pass -/
def psN (T : StV) (t : Int64) : Nat → StV
  | 0 => T
  | n + 1 => if s_du T 2 n = (-2000000005 : Int64) then psN T t n else s_wmv (s_wdu (psN T t n) 11 n (s_du T 11 n + mvs (s_tm T) t (s_du T 2 n))) (s_mv (psN T t n) + mvs (s_tm T) t (s_du T 2 n))
theorem psN_tm (T : StV) (t : Int64) : ∀ n, s_tm (psN T t n) = s_tm T
  | 0 => rfl
  | n + 1 => by
    rw [psN]
    split
    · exact psN_tm T t n
    · rw [s_wmv_s_tm, tm_wdu]; exact psN_tm T t n
theorem psN_du (T : StV) (t : Int64) (f i : Nat) : ∀ n, f ≠ 11 ∨ n ≤ i → s_du (psN T t n) f i = s_du T f i
  | 0, _ => rfl
  | n + 1, h => by
    rw [psN]
    split
    · exact psN_du T t f i n (by omega)
    · rw [s_wmv_s_du, du_wdu, if_neg (by omega)]
      exact psN_du T t f i n (by omega)
theorem psN_out {T : StV} {t : Int64} {e : Nat} (h : ∀ i, e ≤ i → s_du T 2 i = (-2000000005 : Int64)) : ∀ m, psN T t (e + m) = psN T t e
  | 0 => rfl
  | m + 1 => by
    show (if s_du T 2 (e + m) = (-2000000005 : Int64) then psN T t (e + m) else _) = _
    rw [if_pos (h _ (by omega)), psN_out h m]
def aPass (T : StV) (t : Int64) : StV := s_wtm (psN T t 200) t
theorem psN_same {T : StV} {t : Int64} (h : ∀ i, s_du T 2 i ≠ (-2000000005 : Int64) → mvs (s_tm T) t (s_du T 2 i) = 0) : ∀ n, psN T t n = T
  | 0 => rfl
  | n + 1 => by
    rw [psN]
    split
    · exact psN_same h n
    · rename_i q
      rw [psN_same h n, h n q, Int64.add_zero, Int64.add_zero]
      refine st_ext rfl rfl rfl rfl rfl rfl (fun f i => ?_) (fun _ _ => rfl)
      rw [s_wmv_s_du, du_wdu]
      by_cases z : f = 11 ∧ i = n
      · rw [if_pos z, z.1, z.2]
      · rw [if_neg z]
abbrev okP (T : StV) : Prop := 0 ≤ s_tm T ∧ ∀ i, s_du T 2 i ≠ (-2000000005 : Int64) → s_tm T ≤ s_du T 2 i ∧ s_du T 2 i ≤ (1125899906842624 : Int64)
theorem IT.okP {T : StV} (h : IT T) : okP T := ⟨h.1.1, fun i q => ⟨(h.tk q).2.1, (h.tk q).2.2⟩⟩
theorem psN_th {T : StV} {t : Int64} {n i : Nat} (h : s_du T 0 i ≠ (-2000000005 : Int64)) : s_du (psN T t n) 0 i ≠ (-2000000005 : Int64) := by
  rw [psN_du T t 0 i n (by omega)]; exact h
theorem cPass_loop {T : StV} {t : Int64} (hP : okP T) (hI : ∀ i, s_du T 2 i ≠ (-2000000005 : Int64) → s_du T 0 i ≠ (-2000000005 : Int64)) (t0 : 0 ≤ t) (t1 : t ≤ (1125899906842624 : Int64)) {e : Nat} (he : e ≤ 200) {post : StV → Prop} (hp : ∀ v, CS v (s_wtm (psN T t e) t) → post v) :
    ∀ m k v, k + m = e → s_en v = nI e → CS v (psN T t k) → LX0_moveTime_18 t post (m + 1) (nI k) v := by
  intro m
  induction m with
  | zero =>
    intro k v hk ee hv
    obtain rfl : k = e := by omega
    rw [LX0_moveTime_18, ee]
    refine ⟨fun _ => ?_, fun q => absurd (nI_le (Nat.le_refl _) (by omega)) q⟩
    rintro _ rfl
    exact hp _ (hv.wtm t)
  | succ m ih =>
    intro k v hk ee hv
    rw [LX0_moveTime_18, ee, nI_clamp (by omega)]
    have hin : vp_in (nI k) 200 := vp_in_nI (by omega) (by omega)
    obtain ⟨e', n, he', hn, ee', en, hN⟩ := id hv.1
    have hee : e' = e := by
      rw [ee] at ee'
      exact ((nI_eq (by omega) (by omega)).mp ee').symm
    subst hee
    have d2 : s_du v 2 k = s_du T 2 k := by
      have := hv.du 2 k
      rw [psN_du T t 2 k k (by omega)] at this
      rw [this, rC_f ee' he hN (by omega) (by omega)]
    have htm : s_tm v = s_tm T := by rw [hv.tm]; exact psN_tm T t k
    refine ⟨fun q => absurd ((nI_leI (by omega) (by omega)).mp q) (by omega), fun _ => ⟨hin, ?_⟩⟩
    rintro _ rfl
    rw [d2, htm]
    refine ⟨fun q => ?_, fun q => ?_⟩
    · rintro _ rfl
      rw [nI_1]
      refine ih (k + 1) v (by omega) ee ?_
      rw [psN, if_pos q]
      exact hv
    · obtain ⟨p1, p2⟩ := hP.2 k q
      refine cMd hP.1 p1 p2 t0 t1 (fun z hz => ⟨hin, hin, ?_⟩)
      rintro _ rfl _ rfl _ rfl
      have th : s_du (psN T t k) 0 k ≠ (-2000000005 : Int64) := psN_th (hI k q)
      have d11 : s_du v 11 k = s_du T 11 k := by rw [hv.f th (by omega) (by omega) (by omega)]; exact psN_du T t 11 k k (by omega)
      rw [nI_1, hz, d11, mv_wdu, hv.mv]
      refine ih (k + 1) _ (by omega) ?_ ?_
      · rw [s_wmv_s_en, en_wdu]; exact ee
      · rw [psN, if_neg q]
        exact (hv.put th (by omega) (by omega) (by omega)).wmv _
theorem cPass {v T : StV} (h : CS v T) (hP : okP T) (hI : ∀ i, s_du T 2 i ≠ (-2000000005 : Int64) → s_du T 0 i ≠ (-2000000005 : Int64)) {t : Int64} (t0 : 0 ≤ t) (t1 : t ≤ (1125899906842624 : Int64)) {post : StV → Prop} (hp : ∀ v', CS v' (aPass T t) → post v') : PX0_moveTime v t post := by
  unfold PX0_moveTime
  obtain ⟨e, n, he, hn, ee, en, hN⟩ := id h.1
  have hl : psN T t 200 = psN T t e := by
    have := psN_out (t := t) (h.noT ee he 2) (200 - e)
    rwa [show e + (200 - e) = 200 by omega] at this
  unfold aPass at hp
  refine ⟨fun q => ?_, fun q => ?_⟩
  · rintro _ rfl
    refine hp _ ?_
    rw [psN_same (T := T) (t := t)]
    · exact h.wtm t
    · intro i hi
      obtain ⟨p1, p2⟩ := hP.2 i hi
      have hxM : tN (s_tm T) ≤ 1125899906842624 := tN_M hP.1 (Int64.le_trans p1 p2)
      have c2 := tN_M t0 t1
      rw [h.tm, tN_lN hP.1, tN_lN t0, show (6 : Int32) = nI 6 from rfl, sh_r (by omega) (by omega), sh_r (by omega) (by omega)] at q
      have q2 := (lN_eqL (by have := Nat.div_le_self (tN (s_tm T)) (2 ^ 6); omega) (by have := Nat.div_le_self (tN t) (2 ^ 6); omega)).mp q
      unfold mvs
      rw [mvN_0 q2]
      rfl
  · rw [hl] at hp
    exact ⟨e + 1, cPass_loop hP hI t0 t1 he (fun v' hv' => hp v' hv') e 0 v (by omega) ee h⟩
theorem mPass_loop {T : StV} {t : Int64} (hP : okP T) (t0 : 0 ≤ t) (t1 : t ≤ (1125899906842624 : Int64)) {r : MmV} {post : MmV → Prop} (hp : ∀ s', MS s' (aPass T t) → post (m_ws r s')) :
    ∀ m k s, k + m = 200 → MS s (psN T t k) → LX7_pass_2 t post (m + 1) (nI k) (m_ws r s) := by
  intro m
  induction m with
  | zero =>
    intro k s hk hs
    obtain rfl : k = 200 := by omega
    rw [LX7_pass_2]
    refine ⟨fun _ => ?_, fun q => absurd (by decide) q⟩
    rintro _ rfl
    rw [m_ws_m_s, m_ws_ws]
    exact hp _ (hs.wtm t)
  | succ m ih =>
    intro k s hk hs
    rw [LX7_pass_2]
    have e2 : s_du (psN T t k) 2 k = s_du T 2 k := psN_du T t 2 k k (by omega)
    have htm : m_s (m_ws r s) 3700 = s_tm T := by rw [m_ws_m_s, hs.tm]; exact psN_tm T t k
    refine ⟨fun q => absurd q ?_, fun _ => mHas (m_ws_m_s r s) hs (by omega) rfl (fun d q => b1 ?_) (fun q => b0 ?_)⟩
    · rw [show (200 : Int32) = nI 200 from rfl, nI_leI (by omega) (by omega)]; omega
    · rw [e2] at q
      obtain ⟨p1, p2⟩ := hP.2 k q
      refine mGet (m_ws_m_s r s) rfl (by omega) (c := 3) rfl (by omega) ?_
      have g2 : s (14 * k + 3) = s_du T 2 k := (hs.f (f := 2) d (by omega) (by omega) (by omega)).trans e2
      rw [g2, htm]
      refine mMo hP.1 p1 p2 t0 t1 (fun z hz => mGet (m_ws_m_s r s) rfl (by omega) (c := 12) rfl (by omega) (mPut2 rfl (by omega) (c := 12) rfl (by omega) ?_))
      rintro _ rfl _ rfl
      have g11 : s (14 * k + 12) = s_du T 11 k := (hs.f (f := 11) d (by omega) (by omega) (by omega)).trans (psN_du T t 11 k k (by omega))
      rw [m_ws_m_s, m_ws_ws, nI_1, hz, g11]
      have h2 := MS.put (f := 11) (x := s_du T 11 k + mvs (s_tm T) t (s_du T 2 k)) hs d (by omega) (by omega) (by omega)
      have h3 := h2.wmv (s_mv (psN T t k) + mvs (s_tm T) t (s_du T 2 k))
      have e4 : vp_updL s (14 * k + 12) (s_du T 11 k + mvs (s_tm T) t (s_du T 2 k)) 3704 = s_mv (psN T t k) := by
        rw [updL_ne (by omega)]; exact hs.mv
      rw [e4]
      refine ih (k + 1) _ (by omega) ?_
      rw [psN, if_neg q]
      exact h3
    · rw [e2] at q
      rintro _ rfl
      rw [nI_1]
      refine ih (k + 1) s (by omega) ?_
      rw [psN, if_pos q]
      exact hs
theorem mPass {s : Nat → Int64} {T : StV} (h : MS s T) (hP : okP T) {t : Int64} (t0 : 0 ≤ t) (t1 : t ≤ (1125899906842624 : Int64)) {r : MmV} {post : MmV → Prop} (hp : ∀ s', MS s' (aPass T t) → post (m_ws r s')) : PX7_pass (m_ws r s) t post := by
  unfold PX7_pass
  exact ⟨201, mPass_loop hP t0 t1 hp 200 0 s (by omega) h⟩
