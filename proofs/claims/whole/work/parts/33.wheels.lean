/-! wheels: where a tick lies; count; both sides -/
theorem wb_tb (n : Nat) : (lN n).toBitVec = BitVec.ofNat 64 n := rfl
theorem wb_inj {a b : Int64} (h : a.toBitVec = b.toBitVec) : a = b := Int64.toBitVec_inj.mp h
theorem wb_c : ∀ k, k < 64 → ((nI k).toInt64 &&& 63) = lN k := by decide +kernel
theorem wb_sm : ∀ k, k < 64 → (BitVec.ofNat 64 k).smod 64 = BitVec.ofNat 64 k := by decide +kernel
theorem wb_shl (n : Nat) {k : Nat} (hk : k < 64) : lN n <<< ((nI k).toInt64 &&& 63) = lN (n * 2 ^ k) := by
  rw [wb_c k hk]
  apply wb_inj
  rw [Int64.toBitVec_shiftLeft, wb_tb, wb_tb, wb_tb, wb_sm k hk]
  apply BitVec.eq_of_toNat_eq
  rw [BitVec.shiftLeft_eq', BitVec.toNat_shiftLeft, BitVec.toNat_ofNat, BitVec.toNat_ofNat, BitVec.toNat_ofNat, Nat.mod_eq_of_lt (show k < 2 ^ 64 by omega), Nat.shiftLeft_eq, Nat.mul_mod, Nat.mod_mod, ← Nat.mul_mod]
theorem pf_lI {a : Nat} (h : a < 2 ^ 63) : (lN a).toInt = (a : Int) := lg_ofNat_toInt h
theorem pf_shr {a d : Nat} {D : Int64} (hD : (D.toBitVec.smod 64).toNat = d) (h : a < 2 ^ 62) : lN a >>> D = lN (a / 2 ^ d) := by
  have hd : a / 2 ^ d ≤ a := Nat.div_le_self _ _
  apply Int64.toInt_inj.mp
  have e : (lN a >>> D).toInt = (lN a).toInt >>> d := by
    rw [← hD]
    exact BitVec.toInt_sshiftRight ..
  rw [e, Int.shiftRight_eq_div_pow, pf_lI (by omega), pf_lI (by omega)]
  rfl
theorem sh_r {a d : Nat} (hd : d < 64) (ha : a < 2 ^ 62) : lN a >>> ((nI d).toInt64 &&& 63) = lN (a / 2 ^ d) := by
  rw [wb_c d hd]
  refine pf_shr ?_ ha
  rw [wb_tb, wb_sm d hd, BitVec.toNat_ofNat, Nat.mod_eq_of_lt (by omega)]
theorem lN_eqL {a b : Nat} (ha : a < 2 ^ 63) (hb : b < 2 ^ 63) : lN a = lN b ↔ a = b := by
  rw [y_eq, pf_lI ha, pf_lI hb]
  omega
theorem lN_leL {a b : Nat} (ha : a < 2 ^ 63) (hb : b < 2 ^ 63) : lN a ≤ lN b ↔ a ≤ b := by
  rw [y_le, pf_lI ha, pf_lI hb]
  omega
theorem lN_ltL {a b : Nat} (ha : a < 2 ^ 63) (hb : b < 2 ^ 63) : lN a < lN b ↔ a < b := by
  rw [y_lt, pf_lI ha, pf_lI hb]
  omega
def tN (x : Int64) : Nat := x.toInt.toNat
theorem tN_lN {x : Int64} (h0 : 0 ≤ x) : x = lN (tN x) := by
  rw [y_le, x_0] at h0
  have := (x_rngL x).2
  rw [y_eq, pf_lI (by unfold tN; omega)]
  unfold tN
  omega
theorem tN_M {x : Int64} (h0 : 0 ≤ x) (h1 : x ≤ (1125899906842624 : Int64)) : tN x ≤ 1125899906842624 := by
  rw [y_le, x_0] at h0
  rw [y_le, x_M] at h1
  unfold tN
  omega
theorem tN_le {x y : Int64} (h0 : 0 ≤ x) (h : x ≤ y) : tN x ≤ tN y := by
  rw [y_le, x_0] at h0
  rw [y_le] at h
  unfold tN
  omega
/-- where the turn of a wheel begins that a tick lies in -/
def tr (b k : Nat) : Nat := b / 2 ^ (6 * (k + 1)) * 2 ^ (6 * (k + 1))
theorem tr_le (b k : Nat) : tr b k ≤ b := Nat.div_mul_le_self _ _
theorem tr_iff {a b k : Nat} (h : a ≤ b) : a / 2 ^ (6 * (k + 1)) = b / 2 ^ (6 * (k + 1)) ↔ tr b k ≤ a := by
  have hp : 0 < 2 ^ (6 * (k + 1)) := Nat.two_pow_pos _
  unfold tr
  constructor
  · intro q
    rw [← q]
    exact Nat.div_mul_le_self _ _
  · intro q
    exact Nat.le_antisymm (Nat.div_le_div_right h) ((Nat.le_div_iff_mul_le hp).mpr q)
def whN (a b : Nat) : Nat := frst (fun k => decide (tr b k ≤ a)) 5 0
def wh (x y : Int64) : Nat := whN (tN x) (tN y)
theorem whN_le (a b : Nat) : whN a b ≤ 5 := by
  have := (frst_spec (fun k => decide (tr b k ≤ a)) 5 0).2.1
  unfold whN
  omega
theorem whN_eq {a b q : Nat} (h1 : q ≤ 5) (h2 : ∀ i, i < q → ¬ tr b i ≤ a) (h3 : q < 5 → tr b q ≤ a) : whN a b = q := frst_eq h1 (fun i hi => by simpa using h2 i hi) (fun hq => by simpa using h3 hq)
theorem sx6 (k : Nat) : (6 : Int32) * (nI k + 1) = nI (6 * (k + 1)) := by
  rw [nI_1, show (6 : Int32) = nI 6 from rfl, pk_mul]
theorem cWh_loop {a b : Nat} (ha : a < 2 ^ 62) (hb : b < 2 ^ 62) (hab : a ≤ b) {post : Int32 → Prop} (hp : post (nI (whN a b))) :
    ∀ m k, k + m = 5 → (∀ i, i < k → ¬ tr b i ≤ a) → LX5_wheelOf_3 (lN a) (lN b) post (m + 1) (nI k) := by
  intro m
  induction m with
  | zero =>
    intro k hk hb2
    obtain rfl : k = 5 := by omega
    rw [LX5_wheelOf_3]
    refine ⟨fun _ => ?_, fun q => absurd (by decide) q⟩
    rw [whN_eq (by omega) hb2 (by omega)] at hp
    exact hp
  | succ m ih =>
    intro k hk hb2
    rw [LX5_wheelOf_3]
    refine ⟨fun q => absurd q ?_, fun _ => ?_⟩
    · rw [show (5 : Int32) = nI 5 from rfl, nI_leI (by omega) (by omega)]; omega
    rintro _ rfl
    have ea : a / 2 ^ (6 * (k + 1)) ≤ a := Nat.div_le_self _ _
    have eb : b / 2 ^ (6 * (k + 1)) ≤ b := Nat.div_le_self _ _
    rw [sx6, sh_r (by omega) ha, sh_r (by omega) hb, lN_eqL (by omega) (by omega), tr_iff hab]
    refine ⟨fun q => ?_, fun q => ?_⟩
    · rw [whN_eq (by omega) hb2 (fun _ => q)] at hp
      exact hp
    · rintro _ rfl
      rw [nI_1]
      refine ih (k + 1) (by omega) (fun i hi => ?_)
      by_cases z : i = k
      · subst z; exact q
      · exact hb2 i (by omega)
theorem cWhN {a b : Nat} (ha : a < 2 ^ 62) (hb : b < 2 ^ 62) (hab : a ≤ b) {post : Int32 → Prop} (hp : post (nI (whN a b))) : PX5_wheelOf (lN a) (lN b) post := by
  unfold PX5_wheelOf
  exact ⟨6, cWh_loop ha hb hab hp 5 0 (by omega) (fun i hi => by omega)⟩
theorem cWh {x y : Int64} (h0 : 0 ≤ x) (h1 : x ≤ y) (h2 : y ≤ (1125899906842624 : Int64)) {post : Int32 → Prop} (hp : post (nI (wh x y))) : PX5_wheelOf x y post := by
  have hy0 := Int64.le_trans h0 h1
  have a2 := tN_le h0 h1
  have b2 := tN_M hy0 h2
  rw [tN_lN h0, tN_lN hy0]
  exact cWhN (by omega) (by omega) a2 hp
theorem mTurn {b k : Nat} (hb : b < 2 ^ 62) (hk : k < 5) {x : Int32} (hx : x = nI k) {post : Int64 → Prop} (hp : post (lN (tr b k))) : PX7_turnOf (lN b) x post := by
  subst hx
  unfold PX7_turnOf
  rintro _ rfl
  rw [sx6, sh_r (by omega) hb, wb_shl _ (by omega)]
  exact hp
theorem mWh_loop {r : MmV} {a b : Nat} (et : m_s r 3700 = lN a) (ha : a < 2 ^ 62) (hb : b < 2 ^ 62) {post : Int32 → Prop} (hp : post (nI (whN a b))) :
    ∀ m k, k + m = 5 → (∀ i, i < k → ¬ tr b i ≤ a) → LX7_wheelOf_2 r (lN b) post (m + 1) (nI k) := by
  intro m
  induction m with
  | zero =>
    intro k hk hb2
    obtain rfl : k = 5 := by omega
    rw [LX7_wheelOf_2]
    refine ⟨fun _ => ?_, fun q => absurd (by decide) q⟩
    rw [whN_eq (by omega) hb2 (by omega)] at hp
    exact hp
  | succ m ih =>
    intro k hk hb2
    rw [LX7_wheelOf_2]
    refine ⟨fun q => absurd q ?_, fun _ => mTurn hb (by omega) rfl ?_⟩
    · rw [show (5 : Int32) = nI 5 from rfl, nI_leI (by omega) (by omega)]; omega
    have eb := tr_le b k
    rw [et, lN_leL (by omega) (by omega)]
    refine ⟨fun q => ?_, fun q => ?_⟩
    · rw [whN_eq (by omega) hb2 (fun _ => q)] at hp
      exact hp
    · rintro _ rfl
      rw [nI_1]
      refine ih (k + 1) (by omega) (fun i hi => ?_)
      by_cases z : i = k
      · subst z; exact q
      · exact hb2 i (by omega)
theorem mWh {r : MmV} {x y : Int64} (et : m_s r 3700 = x) (h0 : 0 ≤ x) (h1 : x ≤ y) (h2 : y ≤ (1125899906842624 : Int64)) {post : Int32 → Prop} (hp : post (nI (wh x y))) : PX7_wheelOf r y post := by
  have hy0 := Int64.le_trans h0 h1
  have a2 := tN_le h0 h1
  have b2 := tN_M hy0 h2
  unfold PX7_wheelOf
  rw [tN_lN hy0]
  rw [tN_lN h0] at et
  exact ⟨6, mWh_loop et (by omega) (by omega) hp 5 0 (by omega) (fun i hi => by omega)⟩
/-- the slot, as both reckon it -/
def sl (w : Nat) (t : Int64) : Int32 := if w < 5 then ((t >>> (((6 : Int32) * nI w).toInt64 &&& 63)) &&& (63 : Int64)).toInt32 else 0
theorem cSl {w : Nat} (hw : w ≤ 5) {x : Int32} (hx : x = nI w) {t : Int64} {post : Int32 → Prop} (hp : post (sl w t)) : PX5_slotOf x t post := by
  subst hx
  unfold PX5_slotOf
  unfold sl at hp
  rw [show (5 : Int32) = nI 5 from rfl, nI_ltI (by omega) (by omega)]
  refine ⟨fun q => ?_, fun q => ?_⟩
  · rw [if_pos q] at hp; exact hp
  · rw [if_neg q] at hp; exact hp
theorem mSl {w : Nat} (hw : w ≤ 5) {x : Int32} (hx : x = nI w) {t : Int64} {post : Int32 → Prop} (hp : post (sl w t)) : PX7_slotOf t x post := by
  subst hx
  unfold PX7_slotOf
  unfold sl at hp
  rw [show (5 : Int32) = nI 5 from rfl, nI_eq (by omega) (by omega)]
  refine ⟨fun q => ?_, fun q => ?_⟩
  · rw [if_neg (by omega)] at hp; exact hp
  · rw [if_pos (by omega)] at hp; exact hp
theorem IT.tk {T : StV} (h : IT T) {k : Nat} (q : s_du T 2 k ≠ (-2000000005 : Int64)) : 0 ≤ s_tm T ∧ s_tm T ≤ s_du T 2 k ∧ s_du T 2 k ≤ (1125899906842624 : Int64) := by
  have := (h.ri (h.there q)).2.1 q
  exact ⟨h.1.1, Int64.le_of_lt this.1, this.2⟩
abbrev lsI (T : StV) (W : Nat) (y : Int32) (i : Nat) : Prop := s_du T 2 i ≠ (-2000000005 : Int64) ∧ wh (s_tm T) (s_du T 2 i) = W ∧ sl W (s_du T 2 i) = y
theorem cLsIn {v T : StV} (h : CS v T) (hI : IT T) {k W : Nat} (hk : k < 200) {e : Nat} (ee : s_en v = nI e) (he : e ≤ 200) (hke : k < e) (hW : W ≤ 5) {x w y : Int32} (hx : x = nI k) (hw : w = nI W) {post : Int32 → Prop} (h1 : lsI T W y k → post 1) (h0 : ¬ lsI T W y k → post 0) : PX4_liesIn v x w y post := by
  subst hx; subst hw
  unfold PX4_liesIn
  refine ⟨vp_in_nI hk (by omega), ?_⟩
  rintro _ rfl
  obtain ⟨e', n, he', hn, ee', en, hN⟩ := id h.1
  have hee : e' = e := by
    rw [ee'] at ee
    exact (nI_eq (by omega) (by omega)).mp ee
  subst hee
  have d2 : s_du v 2 k = s_du T 2 k := by rw [h.du, rC_f ee' he hN hke (by omega)]
  rw [nI_clamp (by omega), d2, h.tm]
  refine ⟨fun q => h0 (fun z => z.1 q), fun q => ?_⟩
  obtain ⟨t0, t1, t2⟩ := hI.tk q
  refine cWh t0 t1 t2 ⟨fun q2 => cSl hW rfl ⟨fun q3 => ?_, fun q3 => ?_⟩, fun q2 => h0 (fun z => q2 (by rw [z.2.1]))⟩
  · rw [nI_eq (by have := whN_le (tN (s_tm T)) (tN (s_du T 2 k)); unfold wh; omega) (by omega)] at q2
    exact h1 ⟨q, q2, q3⟩
  · exact h0 (fun z => q3 z.2.2)
theorem mLsIn {r : MmV} {s : Nat → Int64} {T : StV} (es : m_s r = s) (h : MS s T) (hI : IT T) {k W : Nat} (hk : k < 200) (hW : W ≤ 5) {x w y : Int32} (hx : x = nI k) (hw : w = nI W) {post : Int32 → Prop} (h1 : lsI T W y k → post 1) (h0 : ¬ lsI T W y k → post 0) : PX7_liesIn r x w y post := by
  subst hx; subst hw
  unfold PX7_liesIn
  refine mHas es h hk rfl (fun d q => b1 ?_) (fun q => b0 (h0 (fun z => z.1 q)))
  have e2 : s (14 * k + 3) = s_du T 2 k := h.f (f := 2) d (by omega) (by omega) (by omega)
  refine mGet es rfl hk (c := 3) rfl (by omega) ?_
  rw [e2]
  obtain ⟨t0, t1, t2⟩ := hI.tk q
  refine mWh (by rw [es]; exact h.tm) t0 t1 t2 ⟨fun q2 => mGet es rfl hk (c := 3) rfl (by omega) ?_, fun q2 => h0 (fun z => q2 (by rw [z.2.1]))⟩
  rw [e2]
  rw [nI_eq (by have := whN_le (tN (s_tm T)) (tN (s_du T 2 k)); unfold wh; omega) (by omega)] at q2
  exact mSl hW rfl ⟨fun q3 => h1 ⟨q, q2, q3⟩, fun q3 => h0 (fun z => q3 z.2.2)⟩
abbrev zS (x y : Int32) : Prop := (x = 5 ∧ y = 0) ∨ (¬ x < 0 ∧ x < 5 ∧ ¬ y < 0 ∧ y < 64)
theorem zS_W {x y : Int32} (h : zS x y) : ∃ W, W ≤ 5 ∧ x = nI W := by
  rcases h with ⟨h, -⟩ | ⟨h1, h2, -⟩
  · exact ⟨5, by omega, h⟩
  · obtain ⟨k, hk, e, -⟩ := i_rng (n := 5) h1 h2 (by omega)
    exact ⟨k, by omega, e⟩
theorem cIsS {x y : Int32} {post : Int32 → Prop} (h1 : zS x y → post 1) (h0 : ¬ zS x y → post 0) : PX5_isSlot x y post := by
  unfold PX5_isSlot
  refine ⟨fun q => ⟨fun q2 => h1 (Or.inl ⟨q, q2⟩), fun q2 => h0 (fun z => ?_)⟩, fun q => ⟨fun q2 => h0 (fun z => ?_), fun q2 => ⟨fun q3 => h0 (fun z => ?_), fun q3 => ⟨fun q4 => h0 (fun z => ?_), fun q4 => ⟨fun q5 => h0 (fun z => ?_), fun q5 => h1 (Or.inr ⟨q2, Int32.not_le.mp q3, q4, Int32.not_le.mp q5⟩)⟩⟩⟩⟩⟩
  · rcases z with z | z
    · exact q2 z.2
    · rw [q] at z; exact absurd z.2.1 (by decide)
  · rcases z with z | z
    · exact q z.1
    · exact z.1 q2
  · rcases z with z | z
    · exact q z.1
    · exact Int32.not_le.mpr z.2.1 q3
  · rcases z with z | z
    · exact q z.1
    · exact z.2.2.1 q4
  · rcases z with z | z
    · exact q z.1
    · exact Int32.not_le.mpr z.2.2.2 q5
theorem mIsS {x y : Int32} {post : Int32 → Prop} (h1 : zS x y → post 1) (h0 : ¬ zS x y → post 0) : PX7_isSlot x y post := by
  unfold PX7_isSlot
  refine mIsIn (fun a b => b1 ⟨fun q => mIsIn (fun c d => b1 ?_) (fun z => b0 (h0 ?_)), fun q => mIsIn (fun c d => b1 ?_) (fun z => b0 (h0 ?_))⟩) (fun z => b0 (h0 ?_))
  · obtain ⟨k, hk, e⟩ := (i64_rng y (n := 0) (by omega)).mp ⟨c, d⟩
    obtain rfl : k = 0 := by omega
    exact h1 (Or.inl ⟨q, e⟩)
  · rintro (w | w)
    · exact z ((i64_rng y (n := 0) (by omega)).mpr ⟨0, by omega, w.2⟩)
    · rw [q] at w; exact absurd w.2.1 (by decide)
  · obtain ⟨k, hk, e⟩ := (i64_rng y (n := 63) (by omega)).mp ⟨c, d⟩
    obtain ⟨j, hj, ej⟩ := (i64_rng x (n := 5) (by omega)).mp ⟨a, b⟩
    refine h1 (Or.inr ⟨by rw [ej]; exact nI_pos (by omega), ?_, by rw [e]; exact nI_pos (by omega), ?_⟩)
    · rw [ej, show (5 : Int32) = nI 5 from rfl, nI_ltI (by omega) (by omega)]
      rw [ej, show (5 : Int32) = nI 5 from rfl, nI_eq (by omega) (by omega)] at q
      omega
    · rw [e, show (64 : Int32) = nI 64 from rfl, nI_ltI (by omega) (by omega)]; omega
  · rintro (w | w)
    · exact q w.1
    · obtain ⟨k, hk, e, -⟩ := i_rng (n := 64) w.2.2.1 w.2.2.2 (by omega)
      exact z ((i64_rng y (n := 63) (by omega)).mpr ⟨k, by omega, e⟩)
  · intro w
    obtain ⟨W, hW, e⟩ := zS_W w
    exact z ((i64_rng x (n := 5) (by omega)).mpr ⟨W, hW, e⟩)
/-- many -/
def mny (p : Nat → Prop) [DecidablePred p] : Nat → Nat
  | 0 => 0
  | n + 1 => if p n then mny p n + 1 else mny p n
theorem mny_le (p : Nat → Prop) [DecidablePred p] : ∀ n, mny p n ≤ n
  | 0 => Nat.le_refl _
  | n + 1 => by
    have := mny_le p n
    unfold mny
    split <;> omega
theorem mny_out {p : Nat → Prop} [DecidablePred p] {e : Nat} (h : ∀ i, e ≤ i → ¬ p i) : ∀ m, mny p (e + m) = mny p e
  | 0 => rfl
  | m + 1 => by
    show (if p (e + m) then mny p (e + m) + 1 else mny p (e + m)) = _
    rw [if_neg (h _ (by omega)), mny_out h m]
def zMany (T : StV) (x y : Int32) : Int64 := if zS x y then lN (mny (lsI T x.toNatClampNeg y) 200) else (-2000000001 : Int64)
theorem cMany_loop {st : Nat → StV} {cu : Nat} {T : StV} (h : CS (st cu) T) (hI : IT T) {e W : Nat} (he : e ≤ 200) (ee : s_en (st cu) = nI e) (hW : W ≤ 5) {y : Int32} {post : Int64 → Prop} (hp : post (lN (mny (lsI T W y) e))) :
    ∀ m k, k + m = e → LX6_many_17 st cu (nI W) y post (m + 1) (lN (mny (lsI T W y) k)) (nI k) := by
  intro m
  induction m with
  | zero =>
    intro k hk
    obtain rfl : k = e := by omega
    rw [LX6_many_17, ee]
    exact ⟨fun _ => hp, fun q => absurd (nI_le (Nat.le_refl _) (by omega)) q⟩
  | succ m ih =>
    intro k hk
    rw [LX6_many_17, ee]
    have step := ih (k + 1) (by omega)
    rw [mny] at step
    refine ⟨fun q => absurd ((nI_leI (by omega) (by omega)).mp q) (by omega), fun _ => cLsIn h hI (by omega) ee he (by omega) hW rfl rfl (fun q => b1 ?_) (fun q => b0 ?_)⟩
    · rw [if_pos q] at step
      rintro _ rfl _ rfl
      rw [nI_1, lN_1]
      exact step
    · rw [if_neg q] at step
      rintro _ rfl
      rw [nI_1]
      exact step
theorem cMany {st : Nat → StV} {cu : Nat} {T : StV} (h : CS (st cu) T) (hI : IT T) {x y : Int32} {post : Int64 → Prop} (hp : post (zMany T x y)) : PX6_many st cu x y post := by
  unfold PX6_many
  unfold zMany at hp
  refine cIsS (fun q => b1 ?_) (fun q => b0 ?_)
  · rw [if_pos q] at hp
    obtain ⟨W, hW, rfl⟩ := zS_W q
    rw [nI_clamp (by omega)] at hp
    obtain ⟨e, n, he, hn, ee, en, hN⟩ := id h.1
    have hl : mny (lsI T W y) 200 = mny (lsI T W y) e := by
      have := mny_out (p := lsI T W y) (e := e) (fun i hi z => z.1 (h.noT ee he 2 i hi)) (200 - e)
      rwa [show e + (200 - e) = 200 by omega] at this
    rw [hl] at hp
    exact ⟨e + 1, cMany_loop h hI he ee hW hp e 0 (by omega)⟩
  · rw [if_neg q] at hp; exact hp
theorem mMany_loop {r : MmV} {T : StV} (h : MS (m_s r) T) (hI : IT T) {W : Nat} (hW : W ≤ 5) {y : Int32} {post : Int64 → Prop} (hp : post (lN (mny (lsI T W y) 200))) :
    ∀ m k, k + m = 200 → LX7_many_17 r (nI W) y post (m + 1) (nI (mny (lsI T W y) k)) (nI k) := by
  intro m
  induction m with
  | zero =>
    intro k hk
    obtain rfl : k = 200 := by omega
    rw [LX7_many_17]
    refine ⟨fun _ => ?_, fun q => absurd (by decide) q⟩
    rw [nI_l (by have := mny_le (lsI T W y) 200; omega)]
    exact hp
  | succ m ih =>
    intro k hk
    rw [LX7_many_17]
    have step := ih (k + 1) (by omega)
    rw [mny] at step
    refine ⟨fun q => absurd q ?_, fun _ => mLsIn rfl h hI (by omega) hW rfl rfl (fun q => b1 ?_) (fun q => b0 ?_)⟩
    · rw [show (200 : Int32) = nI 200 from rfl, nI_leI (by omega) (by omega)]; omega
    · rw [if_pos q] at step
      rintro _ rfl _ rfl
      rw [nI_1, nI_1]
      exact step
    · rw [if_neg q] at step
      rintro _ rfl _ rfl
      rw [nI_1, Int32.add_zero]
      exact step
theorem mMany {r : MmV} {T : StV} (h : MS (m_s r) T) (hI : IT T) {x y : Int32} {post : Int64 → Prop} (hp : post (zMany T x y)) : PX7_many r x y post := by
  unfold PX7_many
  unfold zMany at hp
  refine mIsS (fun q => b1 ?_) (fun q => b0 ?_)
  · rw [if_pos q] at hp
    obtain ⟨W, hW, rfl⟩ := zS_W q
    rw [nI_clamp (by omega)] at hp
    exact ⟨201, mMany_loop h hI hW hp 200 0 (by omega)⟩
  · rw [if_neg q] at hp; exact hp
/-- in -/
def inn (p : Nat → Prop) [DecidablePred p] (x : Int32) : Nat → Nat → Nat → Int64
  | 0, _, _ => (-2000000005 : Int64)
  | m + 1, k, n => if p k then (if nI n = x then lN k else inn p x m (k + 1) (n + 1)) else inn p x m (k + 1) n
theorem inn_no {p : Nat → Prop} [DecidablePred p] {x : Int32} : ∀ m k n, (∀ i, k ≤ i → ¬ p i) → inn p x m k n = (-2000000005 : Int64)
  | 0, _, _, _ => rfl
  | m + 1, k, n, h => by
    rw [inn, if_neg (h k (Nat.le_refl _))]
    exact inn_no m (k + 1) n (fun i hi => h i (by omega))
theorem inn_out {p : Nat → Prop} [DecidablePred p] {x : Int32} {e : Nat} (h : ∀ i, e ≤ i → ¬ p i) (c : Nat) : ∀ m k n, k + m = e → inn p x (m + c) k n = inn p x m k n
  | 0, k, n, hk => by
    rw [inn_no _ k n (fun i hi => h i (by omega))]
    rfl
  | m + 1, k, n, hk => by
    rw [show m + 1 + c = m + c + 1 by omega, inn, inn, inn_out h c m (k + 1) (n + 1) (by omega), inn_out h c m (k + 1) n (by omega)]
def zIn (T : StV) (x y z : Int32) : Int64 := if zS x y ∧ 0 ≤ z then inn (lsI T x.toNatClampNeg y) z 200 0 0 else (-2000000001 : Int64)
theorem cIn_loop {st : Nat → StV} {cu : Nat} {T : StV} (h : CS (st cu) T) (hI : IT T) {e W : Nat} (he : e ≤ 200) (ee : s_en (st cu) = nI e) (hW : W ≤ 5) {y z : Int32} {post : Int64 → Prop} :
    ∀ m k n, k + m = e → post (inn (lsI T W y) z m k n) → LX6_in_22 st cu (nI W) y z post (m + 1) (nI n) (nI k) := by
  intro m
  induction m with
  | zero =>
    intro k n hk hp
    obtain rfl : k = e := by omega
    rw [LX6_in_22, ee]
    exact ⟨fun _ => hp, fun q => absurd (nI_le (Nat.le_refl _) (by omega)) q⟩
  | succ m ih =>
    intro k n hk hp
    rw [LX6_in_22, ee]
    rw [inn] at hp
    refine ⟨fun q => absurd ((nI_leI (by omega) (by omega)).mp q) (by omega), fun _ => cLsIn h hI (by omega) ee he (by omega) hW rfl rfl (fun q => b1 ⟨fun q2 => ?_, fun q2 => ?_⟩) (fun q => b0 ?_)⟩
    · rw [if_pos q, if_pos q2] at hp
      rw [nI_l (by omega)]
      exact hp
    · rw [if_pos q, if_neg q2] at hp
      rintro _ rfl _ rfl
      rw [nI_1, nI_1]
      exact ih (k + 1) (n + 1) (by omega) hp
    · rw [if_neg q] at hp
      rintro _ rfl
      rw [nI_1]
      exact ih (k + 1) n (by omega) hp
theorem cIn {st : Nat → StV} {cu : Nat} {T : StV} (h : CS (st cu) T) (hI : IT T) {x y z : Int32} {post : Int64 → Prop} (hp : post (zIn T x y z)) : PX6_in st cu x y z post := by
  unfold PX6_in
  unfold zIn at hp
  refine cIsS (fun q => b1 ⟨fun q2 => ?_, fun q2 => ?_⟩) (fun q => b0 ?_)
  · rw [if_pos ⟨q, q2⟩] at hp
    obtain ⟨W, hW, rfl⟩ := zS_W q
    rw [nI_clamp (by omega)] at hp
    obtain ⟨e, n, he, hn, ee, en, hN⟩ := id h.1
    have hl := inn_out (p := lsI T W y) (x := z) (e := e) (fun i hi z => z.1 (h.noT ee he 2 i hi)) (200 - e) e 0 0 (by omega)
    rw [show e + (200 - e) = 200 by omega] at hl
    rw [hl] at hp
    exact ⟨e + 1, cIn_loop h hI he ee hW e 0 0 (by omega) hp⟩
  · rw [if_neg (fun z => q2 z.2)] at hp; exact hp
  · rw [if_neg (fun z => q z.1)] at hp; exact hp
theorem mIn_loop {r : MmV} {T : StV} (h : MS (m_s r) T) (hI : IT T) {W : Nat} (hW : W ≤ 5) {y z : Int32} {post : Int64 → Prop} :
    ∀ m k n, k + m = 200 → post (inn (lsI T W y) z m k n) → LX7_in_22 r (nI W) y z post (m + 1) (nI n) (nI k) := by
  intro m
  induction m with
  | zero =>
    intro k n hk hp
    obtain rfl : k = 200 := by omega
    rw [LX7_in_22]
    exact ⟨fun _ => hp, fun q => absurd (by decide) q⟩
  | succ m ih =>
    intro k n hk hp
    rw [LX7_in_22]
    rw [inn] at hp
    refine ⟨fun q => absurd q ?_, fun _ => mLsIn rfl h hI (by omega) hW rfl rfl (fun q => b1 ⟨fun q2 => ?_, fun q2 => ?_⟩) (fun q => b0 ?_)⟩
    · rw [show (200 : Int32) = nI 200 from rfl, nI_leI (by omega) (by omega)]; omega
    · rw [if_pos q, if_pos q2] at hp
      rw [nI_l (by omega)]
      exact hp
    · rw [if_pos q, if_neg q2] at hp
      rintro _ rfl _ rfl
      rw [nI_1, nI_1]
      exact ih (k + 1) (n + 1) (by omega) hp
    · rw [if_neg q] at hp
      rintro _ rfl
      rw [nI_1]
      exact ih (k + 1) n (by omega) hp
theorem mIn {r : MmV} {T : StV} (h : MS (m_s r) T) (hI : IT T) {x y z : Int32} {post : Int64 → Prop} (hp : post (zIn T x y z)) : PX7_in r x y z post := by
  unfold PX7_in
  unfold zIn at hp
  refine mIsS (fun q => b1 ⟨fun q2 => ?_, fun q2 => ?_⟩) (fun q => b0 ?_)
  · rw [if_pos ⟨q, q2⟩] at hp
    obtain ⟨W, hW, rfl⟩ := zS_W q
    rw [nI_clamp (by omega)] at hp
    exact ⟨201, mIn_loop h hI hW 200 0 0 (by omega) hp⟩
  · rw [if_neg (fun z => q2 z.2)] at hp; exact hp
  · rw [if_neg (fun z => q z.1)] at hp; exact hp
/-- bits -/
abbrev lsW (T : StV) (W : Nat) (i : Nat) : Prop := s_du T 2 i ≠ (-2000000005 : Int64) ∧ wh (s_tm T) (s_du T 2 i) = W
def bts (T : StV) (W : Nat) : Nat → Int64
  | 0 => 0
  | n + 1 => if lsW T W n then bts T W n ||| ((1 : Int64) <<< ((sl W (s_du T 2 n)).toInt64 &&& 63)) else bts T W n
theorem bts_out {T : StV} {W e : Nat} (h : ∀ i, e ≤ i → ¬ lsW T W i) : ∀ m, bts T W (e + m) = bts T W e
  | 0 => rfl
  | m + 1 => by
    show (if lsW T W (e + m) then _ else bts T W (e + m)) = _
    rw [if_neg (h _ (by omega)), bts_out h m]
def zBits (T : StV) (x : Int32) : Int64 := if ¬ x < 0 ∧ x < 5 then bts T x.toNatClampNeg 200 else (-2000000001 : Int64)
theorem cBits_loop {st : Nat → StV} {cu : Nat} {T : StV} (h : CS (st cu) T) (hI : IT T) {e W : Nat} (he : e ≤ 200) (ee : s_en (st cu) = nI e) (hN : ∀ i, i < e → s_du (st cu) 0 i = (-2000000005 : Int64) → ∀ f, f < 11 → s_du (st cu) f i = (-2000000005 : Int64)) (hW : W < 5) {post : Int64 → Prop} (hp : post (bts T W e)) :
    ∀ m k, k + m = e → LX6_bits_18 st cu (nI W) post (m + 1) (bts T W k) (nI k) := by
  intro m
  induction m with
  | zero =>
    intro k hk
    obtain rfl : k = e := by omega
    rw [LX6_bits_18, ee]
    exact ⟨fun _ => hp, fun q => absurd (nI_le (Nat.le_refl _) (by omega)) q⟩
  | succ m ih =>
    intro k hk
    rw [LX6_bits_18, ee]
    have step := ih (k + 1) (by omega)
    rw [bts] at step
    have d2 : s_du (st cu) 2 k = s_du T 2 k := by rw [h.du, rC_f ee he hN (by omega) (by omega)]
    refine ⟨fun q => absurd ((nI_leI (by omega) (by omega)).mp q) (by omega), fun _ => ⟨vp_in_nI (by omega) (by omega), ?_⟩⟩
    rintro _ rfl
    rw [nI_clamp (by omega), d2, h.tm]
    refine ⟨fun q => ?_, fun q => ?_⟩
    · rw [if_neg (fun z => z.1 q)] at step
      rintro _ rfl
      rw [nI_1]
      exact step
    · obtain ⟨t0, t1, t2⟩ := hI.tk q
      refine cWh t0 t1 t2 ⟨fun q2 => cSl (by omega) rfl ?_, fun q2 => ?_⟩
      · rw [nI_eq (by have := whN_le (tN (s_tm T)) (tN (s_du T 2 k)); unfold wh; omega) (by omega)] at q2
        rw [if_pos ⟨q, q2⟩] at step
        rintro _ rfl _ rfl
        rw [nI_1]
        exact step
      · rw [if_neg (fun z => q2 (by rw [z.2]))] at step
        rintro _ rfl
        rw [nI_1]
        exact step
theorem cBits {st : Nat → StV} {cu : Nat} {T : StV} (h : CS (st cu) T) (hI : IT T) {x : Int32} {post : Int64 → Prop} (hp : post (zBits T x)) : PX6_bits st cu x post := by
  unfold PX6_bits
  unfold zBits at hp
  refine ⟨fun q => ?_, fun q => ⟨fun q2 => ?_, fun q2 => ?_⟩⟩
  · rw [if_neg (fun z => z.1 q)] at hp; exact hp
  · rw [if_pos ⟨q, q2⟩] at hp
    obtain ⟨W, hW, ex, eW⟩ := i_rng (n := 5) q q2 (by omega)
    rw [eW] at hp
    rw [ex]
    obtain ⟨e, n, he, hn, ee, en, hN⟩ := id h.1
    have hl : bts T W 200 = bts T W e := by
      have := bts_out (T := T) (W := W) (e := e) (fun i hi z => z.1 (h.noT ee he 2 i hi)) (200 - e)
      rwa [show e + (200 - e) = 200 by omega] at this
    rw [hl] at hp
    exact ⟨e + 1, cBits_loop h hI he ee hN hW hp e 0 (by omega)⟩
  · rw [if_neg (fun z => q2 z.2)] at hp; exact hp
theorem mBits_loop {r : MmV} {T : StV} (h : MS (m_s r) T) (hI : IT T) {W : Nat} (hW : W < 5) {post : Int64 → Prop} (hp : post (bts T W 200)) :
    ∀ m k, k + m = 200 → LX7_bits_21 r (nI W) post (m + 1) (bts T W k) (nI k) := by
  intro m
  induction m with
  | zero =>
    intro k hk
    obtain rfl : k = 200 := by omega
    rw [LX7_bits_21]
    exact ⟨fun _ => hp, fun q => absurd (by decide) q⟩
  | succ m ih =>
    intro k hk
    rw [LX7_bits_21]
    have step := ih (k + 1) (by omega)
    rw [bts] at step
    refine ⟨fun q => absurd q ?_, fun _ => mHas rfl h (by omega) rfl (fun d q => b1 ?_) (fun q => b0 ?_)⟩
    · rw [show (200 : Int32) = nI 200 from rfl, nI_leI (by omega) (by omega)]; omega
    · have e2 : m_s r (14 * k + 3) = s_du T 2 k := h.f (f := 2) d (by omega) (by omega) (by omega)
      obtain ⟨t0, t1, t2⟩ := hI.tk q
      refine mGet rfl rfl (by omega) (c := 3) rfl (by omega) ?_
      rw [e2]
      refine mWh h.tm t0 t1 t2 ⟨fun q2 => mGet rfl rfl (by omega) (c := 3) rfl (by omega) ?_, fun q2 => ?_⟩
      · rw [e2]
        rw [nI_eq (by have := whN_le (tN (s_tm T)) (tN (s_du T 2 k)); unfold wh; omega) (by omega)] at q2
        refine mSl (by omega) rfl ?_
        rw [if_pos ⟨q, q2⟩] at step
        rintro _ rfl _ rfl
        rw [nI_1]
        exact step
      · rw [if_neg (fun z => q2 (by rw [z.2]))] at step
        rintro _ rfl
        rw [nI_1]
        exact step
    · rw [if_neg (fun z => z.1 q)] at step
      rintro _ rfl
      rw [nI_1]
      exact step
theorem mBits {r : MmV} {T : StV} (h : MS (m_s r) T) (hI : IT T) {x : Int32} {post : Int64 → Prop} (hp : post (zBits T x)) : PX7_bits r x post := by
  unfold PX7_bits
  unfold zBits at hp
  refine mIsIn (fun a b => b1 ?_) (fun q => b0 ?_)
  · obtain ⟨W, hW, ex⟩ := (i64_rng x (n := 4) (by omega)).mp ⟨a, b⟩
    have h0 : ¬ x < 0 := by rw [ex]; exact nI_pos (by omega)
    have h5 : x < 5 := by rw [ex, show (5 : Int32) = nI 5 from rfl, nI_ltI (by omega) (by omega)]; omega
    rw [if_pos ⟨h0, h5⟩, ex, nI_clamp (by omega)] at hp
    rw [ex]
    exact ⟨201, mBits_loop h hI (by omega) hp 200 0 (by omega)⟩
  · rw [if_neg (fun z => q ?_)] at hp
    · exact hp
    · obtain ⟨k, hk, e, -⟩ := i_rng (n := 5) z.1 z.2 (by omega)
      exact (i64_rng x (n := 4) (by omega)).mpr ⟨k, by omega, e⟩
/-- lies -/
def zLies (T : StV) (x y : Int32) : Int64 :=
  if ¬ dI T x ∨ y < 0 ∨ ¬ y ≤ 2 then (-2000000001 : Int64) else if y = 2 then s_du T 11 x.toNatClampNeg else if s_du T 2 x.toNatClampNeg = (-2000000005 : Int64) then (-2000000005 : Int64)
  else if y = 0 then lN (wh (s_tm T) (s_du T 2 x.toNatClampNeg)) else (sl (wh (s_tm T) (s_du T 2 x.toNatClampNeg)) (s_du T 2 x.toNatClampNeg)).toInt64
theorem wh_le (x y : Int64) : wh x y ≤ 5 := whN_le _ _
theorem cLies {st : Nat → StV} {cu : Nat} {T : StV} (h : CS (st cu) T) (hI : IT T) {x y : Int32} {post : Int64 → Prop} (hp : post (zLies T x y)) : PX6_lies st cu x y post := by
  unfold PX6_lies
  unfold zLies at hp
  refine cIsDue2 h (fun d hin => b1 ⟨fun q => ?_, fun q => ⟨fun q2 => ?_, fun q2 => ?_⟩⟩) (fun d => b0 ?_)
  · rw [if_pos (Or.inr (Or.inl q))] at hp; exact hp
  · rw [if_neg (fun z => z.elim (fun z => z d) (fun z => z.elim q (fun z => z q2)))] at hp
    obtain ⟨k, hk, ex, ek, -, hd⟩ := h.k d
    rw [ek] at hp ⊢
    refine ⟨fun q3 => ⟨hin, ?_⟩, fun q3 => ⟨hin, ?_⟩⟩
    · rw [if_pos q3] at hp
      rw [h.f hd (by omega) (by omega) (by omega)]
      exact hp
    · rw [if_neg q3] at hp
      rintro _ rfl
      rw [h.f hd (by omega) (by omega) (by omega), h.tm]
      refine ⟨fun q4 => ?_, fun q4 => ?_⟩
      · rw [if_pos q4] at hp; exact hp
      · rw [if_neg q4] at hp
        obtain ⟨t0, t1, t2⟩ := hI.tk q4
        have hw := wh_le (s_tm T) (s_du T 2 k)
        refine cWh t0 t1 t2 ⟨fun q5 => ?_, fun q5 => cSl hw rfl ?_⟩
        · rw [if_pos q5] at hp
          rw [nI_l (by omega)]
          exact hp
        · rw [if_neg q5] at hp
          exact hp
  · rw [if_pos (Or.inr (Or.inr q2))] at hp; exact hp
  · rw [if_pos (Or.inl d)] at hp; exact hp
theorem mLies {r : MmV} {T : StV} (h : MS (m_s r) T) (hI : IT T) {x y : Int32} {post : Int64 → Prop} (hp : post (zLies T x y)) : PX7_lies r x y post := by
  unfold PX7_lies
  unfold zLies at hp
  refine mIsDue rfl h (fun d => b1 (mIsIn (fun a b => b1 ?_) (fun q => b0 ?_))) (fun d => b0 ?_)
  · obtain ⟨f, hf, ey⟩ := (i64_rng y (n := 2) (by omega)).mp ⟨a, b⟩
    obtain ⟨k, hk, ex, ek, hd⟩ := h.k d
    have h0 : ¬ y < 0 := by rw [ey]; exact nI_pos (by omega)
    have h2 : y ≤ 2 := by rw [ey, show (2 : Int32) = nI 2 from rfl, nI_leI (by omega) (by omega)]; omega
    rw [if_neg (fun z => z.elim (fun z => z d) (fun z => z.elim h0 (fun z => z h2))), ek] at hp
    refine mHas rfl h hk ex (fun _ q => b1 ?_) (fun q => b0 ⟨fun q2 => ?_, fun q2 => ?_⟩)
    · have e2 : m_s r (14 * k + 3) = s_du T 2 k := h.f (f := 2) hd (by omega) (by omega) (by omega)
      obtain ⟨t0, t1, t2⟩ := hI.tk q
      have hw := wh_le (s_tm T) (s_du T 2 k)
      refine mGet rfl ex hk (c := 3) rfl (by omega) ?_
      rw [e2]
      refine mWh h.tm t0 t1 t2 ⟨fun q5 => ?_, fun q5 => ⟨fun q6 => ?_, fun q6 => ?_⟩⟩
      · rw [if_neg (by rw [q5]; decide), if_neg q, if_pos q5] at hp
        rw [nI_l (by omega)]
        exact hp
      · rw [if_neg (by rw [q6]; decide), if_neg q, if_neg q5] at hp
        refine mGet rfl ex hk (c := 3) rfl (by omega) ?_
        rw [e2]
        exact mSl hw rfl hp
      · have q7 : y = 2 := by
          rw [ey] at q5 q6 ⊢
          have z5 : f ≠ 0 := fun z => q5 (by rw [z]; rfl)
          have z6 : f ≠ 1 := fun z => q6 (by rw [z]; rfl)
          rw [show f = 2 by omega]
          rfl
        rw [if_pos q7] at hp
        refine mGet rfl ex hk (c := 12) rfl (by omega) ?_
        have e11 : m_s r (14 * k + 12) = s_du T 11 k := h.f (f := 11) hd (by omega) (by omega) (by omega)
        rw [e11]
        exact hp
    · have e0 : s_du T 11 k = 0 := ((hI.ri hd).2.2.2.2.2.2.2.2.2 q).2
      rw [if_pos q2, e0] at hp
      exact hp
    · rw [if_neg q2, if_pos q] at hp
      exact hp
  · have : ¬ dI T x ∨ y < 0 ∨ ¬ y ≤ 2 := by
      by_cases z : y < 0
      · exact Or.inr (Or.inl z)
      · refine Or.inr (Or.inr (fun z2 => q ?_))
        obtain ⟨k, hk, ey, -⟩ := i_rng (n := 3) z (by
          obtain ⟨j, j1, j2⟩ := nI_of z
          rw [j2, show (2 : Int32) = nI 2 from rfl, nI_leI j1 (by omega)] at z2
          rw [j2, nI_ltI j1 (by omega)]
          omega) (by omega)
        exact (i64_rng y (n := 2) (by omega)).mpr ⟨k, by omega, ey⟩
    rw [if_pos this] at hp
    exact hp
  · rw [if_pos (Or.inl d)] at hp; exact hp
/-- count -/
def zCnt (Z : Zt) (x : Int32) : Int64 := if x = 0 then lN (cnt Z.1 0 200) else if x = 1 then lN (cnt Z.1 2 200) else if x = 2 then lN (cnt Z.1 6 200) else if x = 3 then lN (cnt Z.1 7 200) else if x = 4 then (s_rs Z.1).toInt64 else if x = 5 then s_go Z.1 else if x = 6 then s_mv Z.1 else if x = 7 then lN Z.2.length else (-2000000001 : Int64)
theorem KI.sz {st : Nat → StV} {kv : KvV} {cu : Nat} {Z : Zt} (h : KI st kv cu Z) : Z.2.length ≤ 6 ∧ k_sz kv = nI Z.2.length := by
  obtain ⟨a, n, h1, h2, h3, h4, hR, h9, h10, h11⟩ := id h
  rw [h10]
  exact ⟨h2, h4⟩
theorem cCnt {st : Nat → StV} {kv : KvV} {cu : Nat} {Z : Zt} (h : KI st kv cu Z) {x : Int32} {post : Int64 → Prop} (hp : post (zCnt Z x)) : PX6_count st kv cu x post := by
  unfold PX6_count
  unfold zCnt at hp
  refine ⟨fun q => ?_, fun q0 => ⟨fun q => ?_, fun q1 => ⟨fun q => ?_, fun q2 => ⟨fun q => ?_, fun q3 => ⟨fun q => ?_, fun q4 => ⟨fun q => ?_, fun q5 => ⟨fun q => ?_, fun q6 => ⟨fun q => ?_, fun q7 => ?_⟩⟩⟩⟩⟩⟩⟩⟩
  · rw [if_pos q] at hp; exact cDW h.cs 0 (by omega) hp
  · rw [if_neg q0, if_pos q] at hp; exact cDW h.cs 2 (by omega) hp
  · rw [if_neg q0, if_neg q1, if_pos q] at hp; exact cDW h.cs 6 (by omega) hp
  · rw [if_neg q0, if_neg q1, if_neg q2, if_pos q] at hp; exact cDW h.cs 7 (by omega) hp
  · rw [if_neg q0, if_neg q1, if_neg q2, if_neg q3, if_pos q] at hp; rw [h.cs.rs]; exact hp
  · rw [if_neg q0, if_neg q1, if_neg q2, if_neg q3, if_neg q4, if_pos q] at hp; rw [h.cs.go]; exact hp
  · rw [if_neg q0, if_neg q1, if_neg q2, if_neg q3, if_neg q4, if_neg q5, if_pos q] at hp; rw [h.cs.mv]; exact hp
  · rw [if_neg q0, if_neg q1, if_neg q2, if_neg q3, if_neg q4, if_neg q5, if_neg q6, if_pos q] at hp
    obtain ⟨a, b⟩ := h.sz
    rw [b, nI_l (by omega)]; exact hp
  · rw [if_neg q0, if_neg q1, if_neg q2, if_neg q3, if_neg q4, if_neg q5, if_neg q6, if_neg q7] at hp; exact hp
theorem mManyOf_loop {r : MmV} {T : StV} (h : MS (m_s r) T) {c f : Nat} (hc : (c = 0 ∧ f = 0) ∨ (c = 1 ∧ f = 2) ∨ (c = 2 ∧ f = 6) ∨ (c = 3 ∧ f = 7)) {post : Int32 → Prop} (hp : post (nI (cnt T f 200))) :
    ∀ m k, k + m = 200 → LX7_manyOf_4 r (nI c) post (m + 1) (nI (cnt T f k)) (nI k) := by
  intro m
  induction m with
  | zero =>
    intro k hk
    obtain rfl : k = 200 := by omega
    rw [LX7_manyOf_4]
    exact ⟨fun _ => hp, fun q => absurd (by decide) q⟩
  | succ m ih =>
    intro k hk
    rw [LX7_manyOf_4]
    have step := ih (k + 1) (by omega)
    rw [cnt] at step
    have n1 : s_du T f k ≠ (-2000000005 : Int64) → ∀ x2 : Int32, x2 = nI (cnt T f k) + 1 → ∀ x3 : Int32, x3 = nI k + 1 → LX7_manyOf_4 r (nI c) post (m + 1) x2 x3 := fun q x2 e2 x3 e3 => by
      rw [if_neg q] at step
      rw [e2, e3, nI_1, nI_1]
      exact step
    have n0 : s_du T f k = (-2000000005 : Int64) → ∀ x2 : Int32, x2 = nI (cnt T f k) + 0 → ∀ x3 : Int32, x3 = nI k + 1 → LX7_manyOf_4 r (nI c) post (m + 1) x2 x3 := fun q x2 e2 x3 e3 => by
      rw [if_pos q] at step
      rw [e2, e3, Int32.add_zero, nI_1]
      exact step
    refine ⟨fun q => absurd q ?_, fun _ => ?_⟩
    · rw [show (200 : Int32) = nI 200 from rfl, nI_leI (by omega) (by omega)]; omega
    rcases hc with ⟨rfl, rfl⟩ | ⟨rfl, rfl⟩ | ⟨rfl, rfl⟩ | ⟨rfl, rfl⟩
    · refine ⟨fun _ => mIsDue rfl h (fun d => b1 (n1 ?_)) (fun d => b0 (n0 ?_)), fun q => absurd rfl q⟩
      · have := d.2
        rwa [nI_clamp (by omega)] at this
      · refine Decidable.byContradiction (fun z => d ⟨nI_pos (by omega), ?_⟩)
        rw [nI_clamp (by omega)]
        exact z
    · exact ⟨fun q => absurd q (by decide), fun _ => ⟨fun _ => mHas rfl h (by omega) rfl (fun _ q => b1 (n1 q)) (fun q => b0 (n0 q)), fun q => absurd rfl q⟩⟩
    · exact ⟨fun q => absurd q (by decide), fun _ => ⟨fun q => absurd q (by decide), fun _ => ⟨fun _ => mWaits rfl h (by omega) rfl (fun _ q => b1 (n1 q)) (fun q => b0 (n0 q)), fun q => absurd rfl q⟩⟩⟩
    · exact ⟨fun q => absurd q (by decide), fun _ => ⟨fun q => absurd q (by decide), fun _ => ⟨fun q => absurd q (by decide), fun _ => mRests rfl h (by omega) rfl (fun _ q => b1 (n1 q)) (fun q => b0 (n0 q))⟩⟩⟩
theorem mManyOf {r : MmV} {T : StV} (h : MS (m_s r) T) {c f : Nat} (hc : (c = 0 ∧ f = 0) ∨ (c = 1 ∧ f = 2) ∨ (c = 2 ∧ f = 6) ∨ (c = 3 ∧ f = 7)) {x : Int32} (hx : x = nI c) {post : Int32 → Prop} (hp : post (nI (cnt T f 200))) : PX7_manyOf r x post := by
  subst hx
  unfold PX7_manyOf
  exact ⟨201, mManyOf_loop h hc hp 200 0 (by omega)⟩
theorem mCnt {r : MmV} {Z : Zt} (h : MK r Z) {x : Int32} {post : Int64 → Prop} (hp : post (zCnt Z x)) : PX7_count r x post := by
  unfold PX7_count
  unfold zCnt at hp
  have hs := h.1
  have cl : ∀ f, (nI (cnt Z.1 f 200)).toInt64 = lN (cnt Z.1 f 200) := fun f => nI_l (by have := cnt_le Z.1 f 200; omega)
  refine ⟨fun q => ?_, fun q0 => ⟨fun q => ?_, fun q1 => ⟨fun q => ?_, fun q2 => ⟨fun q => ?_, fun q3 => ⟨fun q => ?_, fun q4 => ⟨fun q => ?_, fun q5 => ⟨fun q => ?_, fun q6 => ⟨fun q => ?_, fun q7 => ?_⟩⟩⟩⟩⟩⟩⟩⟩
  · rw [if_pos q] at hp; exact mManyOf hs (c := 0) (f := 0) (by omega) q (by rw [cl]; exact hp)
  · rw [if_neg q0, if_pos q] at hp; exact mManyOf hs (c := 1) (f := 2) (by omega) q (by rw [cl]; exact hp)
  · rw [if_neg q0, if_neg q1, if_pos q] at hp; exact mManyOf hs (c := 2) (f := 6) (by omega) q (by rw [cl]; exact hp)
  · rw [if_neg q0, if_neg q1, if_neg q2, if_pos q] at hp; exact mManyOf hs (c := 3) (f := 7) (by omega) q (by rw [cl]; exact hp)
  · rw [if_neg q0, if_neg q1, if_neg q2, if_neg q3, if_pos q] at hp
    obtain ⟨⟨n, hn, e⟩, -⟩ := id hs.1
    rw [← hs.rs, e, lN_i, nI_l (by omega)] at hp
    rw [e]; exact hp
  · rw [if_neg q0, if_neg q1, if_neg q2, if_neg q3, if_neg q4, if_pos q] at hp; rw [hs.go]; exact hp
  · rw [if_neg q0, if_neg q1, if_neg q2, if_neg q3, if_neg q4, if_neg q5, if_pos q] at hp; rw [hs.mv]; exact hp
  · rw [if_neg q0, if_neg q1, if_neg q2, if_neg q3, if_neg q4, if_neg q5, if_neg q6, if_pos q] at hp
    obtain ⟨-, n, h1, h2, h3, h4⟩ := id h
    rw [h3] at hp
    rw [h2, nI_l (by omega)]; exact hp
  · rw [if_neg q0, if_neg q1, if_neg q2, if_neg q3, if_neg q4, if_neg q5, if_neg q6, if_neg q7] at hp; exact hp
