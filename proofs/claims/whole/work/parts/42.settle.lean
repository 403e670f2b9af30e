/-! settling: carried out; the class's side; the model's side -/
def aCo : StV → List (Nat × Int64) → StV
  | T, [] => T
  | T, p :: P => aCo (if s_du T 2 p.1 = p.2 then T else aTick T p.1 p.2) P
def nCo : StV → List (Nat × Int64) → Nat
  | _, [] => 0
  | T, p :: P => if s_du T 2 p.1 = p.2 then nCo T P else nCo (aTick T p.1 p.2) P + 1
theorem nCo_le : ∀ (P : List (Nat × Int64)) (T : StV), nCo T P ≤ P.length
  | [], _ => Nat.le_refl _
  | p :: P, T => by
    rw [nCo, List.length_cons]
    split
    · have := nCo_le P T; omega
    · have := nCo_le P (aTick T p.1 p.2); omega
/-- what is carried out is sound -/
def okC (T : StV) (P : List (Nat × Int64)) : Prop := ∀ p, p ∈ P → s_du T 0 p.1 = 2 ∧ s_tm T < p.2 ∧ p.2 ≤ (1125899906842624 : Int64)
theorem aTick_0 (T : StV) (k : Nat) (t : Int64) (i : Nat) : s_du (aTick T k t) 0 i = s_du T 0 i := by
  unfold aTick
  rw [du_wdu, if_neg (by omega), du_wdu, if_neg (by omega)]
theorem okC.tl {T : StV} {p : Nat × Int64} {P : List (Nat × Int64)} (h : okC T (p :: P)) : okC T P := fun q hq => h q (List.mem_cons_of_mem _ hq)
theorem okC.tk {T : StV} {P : List (Nat × Int64)} (h : okC T P) (k : Nat) (t : Int64) : okC (aTick T k t) P := fun q hq => by rw [aTick_0]; exact h q hq
theorem okC.hd {T : StV} {p : Nat × Int64} {P : List (Nat × Int64)} (h : okC T (p :: P)) : s_du T 0 p.1 = 2 ∧ s_tm T < p.2 ∧ p.2 ≤ (1125899906842624 : Int64) := h p List.mem_cons_self
theorem pl_okC {T : StV} (hI : IT T) : ∀ (L : List Nat) (F : Int64 → Prop), (∀ d, d ∈ L → s_du T 0 d = 2) → okC T (L.zip (plT T F L))
  | [], _, _ => fun p hp => by simp at hp
  | d :: L, F, h2 => by
    have k2 := h2 d List.mem_cons_self
    have r := (hI.ri (i := d) (by rw [k2]; decide)).b
    have t2 := (r.2.2.1 k2).2
    rw [plT]
    split
    · intro p hp
      rw [List.zip_cons_cons] at hp
      rcases List.mem_cons.mp hp with z | z
      · rw [z]; exact ⟨k2, (r.2.1 t2).1, (r.2.1 t2).2⟩
      · exact pl_okC hI L _ (fun e he => h2 e (List.mem_cons_of_mem _ he)) p z
    · rename_i q
      intro p hp
      rw [List.zip_cons_cons] at hp
      rcases List.mem_cons.mp hp with z | z
      · have := pl_ok hI k2 q
        rw [z]; exact ⟨k2, this.1, Int64.le_trans this.2 (r.2.1 t2).2⟩
      · exact pl_okC hI L _ (fun e he => h2 e (List.mem_cons_of_mem _ he)) p z
theorem aCo_IT : ∀ (P : List (Nat × Int64)) (T : StV), IT T → okC T P → IT (aCo T P)
  | [], _, h, _ => h
  | p :: P, T, h, ok => by
    obtain ⟨k2, k3, k4⟩ := ok.hd
    have k0 : s_du T 0 p.1 ≠ (-2000000005 : Int64) := by rw [k2]; decide
    rw [aCo]
    split
    · exact aCo_IT P T h ok.tl
    · refine aCo_IT P _ ?_ (ok.tl.tk _ _)
      obtain ⟨r1, r2, r3, r4, r5, r6, r7, r8, r9, r10⟩ := (h.ri k0).b
      have v : ∀ f, f ≠ 2 → f ≠ 11 → s_du (aTick T p.1 p.2) f p.1 = s_du T f p.1 := fun f a1 a2 => by
        unfold aTick
        rw [du_wdu, if_neg (by omega), du_wdu, if_neg (by omega)]
      have tn : p.2 ≠ (-2000000005 : Int64) := fun z => by
        have a := h.1.1
        rw [z, y_lt, x_N] at k3
        rw [y_le, x_0] at a
        omega
      have w : WI (fun _ => s_tm T) (aTick T p.1 p.2) := by
        refine h.wi.row h.1 (h.wi.lt k0) (fun i f hi => ?_) (fun _ _ => rfl) (by rw [aTick_0]; exact k0) ?_ (Or.inr (v 6 (by omega) (by omega)))
        · unfold aTick
          rw [du_wdu, if_neg (fun z => hi z.2), du_wdu, if_neg (fun z => hi z.2)]
        · refine RI_mk (v 0 (by omega) (by omega)) (aTick_2 T p.1 p.2) (v 3 (by omega) (by omega)) (v 4 (by omega) (by omega)) (v 5 (by omega) (by omega)) (v 6 (by omega) (by omega)) (v 7 (by omega) (by omega)) (v 9 (by omega) (by omega)) (v 10 (by omega) (by omega)) rfl ⟨r1, fun _ => ⟨k3, k4⟩, fun z => ⟨(r3 z).1, tn⟩, r4, r5, r6, fun z => ?_, r8, fun z => ?_, fun z => absurd z tn⟩
          · have := (r7 z).1
            rw [k2] at this
            exact absurd this (by decide)
          · have := (r9 z).1
            rw [k2] at this
            exact absurd this (by decide)
      exact w
theorem cCo_loop {w : LnV} {sv : SvV} {N : Nat} (hN : N ≤ 200) (hz : l_sz w = nI N) {post : Int32 → StV → Prop} :
    ∀ (P : List (Nat × Int64)) (i c : Nat) (v T : StV), i + P.length = N → c + P.length ≤ 200 → CS v T → okC T P → (∀ j p, P[j]? = some p → l_du w (i + j) = nI p.1 ∧ t_sd sv (i + j) = p.2) → (∀ v', CS v' (aCo T P) → post (nI (c + nCo T P)) v') → LX3_carryOut_4 w sv post (P.length + 1) (nI c) (nI i) v := by
  intro P
  induction P with
  | nil =>
    intro i c v T hi hc h ok hd hp
    rw [LX3_carryOut_4, hz]
    rw [List.length_nil] at hi
    exact ⟨fun _ => hp v h, fun q => absurd (nI_le (by omega) (by omega)) q⟩
  | cons p P ih =>
    intro i c v T hi hc h ok hd hp
    rw [List.length_cons] at hi hc
    obtain ⟨e0, e1⟩ := hd 0 p (List.getElem?_cons_zero)
    rw [Nat.add_zero] at e0 e1
    obtain ⟨k2, k3, k4⟩ := ok.hd
    have k0 : s_du T 0 p.1 ≠ (-2000000005 : Int64) := by rw [k2]; decide
    have hk : p.1 < 200 := by
      rcases Nat.lt_or_ge p.1 200 with z | z
      · exact z
      · exact absurd (h.far z 0) k0
    have hin : vp_in (nI i) 200 := vp_in_nI (by omega) (by omega)
    have hind : vp_in (nI p.1) 200 := vp_in_nI hk (by omega)
    have tail : ∀ j q, P[j]? = some q → l_du w (i + 1 + j) = nI q.1 ∧ t_sd sv (i + 1 + j) = q.2 := fun j q z => by
      rw [show i + 1 + j = i + (j + 1) by omega]
      exact hd (j + 1) q (by rw [List.getElem?_cons_succ]; exact z)
    rw [LX3_carryOut_4, hz, nI_clamp (show i < 2 ^ 31 by omega), e0, e1, nI_clamp (show p.1 < 2 ^ 31 by omega), h.f k0 (f := 2) (by omega) (by omega) (by omega)]
    refine ⟨fun q => absurd ((nI_leI (by omega) (by omega)).mp q) (by omega), fun _ => ⟨hin, hind, hin, fun q => ?_, fun q => ⟨hin, hin, ?_⟩⟩⟩
    · rintro _ rfl
      rw [nI_1]
      rw [aCo, nCo, if_pos q, if_pos q] at hp
      exact ih (i + 1) c v T (by omega) (by omega) h ok.tl tail hp
    · refine cSetTick h rfl hk k0 (fun v' hv' => ?_)
      rintro _ rfl _ rfl
      rw [nI_1, nI_1]
      rw [aCo, nCo, if_neg q, if_neg q] at hp
      have em : mn p.2 = p.2 := by unfold mn; rw [if_neg (Int64.not_lt.mpr k4)]
      rw [em] at hv'
      refine ih (i + 1) (c + 1) v' _ (by omega) (by omega) hv' (ok.tl.tk _ _) tail ?_
      rw [show c + 1 + nCo (aTick T p.1 p.2) P = c + (nCo (aTick T p.1 p.2) P + 1) by omega]
      exact hp
noncomputable def sP (T : StV) : List (Nat × Int64) := (sL T).zip (plT T (Ft0 T 200) (sL T))
theorem sL_len (T : StV) : (sL T).length ≤ 200 := by
  unfold sL sR
  rw [List.length_reverse]
  exact gLs_len 200
theorem sP_len (T : StV) : (sP T).length = (sL T).length := by
  unfold sP
  rw [List.length_zip, plT_len, Nat.min_self]
theorem sP_ok {T : StV} (h : IT T) : okC T (sP T) := pl_okC h _ _ (fun d hd => (sL_mem.mp hd).2)
theorem zip_at {A : List Nat} {B : List Int64} {j : Nat} {p : Nat × Int64} (h : (A.zip B)[j]? = some p) : A[j]? = some p.1 ∧ B[j]? = some p.2 := by
  rw [List.getElem?_zip_eq_some] at h
  exact h
noncomputable def zSet (Z : Zt) : Int64 × Zt := (lN (nCo Z.1 (sP Z.1)), (aCo Z.1 (sP Z.1), (zKeep Z).2))
theorem cSet {st : Nat → StV} {ln : Nat → LnV} {sv : SvV} {kv : KvV} {cu : Nat} {Z : Zt} (h : KI st kv cu Z) (hI : IT Z.1) {post : Int64 → (Nat → StV) → (Nat → LnV) → SvV → KvV → Prop} (hp : ∀ st' ln' sv' kv', KI st' kv' cu (zSet Z).2 → post (zSet Z).1 st' ln' sv' kv') : PX6_settle st ln sv kv cu post := by
  unfold PX6_settle
  refine cKeep h (fun st1 kv1 hk => cPlan (T := Z.1) hk.cs hI (fun w1 sv1 ez a1 a2 => ?_))
  rintro _ rfl
  rw [va_up_self]
  unfold PX3_carryOut
  have hl := sL_len Z.1
  have hz := sP_len Z.1
  refine ⟨_, cCo_loop (N := (sL Z.1).length) hl ez (sP Z.1) 0 0 _ Z.1 (by omega) (by omega) hk.cs (sP_ok hI) (fun j p q => ⟨a1 j _ (zip_at q).1, a2 j _ (zip_at q).2⟩) (fun v' hv' => ?_)⟩
  rintro _ rfl
  have := nCo_le (sP Z.1) Z.1
  rw [Nat.zero_add, nI_l (by omega)]
  exact hp _ _ _ _ (hk.upd hv')
/-- the model's side -/
def mH (r : MmV) (lo : Nat → Int32) (tk : Nat → Int64) (lc : Int32) (fs : Nat → Int32) : MmV := m_wfs (m_wlc (m_wtk (m_wlo r lo) tk) lc) fs
section
variable (r : MmV) (lo lo' : Nat → Int32) (tk tk' : Nat → Int64) (lc lc' : Int32) (fs fs' : Nat → Int32)
theorem mH_s : m_s (mH r lo tk lc fs) = m_s r := rfl
theorem mH_bf : m_bf (mH r lo tk lc fs) = m_bf r := rfl
theorem mH_kp : m_kp (mH r lo tk lc fs) = m_kp r := rfl
theorem mH_lo : m_lo (mH r lo tk lc fs) = lo := rfl
theorem mH_tk : m_tk (mH r lo tk lc fs) = tk := rfl
theorem mH_lc : m_lc (mH r lo tk lc fs) = lc := rfl
theorem mH_fs : m_fs (mH r lo tk lc fs) = fs := rfl
theorem mH_wlo : m_wlo (mH r lo tk lc fs) lo' = mH r lo' tk lc fs := rfl
theorem mH_wtk : m_wtk (mH r lo tk lc fs) tk' = mH r lo tk' lc fs := rfl
theorem mH_wlc : m_wlc (mH r lo tk lc fs) lc' = mH r lo tk lc' fs := rfl
theorem mH_wfs : m_wfs (mH r lo tk lc fs) fs' = mH r lo tk lc fs' := rfl
theorem mH_self : mH r (m_lo r) (m_tk r) (m_lc r) (m_fs r) = r := rfl
theorem mH_0 : m_wlc r lc' = mH r (m_lo r) (m_tk r) lc' (m_fs r) := rfl
end
theorem mAhd {r : MmV} {s : Nat → Int64} {T : StV} (es : m_s r = s) (h : MS s T) {k e : Nat} (hk : s_du T 0 k ≠ (-2000000005 : Int64)) (he : s_du T 0 e ≠ (-2000000005 : Int64)) {post : Int32 → Prop} (h1 : slt T k e = true → post 1) (h0 : slt T k e = false → post 0) : PX7_isAhead r (nI k) (nI e) post := by
  have k2 := (h.there.mp hk).1
  have e2 := (h.there.mp he).1
  have a1 : s (14 * k + 3) = s_du T 2 k := h.f (f := 2) hk (by omega) (by omega) (by omega)
  have a2 : s (14 * e + 3) = s_du T 2 e := h.f (f := 2) he (by omega) (by omega) (by omega)
  have a3 : s (14 * k + 11) = s_du T 8 k := h.f (f := 8) hk (by omega) (by omega) (by omega)
  have a4 : s (14 * e + 11) = s_du T 8 e := h.f (f := 8) he (by omega) (by omega) (by omega)
  unfold PX7_isAhead
  refine mGet es rfl k2 (c := 3) rfl (by omega) (mGet es rfl e2 (c := 3) rfl (by omega) ?_)
  rw [a1, a2]
  refine ⟨fun q => h1 (decide_eq_true (Or.inl q)), fun q => mGet es rfl k2 (c := 3) rfl (by omega) (mGet es rfl e2 (c := 3) rfl (by omega) ?_)⟩
  rw [a1, a2]
  refine ⟨fun q2 => mGet es rfl k2 (c := 11) rfl (by omega) (mGet es rfl e2 (c := 11) rfl (by omega) ?_), fun q2 => h0 (decide_eq_false (fun z => z.elim q (fun z => q2 z.1)))⟩
  rw [a3, a4]
  exact ⟨fun q3 => h0 (decide_eq_false (fun z => z.elim q (fun z => Int64.not_le.mpr z.2 q3))), fun q3 => h1 (decide_eq_true (Or.inr ⟨q2, Int64.not_le.mp q3⟩))⟩
theorem mGa_in {r : MmV} {T : StV} (h : MS (m_s r) T) {x n : Nat} (hn : n < 200) (hx : s_du T 0 x ≠ (-2000000005 : Int64)) {tk : Nat → Int64} {lc : Int32} {fs : Nat → Int32} {K : Int32 → MmV → Prop} {post : MmV → Prop} :
    ∀ (R2 R1 : List Nat) (lo : Nat → Int32), R1.length + R2.length = n → (∀ d, d ∈ R2 → s_du T 0 d ≠ (-2000000005 : Int64)) → (∀ j d, R2[j]? = some d → lo (R2.length - 1 - j) = nI d) → (∀ j d, R1[j]? = some d → lo (n - j) = nI d) → (∀ p lo', p < 200 → GR (upd lo' p (nI x)) (R1 ++ insR (slt T x) x R2) → K (nI p) (mH r lo' tk lc fs)) → LX7_gather_66 (nI x) K post (R2.length + 1) (nI R2.length) (mH r lo tk lc fs) := by
  intro R2
  induction R2 with
  | nil =>
    intro R1 lo hl hd h2 h1 hp
    rw [LX7_gather_66]
    exact ⟨fun _ => hp _ lo (by omega) (GR_put hl h2 h1), fun q => absurd (by decide) q⟩
  | cons e R2 ih =>
    intro R1 lo hl hd h2 h1 hp
    rw [LX7_gather_66]
    rw [List.length_cons] at hl h2 ⊢
    have e0 : lo R2.length = nI e := by
      have := h2 0 e (List.getElem?_cons_zero)
      rwa [show R2.length + 1 - 1 - 0 = R2.length by omega] at this
    have he := hd e List.mem_cons_self
    rw [nI_pred, nI_clamp (show R2.length < 2 ^ 31 by omega), nI_clamp (show R2.length + 1 < 2 ^ 31 by omega), mH_lo, e0]
    have hin : vp_in (nI R2.length) 200 := vp_in_nI (by omega) (by omega)
    have hin1 : vp_in (nI (R2.length + 1)) 200 := vp_in_nI (by omega) (by omega)
    refine ⟨fun q => absurd q ?_, fun _ => ⟨hin, mAhd (mH_s r lo tk lc fs) h hx he (fun q => b1 ⟨hin, hin1, ?_⟩) (fun q => b0 ?_)⟩⟩
    · rw [show (0 : Int32) = nI 0 from rfl, nI_leI (by omega) (by omega)]; omega
    · rintro _ rfl _ rfl
      rw [← Int32.sub_eq_add_neg, nI_pred, mH_wlo, ← e0]
      obtain ⟨a1, a2⟩ := GR_shift (g := lo) (e := e) (n := n) (R1 := R1) (R2 := R2) hl h2 h1
      refine ih (R1 ++ [e]) _ (by rw [List.length_append, List.length_singleton]; omega) (fun d hd' => hd d (List.mem_cons_of_mem _ hd')) a1 a2 (fun p g' hp' hG => hp p g' hp' ?_)
      rw [insR, if_pos q]
      rw [List.append_assoc] at hG
      exact hG
    · refine hp _ lo (by omega) ?_
      rw [insR, if_neg (by rw [q]; decide)]
      exact GR_put (g := lo) (x := x) (R1 := R1) (R2 := e :: R2) (n := n) (by rw [List.length_cons]; omega) (by rw [List.length_cons]; exact h2) h1
theorem mGa_loop {r : MmV} {T : StV} (h : MS (m_s r) T) (hI : IT T) {fs : Nat → Int32} {post : MmV → Prop} (hp : ∀ lo tk, GR lo (sR T 200) → (∀ i, i < 200 → tk i = s_du T 2 i) → post (mH r lo tk (nI (sR T 200).length) fs)) :
    ∀ m k lo tk, k + m = 200 → GR lo (sR T k) → (∀ i, i < k → tk i = s_du T 2 i) → LX7_gather_7 post (m + 1) (nI k) (mH r lo tk (nI (sR T k).length) fs) := by
  intro m
  induction m with
  | zero =>
    intro k lo tk hk hg ht
    obtain rfl : k = 200 := by omega
    rw [LX7_gather_7]
    exact ⟨fun _ => hp lo tk hg ht, fun q => absurd (by decide) q⟩
  | succ m ih =>
    intro k lo tk hk hg ht
    rw [LX7_gather_7, nI_clamp (show k < 2 ^ 31 by omega)]
    have hin : vp_in (nI k) 200 := vp_in_nI (by omega) (by omega)
    have tk1 : ∀ x, x = s_du T 2 k → ∀ i, i < k + 1 → vp_updL tk k x i = s_du T 2 i := fun x hx i hi => by
      by_cases z : i = k
      · rw [z, updL_at]; exact hx
      · rw [updL_ne z]; exact ht i (by omega)
    have no : ∀ x, x = s_du T 2 k → s_du T 0 k ≠ 2 → ∀ z : Int32, z = nI k + 1 → LX7_gather_7 post (m + 1) z (mH r lo (vp_updL tk k x) (nI (sR T k).length) fs) := fun x hx q z hz => by
      rw [hz, nI_1]
      have e1 : sR T (k + 1) = sR T k := by unfold sR; rw [gLs, if_neg q]
      rw [← e1]
      exact ih (k + 1) lo _ (by omega) (by rw [e1]; exact hg) (tk1 x hx)
    refine ⟨fun q => absurd q ?_, fun _ => mHas (mH_s r lo tk _ fs) h (by omega) rfl (fun d q => b1 (mGet (mH_s r lo tk _ fs) rfl (by omega) (c := 3) rfl (by omega) ⟨hin, ?_⟩)) (fun q => b0 ⟨hin, ?_⟩)⟩
    · rw [show (200 : Int32) = nI 200 from rfl, nI_leI (by omega) (by omega)]; omega
    · have g0 : m_s r (14 * k + 1) = s_du T 0 k := h.f (f := 0) d (by omega) (by omega) (by omega)
      have g2 : m_s r (14 * k + 3) = s_du T 2 k := h.f (f := 2) d (by omega) (by omega) (by omega)
      rintro _ rfl
      rw [g2, mH_tk, mH_wtk]
      refine mHas (mH_s r lo _ _ fs) h (by omega) rfl (fun _ _ => b1 (mGet (mH_s r lo _ _ fs) rfl (by omega) (c := 1) rfl (by omega) ?_)) (fun z => absurd z q)
      rw [g0]
      refine ⟨fun q2 => ?_, fun q2 => no _ rfl q2⟩
      rintro _ rfl
      rw [mH_lc]
      have e1 : sR T (k + 1) = insR (slt T k) k (sR T k) := by unfold sR; rw [gLs, if_pos q2]
      have l1 : (sR T k).length ≤ k := gLs_len k
      have hth : ∀ e, e ∈ sR T k → s_du T 0 e ≠ (-2000000005 : Int64) := fun e he => by
        have : s_du T 0 e = 2 := (gLs_mem.mp he).2
        rw [this]; decide
      refine ⟨_, mGa_in h (n := (sR T k).length) (by omega) d (sR T k) [] lo (by rw [List.length_nil]; omega) hth hg (fun j d z => by simp at z) (fun p' g' hp' hG => ⟨vp_in_nI hp' (by omega), ?_⟩)⟩
      rintro _ rfl _ rfl _ rfl
      rw [mH_lo, mH_wlo, mH_lc, mH_wlc, nI_1, nI_1, nI_clamp (by omega)]
      have l2 : (sR T k).length + 1 = (sR T (k + 1)).length := by rw [e1, insR_len]
      rw [l2]
      refine ih (k + 1) _ _ (by omega) ?_ (tk1 _ rfl)
      rw [e1]
      exact hG
    · rintro _ rfl
      rw [mH_tk, mH_wtk]
      have k2 : s_du T 0 k ≠ 2 := fun z => ((hI.ri (i := k) (by rw [z]; decide)).b.2.2.1 z).2 q
      exact mHas (mH_s r lo _ _ fs) h (by omega) rfl (fun _ z => absurd q z) (fun _ => b0 (no _ q.symm k2))
theorem mGa {r : MmV} {T : StV} (h : MS (m_s r) T) (hI : IT T) {post : MmV → Prop} (hp : ∀ lo tk, GR lo (sR T 200) → (∀ i, i < 200 → tk i = s_du T 2 i) → post (mH r lo tk (nI (sR T 200).length) (m_fs r))) : PX7_gather r post := by
  unfold PX7_gather
  rintro _ rfl
  rw [mH_0]
  exact ⟨201, mGa_loop h hI hp 200 0 _ _ (by omega) (fun j d z => by simp [sR, gLs] at z) (fun i hi => absurd hi (Nat.not_lt_zero _))⟩
theorem upd_at {f : Nat → Int32} {k : Nat} {x : Int32} : upd f k x k = x := pk_us
theorem mSf_loop {r : MmV} {T : StV} (h : MS (m_s r) T) {lo : Nat → Int32} {tk : Nat → Int64} {lc : Int32} {K : MmV → Prop} {post : Int32 → MmV → Prop} (hp : ∀ fs, (∀ i, i < 200 → (fs i ≠ 0 ↔ fP T i)) → K (mH r lo tk lc fs)) :
    ∀ m k fs, k + m = 200 → (∀ i, i < k → (fs i ≠ 0 ↔ fP T i)) → LX7_settled_6 K post (m + 1) (nI k) (mH r lo tk lc fs) := by
  intro m
  induction m with
  | zero =>
    intro k fs hk hf
    obtain rfl : k = 200 := by omega
    rw [LX7_settled_6]
    exact ⟨fun _ => hp fs hf, fun q => absurd (by decide) q⟩
  | succ m ih =>
    intro k fs hk hf
    rw [LX7_settled_6, nI_clamp (show k < 2 ^ 31 by omega)]
    have hin : vp_in (nI k) 200 := vp_in_nI (by omega) (by omega)
    have v0 : vp_nar .boolean (0 : Int32) = 0 := by decide
    have v1 : vp_nar .boolean (1 : Int32) = 1 := by decide
    have nx : ∀ y : Int32, (y ≠ 0 ↔ fP T k) → ∀ z : Int32, z = nI k + 1 → LX7_settled_6 K post (m + 1) z (mH r lo tk lc (upd fs k y)) := fun y hy z hz => by
      rw [hz, nI_1]
      refine ih (k + 1) _ (by omega) (fun i hi => ?_)
      by_cases w : i = k
      · rw [w, upd_at]; exact hy
      · rw [pk_un w]; exact hf i (by omega)
    rw [mH_fs, v0, v1]
    refine ⟨fun q => absurd q ?_, fun _ => mHas (mH_s r lo tk lc fs) h (by omega) rfl (fun d q => b1 (mGet (mH_s r lo tk lc fs) rfl (by omega) (c := 1) rfl (by omega) ?_)) (fun q => b0 ⟨hin, ?_⟩)⟩
    · rw [show (200 : Int32) = nI 200 from rfl, nI_leI (by omega) (by omega)]; omega
    · have g0 : m_s r (14 * k + 1) = s_du T 0 k := h.f (f := 0) d (by omega) (by omega) (by omega)
      rw [g0]
      refine ⟨fun q2 => ⟨hin, ?_⟩, fun q2 => ⟨hin, ?_⟩⟩
      · rintro _ rfl
        exact nx 0 ⟨fun z => absurd rfl z, fun z => absurd q2 z.2⟩
      · rintro _ rfl
        exact nx 1 ⟨fun _ => ⟨q, q2⟩, fun _ => by decide⟩
    · rintro _ rfl
      exact nx 0 ⟨fun z => absurd rfl z, fun z => absurd q z.1⟩
abbrev FM (tk : Nat → Int64) (fs : Nat → Int32) (n : Nat) : Int64 → Prop := fun y => ∃ i, i < n ∧ fs i ≠ 0 ∧ tk i = y
theorem mFs_loop {r : MmV} {T : StV} (h : MS (m_s r) T) {lo : Nat → Int32} {tk : Nat → Int64} {lc : Int32} {fs : Nat → Int32} {d : Nat} (hd : s_du T 0 d ≠ (-2000000005 : Int64)) {a : Int64} (ha : 0 ≤ a) {post : Int64 → Prop} (hp : ∀ x, LsT (FM tk fs 200) a (s_du T 2 d) x → post x) :
    ∀ m k x, k + m = 200 → LsT (FM tk fs k) a (s_du T 2 d) x → LX7_fastIn_46 (mH r lo tk lc fs) (nI d) a post (m + 1) x (nI k) := by
  intro m
  induction m with
  | zero =>
    intro k x hk hx
    obtain rfl : k = 200 := by omega
    rw [LX7_fastIn_46]
    exact ⟨fun _ => hp x hx, fun q => absurd (by decide) q⟩
  | succ m ih =>
    intro k x hk hx
    rw [LX7_fastIn_46, nI_clamp (by omega), mH_fs, mH_tk]
    have hin : vp_in (nI k) 200 := vp_in_nI (by omega) (by omega)
    have g2 : m_s r (14 * d + 3) = s_du T 2 d := h.f (f := 2) hd (by omega) (by omega) (by omega)
    refine ⟨fun q => absurd q ?_, fun _ => ⟨hin, fun q => ?_, fun q => ⟨hin, mGet (mH_s r lo tk lc fs) rfl (h.there.mp hd).1 (c := 3) rfl (by omega) ?_⟩⟩⟩
    · rw [show (200 : Int32) = nI 200 from rfl, nI_leI (by omega) (by omega)]; omega
    · rintro _ rfl
      rw [nI_1]
      refine ih (k + 1) x (by omega) ?_
      have es := ex_not tk (fun i => fs i ≠ 0) k (fun z => z q)
      show LsT (fun y => ∃ i, i < k + 1 ∧ fs i ≠ 0 ∧ tk i = y) a (s_du T 2 d) x
      rw [es]
      exact hx
    have es := ex_succ tk (fun i => fs i ≠ 0) k q
    have nx : ∀ x', LsT (addF (FM tk fs k) (tk k)) a (s_du T 2 d) x' → ∀ z : Int32, z = nI k + 1 → LX7_fastIn_46 (mH r lo tk lc fs) (nI d) a post (m + 1) x' z := fun x' hx' z hz => by
      rw [hz, nI_1]
      refine ih (k + 1) x' (by omega) ?_
      show LsT (fun y => ∃ i, i < k + 1 ∧ fs i ≠ 0 ∧ tk i = y) a (s_du T 2 d) x'
      rw [es]
      exact hx'
    rw [g2]
    refine mIsIn (fun q1 q2 => b1 ⟨fun q3 => ⟨hin, ?_⟩, fun q3 => ⟨hin, fun q4 => nx x (LsT_keep hx q3 q4), fun q4 => ⟨hin, ?_⟩⟩⟩) (fun q1 => b0 (nx x (LsT_skip hx q1)))
    · rintro _ rfl
      rw [q3] at hx
      exact nx _ (LsT_first ha hx q1 q2)
    · rintro _ rfl
      exact nx _ (LsT_take hx q3 (Int64.le_of_lt (Int64.not_le.mp q4)) q1 q2)
theorem mFs {r : MmV} {T : StV} (h : MS (m_s r) T) (hI : IT T) {lo : Nat → Int32} {tk : Nat → Int64} {lc : Int32} {fs : Nat → Int32} {d : Nat} (hd : s_du T 0 d ≠ (-2000000005 : Int64)) {post : Int64 → Prop} (hp : post (lsF (FM tk fs 200) (fm T d) (s_du T 2 d))) : PX7_fastIn (mH r lo tk lc fs) (nI d) post := by
  unfold PX7_fastIn
  have g3 : m_s r (14 * d + 4) = s_du T 3 d := h.f (f := 3) hd (by omega) (by omega) (by omega)
  have k2 := (h.there.mp hd).1
  have key : ∀ a, a = fm T d → ∃ n9 : Nat, LX7_fastIn_46 (mH r lo tk lc fs) (nI d) a post n9 (-2000000005 : Int64) (0 : Int32) := fun a ea => by
    have a0 : 0 ≤ a := by rw [ea]; exact (fm_ok hI d).1
    refine ⟨201, mFs_loop h hd a0 (fun x hx => ?_) 200 0 (-2000000005 : Int64) (by omega) (Or.inl ⟨rfl, fun y hy => ?_⟩)⟩
    · rw [lsF_eq a0 hx, ea]
      exact hp
    · obtain ⟨i, h1, -⟩ := hy
      exact absurd h1 (Nat.not_lt_zero _)
  have ed : fm T d = if s_du T 3 d ≤ s_tm T then s_tm T + 1 else s_du T 3 d := dropTo_eq hI _
  refine mGet (mH_s r lo tk lc fs) rfl k2 (c := 4) rfl (by omega) ?_
  rw [g3, mH_s, h.tm]
  refine ⟨fun q => ?_, fun q => mGet (mH_s r lo tk lc fs) rfl k2 (c := 4) rfl (by omega) ?_⟩
  · rintro _ rfl
    exact key _ (by rw [ed, if_pos q])
  · rw [g3]
    exact key _ (by rw [ed, if_neg q])
theorem mPl_loop {r : MmV} {T : StV} (h : MS (m_s r) T) (hI : IT T) {lo : Nat → Int32} {N : Nat} (hN : N ≤ 200) {post : Int32 → MmV → Prop} :
    ∀ (L : List Nat) (i c : Nat) (tk : Nat → Int64) (fs : Nat → Int32), i + L.length = N → L.Nodup → (∀ j d, L[j]? = some d → lo (i + j) = nI d) → (∀ d, d ∈ L → s_du T 0 d = 2 ∧ fs d = 0 ∧ tk d = s_du T 2 d) → (∀ tk' fs', (∀ d, d ∉ L → tk' d = tk d) → (∀ p, p ∈ L.zip (plT T (FM tk fs 200) L) → tk' p.1 = p.2) → post (nI (c + plA T (FM tk fs 200) L)) (mH r lo tk' (nI N) fs')) → LX7_settled_55 post (L.length + 1) (nI c) (nI i) (mH r lo tk (nI N) fs) := by
  intro L
  induction L with
  | nil =>
    intro i c tk fs hi hnd hd h2 hp
    rw [LX7_settled_55, mH_lc]
    rw [List.length_nil] at hi
    exact ⟨fun _ => hp tk fs (fun _ _ => rfl) (fun p q => by simp at q), fun q => absurd (nI_le (by omega) (by omega)) q⟩
  | cons d L ih =>
    intro i c tk fs hi hnd hd h2 hp
    rw [List.length_cons] at hi
    obtain ⟨hdL, hnL⟩ := List.nodup_cons.mp hnd
    obtain ⟨k2, f0, t0⟩ := h2 d List.mem_cons_self
    have e0 : lo i = nI d := hd 0 d (List.getElem?_cons_zero)
    have hk0 : s_du T 0 d ≠ (-2000000005 : Int64) := by rw [k2]; decide
    have hk := hI.wi.lt hk0
    have hin : vp_in (nI i) 200 := vp_in_nI (by omega) (by omega)
    have hind : vp_in (nI d) 200 := vp_in_nI hk (by omega)
    have tail : ∀ j z, L[j]? = some z → lo (i + 1 + j) = nI z := fun j z q => by
      rw [show i + 1 + j = i + (j + 1) by omega]
      exact hd (j + 1) z (by rw [List.getElem?_cons_succ]; exact q)
    rw [LX7_settled_55, mH_lc, nI_clamp (show i < 2 ^ 31 by omega), mH_lo, e0]
    refine ⟨fun q => absurd ((nI_leI (by omega) (by omega)).mp q) (by omega), fun _ => ⟨hin, ?_⟩⟩
    rintro _ rfl
    rw [nI_clamp (show d < 2 ^ 31 by omega), mH_fs, mH_tk]
    have v1 : vp_nar .boolean (1 : Int32) = 1 := by decide
    refine mFs h hI hk0 ⟨fun q => ⟨hind, ?_⟩, fun q => ⟨hind, ?_⟩⟩
    · rintro _ rfl _ rfl _ rfl
      rw [v1, mH_wfs, nI_1, nI_1]
      have eF : FM tk (upd fs d 1) 200 = addF (FM tk fs 200) (s_du T 2 d) := by
        funext y
        apply propext
        constructor
        · rintro ⟨j, h1, h2, h3⟩
          by_cases z : j = d
          · right; rw [← h3, z, t0]
          · left; exact ⟨j, h1, by rw [pk_un z] at h2; exact h2, h3⟩
        · rintro (⟨j, h1, h2, h3⟩ | w)
          · refine ⟨j, h1, ?_, h3⟩
            by_cases z : j = d
            · rw [z, upd_at]; decide
            · rw [pk_un z]; exact h2
          · exact ⟨d, hk, by rw [upd_at]; decide, by rw [t0, w]⟩
      have e1 : plT T (FM tk fs 200) (d :: L) = s_du T 2 d :: plT T (addF (FM tk fs 200) (s_du T 2 d)) L := by rw [plT, if_pos q]
      have e2 : plA T (FM tk fs 200) (d :: L) = plA T (addF (FM tk fs 200) (s_du T 2 d)) L + 1 := by rw [plA, if_pos q]
      rw [e1, e2] at hp
      refine ih (i + 1) (c + 1) tk _ (by omega) hnL tail (fun z hz => ?_) (fun tk' fs' a1 a2 => ?_)
      · obtain ⟨b1, b2, b3⟩ := h2 z (List.mem_cons_of_mem _ hz)
        have zd : z ≠ d := fun w => hdL (w ▸ hz)
        exact ⟨b1, (pk_un zd).trans b2, b3⟩
      · rw [eF] at a2 ⊢
        rw [show c + 1 + plA T (addF (FM tk fs 200) (s_du T 2 d)) L = c + (plA T (addF (FM tk fs 200) (s_du T 2 d)) L + 1) by omega]
        refine hp tk' fs' (fun z hz => a1 z (fun w => hz (List.mem_cons_of_mem _ w))) (fun p hp' => ?_)
        rw [List.zip_cons_cons] at hp'
        rcases List.mem_cons.mp hp' with w | w
        · rw [w, a1 d hdL, t0]
        · exact a2 p w
    · rintro _ rfl _ rfl
      rw [mH_wtk, nI_1]
      obtain ⟨X, eX⟩ : ∃ X, X = lsF (FM tk fs 200) (fm T d) (s_du T 2 d) := ⟨_, rfl⟩
      rw [← eX]
      have eF : FM (vp_updL tk d X) fs 200 = FM tk fs 200 := by
        funext y
        apply propext
        constructor
        · rintro ⟨j, h1, h2, h3⟩
          have z : j ≠ d := fun z => h2 (z ▸ f0)
          exact ⟨j, h1, h2, by rw [updL_ne z] at h3; exact h3⟩
        · rintro ⟨j, h1, h2, h3⟩
          have z : j ≠ d := fun z => h2 (z ▸ f0)
          exact ⟨j, h1, h2, by rw [updL_ne z]; exact h3⟩
      have e1 : plT T (FM tk fs 200) (d :: L) = X :: plT T (FM tk fs 200) L := by rw [plT, if_neg q, eX]
      have e2 : plA T (FM tk fs 200) (d :: L) = plA T (FM tk fs 200) L := by rw [plA, if_neg q]
      rw [e1, e2] at hp
      refine ih (i + 1) c _ fs (by omega) hnL tail (fun z hz => ?_) (fun tk' fs' a1 a2 => ?_)
      · obtain ⟨b1, b2, b3⟩ := h2 z (List.mem_cons_of_mem _ hz)
        have zd : z ≠ d := fun w => hdL (w ▸ hz)
        exact ⟨b1, b2, (updL_ne zd).trans b3⟩
      · rw [eF] at a2 ⊢
        refine hp tk' fs' (fun z hz => ?_) (fun p hp' => ?_)
        · have zd : z ≠ d := fun w => hz (by rw [w]; exact List.mem_cons_self)
          rw [a1 z (fun w => hz (List.mem_cons_of_mem _ w)), updL_ne zd]
        · rw [List.zip_cons_cons] at hp'
          rcases List.mem_cons.mp hp' with w | w
          · rw [w, a1 d hdL, updL_at]
          · exact a2 p w
theorem mPl {r : MmV} {T : StV} (h : MS (m_s r) T) (hI : IT T) {post : Int32 → MmV → Prop} (hp : ∀ lo tk fs, (∀ j d, (sL T)[j]? = some d → lo (0 + j) = nI d) → (∀ p, p ∈ sP T → tk p.1 = p.2) → post (nI (plA T (Ft0 T 200) (sL T))) (mH r lo tk (nI (sL T).length) fs)) : PX7_settled r post := by
  unfold PX7_settled
  refine mGa h hI (fun lo tk hg ht => ⟨201, mSf_loop h (fun fs hf => ?_) 200 0 _ (by omega) (fun i hi => absurd hi (Nat.not_lt_zero _))⟩)
  have hl : (sR T 200).length = (sL T).length := by unfold sL; rw [List.length_reverse]
  have hle := sL_len T
  have at' : ∀ j d, (sL T)[j]? = some d → lo (0 + j) = nI d := rev_at hg
  have eF : FM tk fs 200 = Ft0 T 200 := by
    funext y
    apply propext
    constructor
    · rintro ⟨j, h1, h2, h3⟩
      exact ⟨j, h1, (hf j h1).mp h2, by rw [← ht j h1]; exact h3⟩
    · rintro ⟨j, h1, h2, h3⟩
      exact ⟨j, h1, (hf j h1).mpr h2, by rw [ht j h1]; exact h3⟩
  rw [hl]
  refine ⟨_, mPl_loop h hI (N := (sL T).length) hle (sL T) 0 0 tk fs (by omega) (sL_nd T) at' (fun d hd => ?_) (fun tk' fs' _ a2 => ?_)⟩
  · obtain ⟨a1, a2⟩ := sL_mem.mp hd
    refine ⟨a2, ?_, ht d a1⟩
    by_cases z : fs d = 0
    · exact z
    · exact absurd a2 ((hf d a1).mp z).2
  · rw [eF] at a2 ⊢
    rw [Nat.zero_add]
    exact hp lo tk' fs' at' a2
theorem mFew {r : MmV} {Z : Zt} (h : MK r Z) (hI : IT Z.1) {post : Int64 → MmV → Prop} (hp : ∀ r', MK r' Z → post (lN (plA Z.1 (Ft0 Z.1 200) (sL Z.1))) r') : PX7_fewest r post := by
  unfold PX7_fewest
  refine mPl h.1 hI (fun lo tk fs _ _ => ?_)
  have := plA_le Z.1 (sL Z.1) (Ft0 Z.1 200)
  have l1 := sL_len Z.1
  rw [nI_l (by omega)]
  exact hp _ (h.upd h.1 rfl rfl)
theorem m_ws_H (r : MmV) (s : Nat → Int64) (lo : Nat → Int32) (tk : Nat → Int64) (lc : Int32) (fs : Nat → Int32) : m_ws (mH r lo tk lc fs) s = mH (m_ws r s) lo tk lc fs := rfl
theorem mCo_loop {r : MmV} {lo : Nat → Int32} {tk : Nat → Int64} {fs : Nat → Int32} {N : Nat} (hN : N ≤ 200) {post : Int64 → MmV → Prop} :
    ∀ (P : List (Nat × Int64)) (i c : Nat) (s : Nat → Int64) (T : StV), i + P.length = N → c + P.length ≤ 200 → MS s T → okC T P → (∀ j p, P[j]? = some p → lo (i + j) = nI p.1 ∧ tk p.1 = p.2) → (∀ s', MS s' (aCo T P) → post (lN (c + nCo T P)) (mH (m_ws r s') lo tk (nI N) fs)) → LX7_settle_13 post (P.length + 1) (nI c) (nI i) (mH (m_ws r s) lo tk (nI N) fs) := by
  intro P
  induction P with
  | nil =>
    intro i c s T hi hc h ok hd hp
    rw [LX7_settle_13, mH_lc]
    rw [List.length_nil] at hi hc
    refine ⟨fun _ => ?_, fun q => absurd (nI_le (by omega) (by omega)) q⟩
    rw [nI_l (by omega)]
    exact hp s h
  | cons p P ih =>
    intro i c s T hi hc h ok hd hp
    rw [List.length_cons] at hi hc
    obtain ⟨e0, e1⟩ := hd 0 p (List.getElem?_cons_zero)
    rw [Nat.add_zero] at e0
    obtain ⟨k2, k3, k4⟩ := ok.hd
    have k0 : s_du T 0 p.1 ≠ (-2000000005 : Int64) := by rw [k2]; decide
    have hk := (h.there.mp k0).1
    have hin : vp_in (nI i) 200 := vp_in_nI (by omega) (by omega)
    have hind : vp_in (nI p.1) 200 := vp_in_nI hk (by omega)
    have tail : ∀ j q, P[j]? = some q → lo (i + 1 + j) = nI q.1 ∧ tk q.1 = q.2 := fun j q z => by
      rw [show i + 1 + j = i + (j + 1) by omega]
      exact hd (j + 1) q (by rw [List.getElem?_cons_succ]; exact z)
    have g2 : s (14 * p.1 + 3) = s_du T 2 p.1 := h.f (f := 2) k0 (by omega) (by omega) (by omega)
    rw [LX7_settle_13, mH_lc, mH_lo, nI_clamp (show i < 2 ^ 31 by omega), e0]
    refine ⟨fun q => absurd ((nI_leI (by omega) (by omega)).mp q) (by omega), fun _ => ⟨hin, ?_⟩⟩
    rintro _ rfl
    rw [nI_clamp (show p.1 < 2 ^ 31 by omega), mH_tk, e1]
    refine ⟨hind, mGet (s := s) rfl rfl hk (c := 3) rfl (by omega) ?_⟩
    rw [g2]
    refine ⟨fun q => ?_, fun q => ⟨hind, ?_⟩⟩
    · rintro _ rfl
      rw [nI_1]
      rw [aCo, nCo, if_pos q.symm, if_pos q.symm] at hp
      exact ih (i + 1) c s T (by omega) (by omega) h ok.tl tail hp
    · rw [← m_ws_H]
      refine mTick2 h rfl k0 (fun s' hs' => ?_)
      rintro _ rfl _ rfl
      rw [nI_1, nI_1, m_ws_H]
      rw [aCo, nCo, if_neg (fun z => q z.symm), if_neg (fun z => q z.symm)] at hp
      refine ih (i + 1) (c + 1) s' _ (by omega) (by omega) hs' (ok.tl.tk _ _) tail ?_
      rw [show c + 1 + nCo (aTick T p.1 p.2) P = c + (nCo (aTick T p.1 p.2) P + 1) by omega]
      exact hp
theorem mSett {r : MmV} {Z : Zt} (h : MK r Z) (hI : IT Z.1) {post : Int64 → MmV → Prop} (hp : ∀ r', MK r' (zSet Z).2 → post (zSet Z).1 r') : PX7_settle r post := by
  unfold PX7_settle
  refine mKeep h (fun r1 hk es => mPl (T := Z.1) hk.1 hI (fun lo tk fs a1 a2 => ?_))
  have hl := sL_len Z.1
  have hz := sP_len Z.1
  have hn := nCo_le (sP Z.1) Z.1
  have hl2 := mCo_loop (r := r1) (lo := lo) (tk := tk) (fs := fs) (N := (sL Z.1).length) hl (post := post) (sP Z.1) 0 0 (m_s r1) Z.1 (by omega) (by omega) hk.1 (sP_ok hI) (fun j p q => ⟨a1 j _ (zip_at q).1, a2 p (List.mem_of_getElem? q)⟩) (fun s' hs' => ?_)
  · rw [m_ews] at hl2
    exact ⟨_, hl2⟩
  · rw [Nat.zero_add]
    exact hp _ (hk.upd hs' rfl rfl)
