/-! lines: insertion from the end, as lists, the last one first -/
def insR (lt : Nat → Bool) (x : Nat) : List Nat → List Nat
  | [] => [x]
  | e :: R => if lt e then e :: insR lt x R else x :: e :: R
theorem insR_len (lt : Nat → Bool) (x : Nat) : ∀ R, (insR lt x R).length = R.length + 1
  | [] => rfl
  | e :: R => by
    rw [insR]
    split
    · rw [List.length_cons, insR_len lt x R, List.length_cons]
    · rfl
theorem insR_mem {lt : Nat → Bool} {x d : Nat} : ∀ {R : List Nat}, d ∈ insR lt x R ↔ d = x ∨ d ∈ R
  | [] => by simp [insR]
  | e :: R => by
    rw [insR]
    split
    · rw [List.mem_cons, insR_mem (R := R), List.mem_cons]
      constructor
      · rintro (h | h | h)
        · exact Or.inr (Or.inl h)
        · exact Or.inl h
        · exact Or.inr (Or.inr h)
      · rintro (h | h | h)
        · exact Or.inr (Or.inl h)
        · exact Or.inl h
        · exact Or.inr (Or.inr h)
    · rw [List.mem_cons]
theorem insR_nd {lt : Nat → Bool} {x : Nat} : ∀ {R : List Nat}, R.Nodup → x ∉ R → (insR lt x R).Nodup
  | [], _, _ => by simp [insR]
  | e :: R, h, hx => by
    rw [insR]
    obtain ⟨h1, h2⟩ := List.nodup_cons.mp h
    split
    · refine List.nodup_cons.mpr ⟨fun q => ?_, insR_nd h2 (fun q => hx (List.mem_cons_of_mem _ q))⟩
      rcases insR_mem.mp q with q | q
      · exact hx (by rw [q]; exact List.mem_cons_self)
      · exact h1 q
    · exact List.nodup_cons.mpr ⟨hx, h⟩
theorem insR_pre {lt : Nat → Bool} {x : Nat} {R : List Nat} : ∀ {B : List Nat}, (∀ e, e ∈ B → lt e = true) → insR lt x (B ++ R) = B ++ insR lt x R
  | [], _ => rfl
  | b :: B, h => by
    rw [List.cons_append, insR, if_pos (h b List.mem_cons_self), insR_pre (fun e he => h e (List.mem_cons_of_mem _ he))]
    rfl
theorem insR_post {lt lt' : Nat → Bool} {x : Nat} {A : List Nat} (hA : ∀ e, e ∈ A → lt e = false) : ∀ {K : List Nat}, (∀ e, e ∈ K → lt e = lt' e) → insR lt x (K ++ A) = insR lt' x K ++ A
  | [], _ => by
    cases A with
    | nil => rfl
    | cons a A =>
      show insR lt x (a :: A) = x :: a :: A
      rw [insR, if_neg (by rw [hA a List.mem_cons_self]; decide)]
  | k :: K, h => by
    rw [List.cons_append, insR, insR, h k List.mem_cons_self, insR_post hA (fun e he => h e (List.mem_cons_of_mem _ he))]
    by_cases q : lt' k = true
    · rw [if_pos q, if_pos q]; rfl
    · rw [if_neg q, if_neg q]; rfl
/-- all below n with p, put in one after the other -/
def gLs (p : Nat → Prop) [DecidablePred p] (lt : Nat → Nat → Bool) : Nat → List Nat
  | 0 => []
  | n + 1 => if p n then insR (lt n) n (gLs p lt n) else gLs p lt n
theorem gLs_mem {p : Nat → Prop} [DecidablePred p] {lt : Nat → Nat → Bool} {d : Nat} : ∀ {n}, d ∈ gLs p lt n ↔ d < n ∧ p d
  | 0 => by simp [gLs]
  | n + 1 => by
    rw [gLs]
    split
    · rename_i q
      rw [insR_mem, gLs_mem (n := n)]
      constructor
      · rintro (h | h)
        · rw [h]; exact ⟨by omega, q⟩
        · exact ⟨by omega, h.2⟩
      · intro h
        by_cases z : d = n
        · exact Or.inl z
        · exact Or.inr ⟨by omega, h.2⟩
    · rename_i q
      rw [gLs_mem (n := n)]
      constructor
      · intro h; exact ⟨by omega, h.2⟩
      · intro h
        by_cases z : d = n
        · rw [z] at h; exact absurd h.2 q
        · exact ⟨by omega, h.2⟩
theorem gLs_nd {p : Nat → Prop} [DecidablePred p] {lt : Nat → Nat → Bool} : ∀ n, (gLs p lt n).Nodup
  | 0 => List.nodup_nil
  | n + 1 => by
    rw [gLs]
    split
    · exact insR_nd (gLs_nd n) (fun q => absurd (gLs_mem.mp q).1 (Nat.lt_irrefl _))
    · exact gLs_nd n
theorem gLs_len {p : Nat → Prop} [DecidablePred p] {lt : Nat → Nat → Bool} : ∀ n, (gLs p lt n).length ≤ n
  | 0 => Nat.le_refl _
  | n + 1 => by
    have := gLs_len (p := p) (lt := lt) n
    rw [gLs]
    split
    · rw [insR_len]; omega
    · omega
theorem gLs_mono {p : Nat → Prop} [DecidablePred p] {lt : Nat → Nat → Bool} {n : Nat} : ∀ d, (gLs p lt n).length ≤ (gLs p lt (n + d)).length
  | 0 => Nat.le_refl _
  | d + 1 => by
    have := gLs_mono (p := p) (lt := lt) (n := n) d
    rw [show n + (d + 1) = (n + d) + 1 from rfl, gLs]
    split
    · rw [insR_len]; omega
    · omega
theorem gLs_out {p : Nat → Prop} [DecidablePred p] {lt : Nat → Nat → Bool} {e : Nat} (h : ∀ i, e ≤ i → ¬ p i) : ∀ m, gLs p lt (e + m) = gLs p lt e
  | 0 => rfl
  | m + 1 => by
    rw [show e + (m + 1) = (e + m) + 1 from rfl, gLs, if_neg (h _ (by omega)), gLs_out h m]
abbrev hdL (k1 k2 : Nat → Int64) (w : LnV) (p d : Nat) : Prop := l_du w p = nI d ∧ l_f1 w p = k1 d ∧ l_f2 w p = k2 d
abbrev ahd (k1 k2 : Nat → Int64) (x e : Nat) : Prop := k1 x < k1 e ∨ (k1 x = k1 e ∧ k2 x < k2 e)
def LR (k1 k2 : Nat → Int64) (w : LnV) (R : List Nat) : Prop := l_sz w = nI R.length ∧ ∀ j d, R[j]? = some d → hdL k1 k2 w (R.length - 1 - j) d
theorem LR.nil (k1 k2 : Nat → Int64) (w : LnV) : LR k1 k2 (l_wsz w 0) [] := ⟨rfl, fun j d q => by simp at q⟩
def addK (x1 : Int32) (x2 x4 : Int64) (post : LnV → Prop) : Int32 → LnV → Prop := fun (x6_16 : Int32) (w_17 : LnV) => (vp_in x6_16 200 ∧ (∀ w_19 : LnV, w_19 = l_wdu w_17 (upd (l_du w_17) (x6_16.toNatClampNeg) x1) → (vp_in x6_16 200 ∧ (∀ w_21 : LnV, w_21 = l_wf1 w_19 (vp_updL (l_f1 w_19) (x6_16.toNatClampNeg) x2) → (vp_in x6_16 200 ∧ (∀ w_23 : LnV, w_23 = l_wf2 w_21 (vp_updL (l_f2 w_21) (x6_16.toNatClampNeg) x4) → ∀ w_24 : LnV, w_24 = l_wsz w_23 ((l_sz w_23) + (1 : Int32)) → post w_24))))))
def w3 (w : LnV) (p : Nat) (a : Int32) (b c : Int64) : LnV := l_wf2 (l_wf1 (l_wdu w (upd (l_du w) p a)) (vp_updL (l_f1 w) p b)) (vp_updL (l_f2 w) p c)
theorem w3_at {k1 k2 : Nat → Int64} {w : LnV} {p x : Nat} : hdL k1 k2 (w3 w p (nI x) (k1 x) (k2 x)) p x := ⟨pk_us, updL_at _ _ _, updL_at _ _ _⟩
theorem w3_ne {k1 k2 : Nat → Int64} {w : LnV} {p q d : Nat} {a : Int32} {b c : Int64} (h : q ≠ p) (hw : hdL k1 k2 w q d) : hdL k1 k2 (w3 w p a b c) q d := ⟨(pk_un h).trans hw.1, (updL_ne h).trans hw.2.1, (updL_ne h).trans hw.2.2⟩
theorem hdL_sz {k1 k2 : Nat → Int64} {w : LnV} {p d : Nat} {y : Int32} (h : hdL k1 k2 w p d) : hdL k1 k2 (l_wsz w y) p d := h
theorem addK_put {k1 k2 : Nat → Int64} {x n : Nat} (hn : n < 200) {R1 R2 : List Nat} {w : LnV} (hl : R1.length + R2.length = n) (hz : l_sz w = nI n) (h2 : ∀ j d, R2[j]? = some d → hdL k1 k2 w (R2.length - 1 - j) d) (h1 : ∀ j d, R1[j]? = some d → hdL k1 k2 w (n - j) d) {post : LnV → Prop} (hp : ∀ w', LR k1 k2 w' (R1 ++ x :: R2) → post w') : addK (nI x) (k1 x) (k2 x) post (nI R2.length) w := by
  unfold addK
  have hin : vp_in (nI R2.length) 200 := vp_in_nI (by omega) (by omega)
  refine ⟨hin, ?_⟩
  rintro _ rfl
  refine ⟨hin, ?_⟩
  rintro _ rfl
  refine ⟨hin, ?_⟩
  rintro _ rfl _ rfl
  rw [nI_clamp (by omega)]
  have ez : l_sz (w3 w R2.length (nI x) (k1 x) (k2 x)) = nI n := hz
  have hL : (R1 ++ x :: R2).length = n + 1 := by rw [List.length_append, List.length_cons]; omega
  have key : LR k1 k2 (l_wsz (w3 w R2.length (nI x) (k1 x) (k2 x)) (l_sz (w3 w R2.length (nI x) (k1 x) (k2 x)) + 1)) (R1 ++ x :: R2) := by
    refine ⟨?_, fun j d q => ?_⟩
    · rw [hL, ez, l_wsz_l_sz, nI_1]
    · rw [hL, show n + 1 - 1 - j = n - j by omega]
      refine hdL_sz ?_
      have hj : j < n + 1 := by
        have := (List.getElem?_eq_some_iff.mp q).1
        omega
      rcases Nat.lt_trichotomy j R1.length with z | z | z
      · rw [List.getElem?_append_left z] at q
        exact w3_ne (by omega) (h1 j d q)
      · rw [List.getElem?_append_right (by omega), show j - R1.length = 0 by omega, List.getElem?_cons_zero] at q
        obtain rfl : x = d := Option.some.inj q
        rw [show n - j = R2.length by omega]
        exact w3_at
      · rw [List.getElem?_append_right (by omega), show j - R1.length = (j - R1.length - 1) + 1 by omega, List.getElem?_cons_succ] at q
        have := h2 _ d q
        rw [show R2.length - 1 - (j - R1.length - 1) = n - j by omega] at this
        exact w3_ne (by omega) this
  exact hp _ key
theorem cAdd_loop {k1 k2 : Nat → Int64} {x n : Nat} (hn : n < 200) {post : LnV → Prop} :
    ∀ (R2 R1 : List Nat) (w : LnV), R1.length + R2.length = n → l_sz w = nI n → (∀ j d, R2[j]? = some d → hdL k1 k2 w (R2.length - 1 - j) d) → (∀ j d, R1[j]? = some d → hdL k1 k2 w (n - j) d) → (∀ w', LR k1 k2 w' (R1 ++ insR (fun e => decide (ahd k1 k2 x e)) x R2) → post w') → LX2_add_17 (nI x) (k1 x) (k2 x) (addK (nI x) (k1 x) (k2 x) post) post (R2.length + 1) (nI R2.length) w := by
  intro R2
  induction R2 with
  | nil =>
    intro R1 w hl hz h2 h1 hp
    rw [LX2_add_17]
    exact ⟨fun _ => addK_put hn hl hz h2 h1 hp, fun q => absurd (by decide) q⟩
  | cons e R2 ih =>
    intro R1 w hl hz h2 h1 hp
    rw [LX2_add_17]
    rw [List.length_cons] at hl
    have e0 := h2 0 e (List.getElem?_cons_zero)
    rw [List.length_cons, show R2.length + 1 - 1 - 0 = R2.length by omega] at e0
    rw [List.length_cons, nI_pred, nI_clamp (show R2.length < 2 ^ 31 by omega), nI_clamp (show R2.length + 1 < 2 ^ 31 by omega)]
    have hin : vp_in (nI R2.length) 200 := vp_in_nI (by omega) (by omega)
    have hin1 : vp_in (nI (R2.length + 1)) 200 := vp_in_nI (by omega) (by omega)
    have stop : ¬ ahd k1 k2 x e → addK (nI x) (k1 x) (k2 x) post (nI (R2.length + 1)) w := fun z => by
      refine addK_put (R2 := e :: R2) hn hl hz h2 h1 (fun w' hw' => hp w' ?_)
      rw [insR, if_neg (by simpa using z)]
      exact hw'
    have go : ahd k1 k2 x e → (vp_in (nI R2.length) 200 ∧ (vp_in (nI (R2.length + 1)) 200 ∧ (∀ w_8 : LnV, w_8 = l_wdu w (upd (l_du w) (R2.length + 1) (l_du w R2.length)) → (vp_in (nI R2.length) 200 ∧ (vp_in (nI (R2.length + 1)) 200 ∧ (∀ w_11 : LnV, w_11 = l_wf1 w_8 (vp_updL (l_f1 w_8) (R2.length + 1) (l_f1 w_8 R2.length)) → (vp_in (nI R2.length) 200 ∧ (vp_in (nI (R2.length + 1)) 200 ∧ (∀ w_14 : LnV, w_14 = l_wf2 w_11 (vp_updL (l_f2 w_11) (R2.length + 1) (l_f2 w_11 R2.length)) → ∀ x6_15 : Int32, x6_15 = nI (R2.length + 1) + (-1) → LX2_add_17 (nI x) (k1 x) (k2 x) (addK (nI x) (k1 x) (k2 x) post) post (R2.length + 1) x6_15 w_14))))))))) := fun z => by
      refine ⟨hin, hin1, ?_⟩
      rintro _ rfl
      refine ⟨hin, hin1, ?_⟩
      rintro _ rfl
      refine ⟨hin, hin1, ?_⟩
      rintro _ rfl _ rfl
      rw [← Int32.sub_eq_add_neg, nI_pred]
      have ew : ∀ q d, q ≠ R2.length + 1 → hdL k1 k2 w q d → hdL k1 k2 (w3 w (R2.length + 1) (l_du w R2.length) (l_f1 w R2.length) (l_f2 w R2.length)) q d := fun q d hq hw => w3_ne hq hw
      refine ih (R1 ++ [e]) (w3 w (R2.length + 1) (l_du w R2.length) (l_f1 w R2.length) (l_f2 w R2.length)) ?_ hz (fun j d q => ?_) (fun j d q => ?_) (fun w' hw' => hp w' ?_)
      · rw [List.length_append, List.length_singleton]; omega
      · refine ew _ d (by omega) ?_
        have := h2 (j + 1) d (by rw [List.getElem?_cons_succ]; exact q)
        rw [List.length_cons, show R2.length + 1 - 1 - (j + 1) = R2.length - 1 - j by omega] at this
        exact this
      · rcases Nat.lt_or_ge j R1.length with y | y
        · rw [List.getElem?_append_left y] at q
          exact ew _ d (by omega) (h1 j d q)
        · have hj := (List.getElem?_eq_some_iff.mp q).1
          rw [List.length_append, List.length_singleton] at hj
          rw [List.getElem?_append_right y, show j - R1.length = 0 by omega, List.getElem?_cons_zero] at q
          obtain rfl : e = d := Option.some.inj q
          rw [show n - j = R2.length + 1 by omega, e0.1, e0.2.1, e0.2.2]
          exact w3_at
      · rw [insR, if_pos (by simpa using z)]
        rw [List.append_assoc] at hw'
        exact hw'
    refine ⟨fun q => absurd q ?_, fun _ => ?_⟩
    · rw [show (0 : Int32) = nI 0 from rfl, nI_leI (by omega) (by omega)]; omega
    unfold PX2_isAhead
    rw [nI_clamp (by omega), e0.2.1, e0.2.2]
    refine ⟨hin, fun q => b1 (go (Or.inl q)), fun q => ⟨hin, fun q2 => ⟨hin, fun q3 => b0 (stop ?_), fun q3 => b1 (go (Or.inr ⟨q2, Int64.not_le.mp q3⟩))⟩, fun q2 => b0 (stop ?_)⟩⟩
    · rintro (z | z)
      · exact q z
      · exact Int64.not_le.mpr z.2 q3
    · rintro (z | z)
      · exact q z
      · exact q2 z.1
theorem cAdd {k1 k2 : Nat → Int64} {w : LnV} {R : List Nat} (h : LR k1 k2 w R) (hl : R.length < 200) {x : Nat} {X : Int32} {a b : Int64} (hX : X = nI x) (ha : a = k1 x) (hb : b = k2 x) {post : LnV → Prop} (hp : ∀ w', LR k1 k2 w' (insR (fun e => decide (ahd k1 k2 x e)) x R) → post w') : PX2_add w X a b post := by
  subst hX; subst ha; subst hb
  unfold PX2_add
  refine ⟨fun _ => ?_, fun q => absurd ?_ q⟩
  · rintro _ rfl
    rw [h.1]
    exact ⟨R.length + 1, cAdd_loop hl R [] w (by rw [List.length_nil]; omega) h.1 h.2 (fun j d q => by simp at q) hp⟩
  · rw [h.1, show (200 : Int32) = nI 200 from rfl, nI_ltI (by omega) (by omega)]; exact hl
/-- the model's line of goers, or of loose ones -/
def GR (g : Nat → Int32) (R : List Nat) : Prop := ∀ j d, R[j]? = some d → g (R.length - 1 - j) = nI d
theorem GR_put {g : Nat → Int32} {x n : Nat} {R1 R2 : List Nat} (hl : R1.length + R2.length = n) (h2 : ∀ j d, R2[j]? = some d → g (R2.length - 1 - j) = nI d) (h1 : ∀ j d, R1[j]? = some d → g (n - j) = nI d) : GR (upd g R2.length (nI x)) (R1 ++ x :: R2) := by
  have hL : (R1 ++ x :: R2).length = n + 1 := by rw [List.length_append, List.length_cons]; omega
  intro j d q
  rw [hL, show n + 1 - 1 - j = n - j by omega]
  have hj : j < n + 1 := by
    have := (List.getElem?_eq_some_iff.mp q).1
    omega
  rcases Nat.lt_trichotomy j R1.length with z | z | z
  · rw [List.getElem?_append_left z] at q
    exact (pk_un (by omega)).trans (h1 j d q)
  · rw [List.getElem?_append_right (by omega), show j - R1.length = 0 by omega, List.getElem?_cons_zero] at q
    obtain rfl : x = d := Option.some.inj q
    rw [show n - j = R2.length by omega]
    exact pk_us
  · rw [List.getElem?_append_right (by omega), show j - R1.length = (j - R1.length - 1) + 1 by omega, List.getElem?_cons_succ] at q
    have := h2 _ d q
    rw [show R2.length - 1 - (j - R1.length - 1) = n - j by omega] at this
    exact (pk_un (by omega)).trans this
theorem GR_shift {g : Nat → Int32} {e n : Nat} {R1 R2 : List Nat} (hl : R1.length + (R2.length + 1) = n) (h2 : ∀ j d, (e :: R2)[j]? = some d → g (R2.length + 1 - 1 - j) = nI d) (h1 : ∀ j d, R1[j]? = some d → g (n - j) = nI d) : (∀ j d, R2[j]? = some d → upd g (R2.length + 1) (g R2.length) (R2.length - 1 - j) = nI d) ∧ (∀ j d, (R1 ++ [e])[j]? = some d → upd g (R2.length + 1) (g R2.length) (n - j) = nI d) := by
  have e0 := h2 0 e (List.getElem?_cons_zero)
  rw [show R2.length + 1 - 1 - 0 = R2.length by omega] at e0
  refine ⟨fun j d q => ?_, fun j d q => ?_⟩
  · have := h2 (j + 1) d (by rw [List.getElem?_cons_succ]; exact q)
    rw [show R2.length + 1 - 1 - (j + 1) = R2.length - 1 - j by omega] at this
    exact (pk_un (by omega)).trans this
  · rcases Nat.lt_or_ge j R1.length with y | y
    · rw [List.getElem?_append_left y] at q
      exact (pk_un (by omega)).trans (h1 j d q)
    · have hj := (List.getElem?_eq_some_iff.mp q).1
      rw [List.length_append, List.length_singleton] at hj
      rw [List.getElem?_append_right y, show j - R1.length = 0 by omega, List.getElem?_cons_zero] at q
      obtain rfl : e = d := Option.some.inj q
      rw [show n - j = R2.length + 1 by omega, pk_us]
      exact e0
