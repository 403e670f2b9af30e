/-! copies, the ring of kept states -/
def cpD (v o : StV) (m e : Nat) : StV := s_wDU v (fun f i => if f < m ∧ i < e then s_du o f i else s_du v f i)
def cpR (v o : StV) (m n : Nat) : StV := s_wRO v (fun f i => if f < m ∧ i < n then s_ro o f i else s_ro v f i)
theorem cpD_du (v o : StV) (m e f i : Nat) : s_du (cpD v o m e) f i = if f < m ∧ i < e then s_du o f i else s_du v f i := rfl
theorem cpR_ro (v o : StV) (m e f i : Nat) : s_ro (cpR v o m e) f i = if f < m ∧ i < e then s_ro o f i else s_ro v f i := rfl
theorem rdu_du (v : StV) (f : Nat) (r : Nat → Int64) (a i : Nat) : s_du (s_rdu v f r) a i = if a = f then r i else s_du v a i := by
  show va_up (s_du v) f r a i = _
  by_cases h : a = f
  · subst h; rw [va_up_self, if_pos rfl]
  · rw [va_up_ne _ _ h, if_neg h]
theorem rro_ro (v : StV) (f : Nat) (r : Nat → Int64) (a i : Nat) : s_ro (s_rro v f r) a i = if a = f then r i else s_ro v a i := by
  show va_up (s_ro v) f r a i = _
  by_cases h : a = f
  · subst h; rw [va_up_self, if_pos rfl]
  · rw [va_up_ne _ _ h, if_neg h]
theorem cpD_step (v o : StV) (m e : Nat) : s_rdu (cpD v o m e) m (va_cpy (s_du o m) (s_du (cpD v o m e) m) 0 0 e) = cpD v o (m + 1) e := by
  refine st_ext rfl rfl rfl rfl rfl rfl (fun f i => ?_) (fun _ _ => rfl)
  rw [rdu_du, cpD_du, cpD_du]
  by_cases hf : f = m
  · subst hf
    rw [if_pos rfl]
    unfold va_cpy
    rw [cpD_du, if_neg (show ¬ (f < f ∧ i < e) by omega)]
    by_cases hi : i < e
    · rw [if_pos ⟨by omega, by omega⟩, if_pos ⟨by omega, hi⟩, show 0 + (i - 0) = i by omega]
    · rw [if_neg (by omega), if_neg (by omega)]
  · rw [if_neg hf]
    by_cases h : f < m ∧ i < e
    · rw [if_pos h, if_pos ⟨by omega, h.2⟩]
    · rw [if_neg h, if_neg (by omega)]
theorem cpR_step (v o : StV) (m e : Nat) : s_rro (cpR v o m e) m (va_cpy (s_ro o m) (s_ro (cpR v o m e) m) 0 0 e) = cpR v o (m + 1) e := by
  refine st_ext rfl rfl rfl rfl rfl rfl (fun _ _ => rfl) (fun f i => ?_)
  rw [rro_ro, cpR_ro, cpR_ro]
  by_cases hf : f = m
  · subst hf
    rw [if_pos rfl]
    unfold va_cpy
    rw [cpR_ro, if_neg (show ¬ (f < f ∧ i < e) by omega)]
    by_cases hi : i < e
    · rw [if_pos ⟨by omega, by omega⟩, if_pos ⟨by omega, hi⟩, show 0 + (i - 0) = i by omega]
    · rw [if_neg (by omega), if_neg (by omega)]
  · rw [if_neg hf]
    by_cases h : f < m ∧ i < e
    · rw [if_pos h, if_pos ⟨by omega, h.2⟩]
    · rw [if_neg h, if_neg (by omega)]
theorem cCopyR {o v0 : StV} {n : Nat} (hn : n ≤ 300) (en : s_rs v0 = nI n) {post : StV → Prop} (hp : post (cpR v0 o 3 n)) :
    ∀ m f, f + m = 3 → LX4_copyOf_85 o post (m + 1) (nI f) (cpR v0 o f n) := by
  intro m
  induction m with
  | zero =>
    intro f hf
    obtain rfl : f = 3 := by omega
    rw [LX4_copyOf_85]
    exact ⟨fun _ => hp, fun q => absurd (by decide) q⟩
  | succ m ih =>
    intro f hf
    have e1 : s_rs (cpR v0 o f n) = nI n := en
    rw [LX4_copyOf_85, nI_clamp (show f < 2 ^ 31 by omega), e1, nI_clamp (show n < 2 ^ 31 by omega)]
    refine ⟨fun q => absurd q ?_, fun _ => ⟨vp_in_nI (by omega) (by omega), vp_in_nI (by omega) (by omega), nI_pos (by omega), hn, ?_⟩⟩
    · rw [show (3 : Int32) = nI 3 from rfl, nI_leI (by omega) (by omega)]; omega
    · rintro _ rfl _ rfl
      rw [nI_1, cpR_step]
      exact ih (f + 1) (by omega)
theorem cCopyD {o v0 : StV} {e : Nat} (he : e ≤ 200) (ee : s_en v0 = nI e) {K : StV → Prop} {post : StV → Prop} (hp : K (cpD v0 o 12 e)) :
    ∀ m f, f + m = 12 → LX4_copyOf_50 o K post (m + 1) (nI f) (cpD v0 o f e) := by
  intro m
  induction m with
  | zero =>
    intro f hf
    obtain rfl : f = 12 := by omega
    rw [LX4_copyOf_50]
    exact ⟨fun _ => hp, fun q => absurd (by decide) q⟩
  | succ m ih =>
    intro f hf
    have e1 : s_en (cpD v0 o f e) = nI e := ee
    rw [LX4_copyOf_50, nI_clamp (show f < 2 ^ 31 by omega), e1, nI_clamp (show e < 2 ^ 31 by omega)]
    refine ⟨fun q => absurd q ?_, fun _ => ⟨vp_in_nI (by omega) (by omega), vp_in_nI (by omega) (by omega), nI_pos (by omega), he, ?_⟩⟩
    · rw [show (12 : Int32) = nI 12 from rfl, nI_leI (by omega) (by omega)]; omega
    · rintro _ rfl _ rfl
      rw [nI_1, cpD_step]
      exact ih (f + 1) (by omega)
theorem cp_0 (v o : StV) (e : Nat) : cpD v o 0 e = v := by
  refine st_ext rfl rfl rfl rfl rfl rfl (fun f i => ?_) (fun _ _ => rfl)
  rw [cpD_du, if_neg (by omega)]
theorem cpR_0 (v o : StV) (e : Nat) : cpR v o 0 e = v := by
  refine st_ext rfl rfl rfl rfl rfl rfl (fun _ _ => rfl) (fun f i => ?_)
  rw [cpR_ro, if_neg (by omega)]
theorem cp_CS {o T x : StV} (h : CS o T) {e n : Nat} (he : e ≤ 200) (hn : n ≤ 300) (ee : s_en o = nI e) (en : s_rs o = nI n) (h1 : s_tm x = s_tm o) (h2 : s_pl x = s_pl o) (h3 : s_go x = s_go o) (h4 : s_mv x = s_mv o) (h5 : s_en x = s_en o) (h6 : s_rs x = s_rs o) (h7 : ∀ f i, f < 12 → i < e → s_du x f i = s_du o f i) (h8 : ∀ f i, f < 3 → i < n → s_ro x f i = s_ro o f i) : CS x T := by
  obtain ⟨e', n', he', hn', ee', en', hN⟩ := id h.1
  have hee : e' = e := by rw [ee'] at ee; exact (nI_eq (by omega) (by omega)).mp ee
  have hnn : n' = n := by rw [en'] at en; exact (nI_eq (by omega) (by omega)).mp en
  subst hee; subst hnn
  refine ⟨⟨e', n', he, hn, h5.trans ee, h6.trans en, fun i hi q f hf => ?_⟩, ?_⟩
  · rw [h7 0 i (by omega) hi] at q
    rw [h7 f i (by omega) hi]
    exact hN i hi q f hf
  · refine st_ext (by rw [vC_tm, h1]; exact h.tm) (by rw [vC_pl, h2]; exact h.pl) (by rw [vC_go, h3]; exact h.go) (by rw [vC_mv, h4]; exact h.mv) (by rw [vC_en, ← h.2, vC_en]) (by rw [vC_rs, h6]; exact h.rs) (fun a i => ?_) (fun a i => ?_)
    · rw [vC_du, h.du]
      by_cases hi : i < e'
      · rw [rC_in (h5.trans ee) he hi, rC_in ee he hi]
        exact congrFun (nrm_congr (fun f hf => h7 f i hf hi)) a
      · rw [rC_out (h5.trans ee) he (by omega), rC_out ee he (by omega)]
    · rw [vC_ro, ← h.2, vC_ro, h6, en, nI_clamp (by omega)]
      unfold rwN
      by_cases q : a < 3 ∧ i < n'
      · rw [if_pos q, if_pos q, h8 a i q.1 q.2]
      · rw [if_neg q, if_neg q]
theorem cCopy {v o T : StV} (h : CS o T) {post : StV → Prop} (hp : ∀ v', CS v' T → post v') : PX4_copyOf v o post := by
  obtain ⟨e, n, he, hn, ee, en, hN⟩ := id h.1
  unfold PX4_copyOf
  simp only [forall_eq]
  obtain ⟨v0, ev0⟩ : ∃ z, z = s_wrs (s_wen (s_wmv (s_wgo (s_wpl (s_wtm v (s_tm o)) (s_pl o)) (s_go o)) (s_mv o)) (s_en o)) (s_rs o) := ⟨_, rfl⟩
  have a1 : s_tm v0 = s_tm o := by rw [ev0]; rfl
  have a2 : s_pl v0 = s_pl o := by rw [ev0]; rfl
  have a3 : s_go v0 = s_go o := by rw [ev0]; rfl
  have a4 : s_mv v0 = s_mv o := by rw [ev0]; rfl
  have a5 : s_en v0 = s_en o := by rw [ev0]; rfl
  have a6 : s_rs v0 = s_rs o := by rw [ev0]; rfl
  rw [← ev0]
  refine ⟨13, ?_⟩
  have hl := cCopyD (o := o) (v0 := v0) he (a5.trans ee) (K := fun v_14 => ∃ n_22, LX4_copyOf_85 o post n_22 0 v_14) (post := post) ⟨4, ?_⟩ 12 0 (by omega)
  · rw [cp_0] at hl
    exact hl
  · have hr := cCopyR (o := o) (v0 := cpD v0 o 12 e) hn (a6.trans en) (post := post) (hp _ (cp_CS h he hn ee en a1 a2 a3 a4 a5 a6 (fun f i hf hi => ?_) (fun f i hf hi => ?_))) 3 0 (by omega)
    · rw [cpR_0] at hr
      exact hr
    · show s_du (cpD v0 o 12 e) f i = _
      rw [cpD_du, if_pos ⟨hf, hi⟩]
    · rw [cpR_ro, if_pos ⟨hf, hi⟩]
/-- nothing has been done yet -/
def T0 : StV := (0, 0, 0, 0, 0, 0, fun _ _ => (-2000000005 : Int64), fun _ _ => 0)
theorem st0_CS (j : Nat) : CS (st0 j) T0 := by
  refine ⟨⟨0, 0, by omega, by omega, rfl, rfl, fun i hi => absurd hi (Nat.not_lt_zero _)⟩, ?_⟩
  refine st_ext rfl rfl rfl rfl rfl rfl (fun f i => ?_) (fun f i => ?_)
  · rw [vC_du, rC_out (e := 0) rfl (by omega) (Nat.zero_le _)]
    rfl
  · show rwN _ (0 : Int32).toNatClampNeg f i = 0
    unfold rwN
    rw [if_neg (fun z => absurd z.2 (Nat.not_lt_zero _))]
/-- how many places of the ring hold a state -/
def nN1 (r : Nat → Nat) (i : Nat) : Nat := if r i < 7 then 1 else 0
def nN (r : Nat → Nat) : Nat := nN1 r 0 + nN1 r 1 + nN1 r 2 + nN1 r 3 + nN1 r 4 + nN1 r 5
theorem nN1_le (r : Nat → Nat) (i : Nat) : nN1 r i ≤ 1 := by
  unfold nN1
  split <;> omega
theorem nN1_no {r : Nat → Nat} {i : Nat} (h : ¬ r i < 7) : nN1 r i = 0 := if_neg h
theorem nN1_yes {r : Nat → Nat} {i : Nat} (h : r i < 7) : nN1 r i = 1 := if_pos h
theorem nN1_up {r : Nat → Nat} {b x i : Nat} (h : i ≠ b) : nN1 (va_up r b x) i = nN1 r i := by
  unfold nN1
  rw [va_up_ne _ _ h]
theorem nN1_at {r : Nat → Nat} {b x : Nat} (h : x < 7) : nN1 (va_up r b x) b = 1 := by
  unfold nN1
  rw [va_up_self, if_pos h]
theorem nN_le (r : Nat → Nat) : nN r ≤ 6 := by
  unfold nN
  have h0 := nN1_le r 0
  have h1 := nN1_le r 1
  have h2 := nN1_le r 2
  have h3 := nN1_le r 3
  have h4 := nN1_le r 4
  have h5 := nN1_le r 5
  omega
theorem nN_up {r : Nat → Nat} {b x : Nat} (hb : b < 6) (hx : x < 7) : nN (va_up r b x) + nN1 r b = nN r + 1 := by
  unfold nN
  rcases (show b = 0 ∨ b = 1 ∨ b = 2 ∨ b = 3 ∨ b = 4 ∨ b = 5 by omega) with rfl | rfl | rfl | rfl | rfl | rfl
  · rw [nN1_at hx, nN1_up (by decide), nN1_up (by decide), nN1_up (by decide), nN1_up (by decide), nN1_up (by decide)]; omega
  · rw [nN1_at hx, nN1_up (by decide), nN1_up (by decide), nN1_up (by decide), nN1_up (by decide), nN1_up (by decide)]; omega
  · rw [nN1_at hx, nN1_up (by decide), nN1_up (by decide), nN1_up (by decide), nN1_up (by decide), nN1_up (by decide)]; omega
  · rw [nN1_at hx, nN1_up (by decide), nN1_up (by decide), nN1_up (by decide), nN1_up (by decide), nN1_up (by decide)]; omega
  · rw [nN1_at hx, nN1_up (by decide), nN1_up (by decide), nN1_up (by decide), nN1_up (by decide), nN1_up (by decide)]; omega
  · rw [nN1_at hx, nN1_up (by decide), nN1_up (by decide), nN1_up (by decide), nN1_up (by decide), nN1_up (by decide)]; omega
theorem nN_lt {r : Nat → Nat} {b : Nat} (hb : b < 6) (h : ¬ r b < 7) : nN r < 6 := by
  have h1 := nN_up (r := r) (x := 0) hb (by omega)
  rw [nN1_no h] at h1
  have h2 := nN_le (va_up r b 0)
  omega
/-- the ring's places and the state that stands: apart, and every one well made -/
def RGI (st : Nat → StV) (kv : KvV) (cu : Nat) : Prop := cu < k_ns kv ∧ k_ns kv = nN (k_rg kv) + 1 ∧ (∀ i, i < 6 → k_rg kv i < 7 → k_rg kv i < k_ns kv ∧ k_rg kv i ≠ cu) ∧ (∀ i j, i < 6 → j < 6 → k_rg kv i < 7 → k_rg kv i = k_rg kv j → i = j) ∧ ∀ j, j < k_ns kv → CI (st j)
/-- the class's state holds the abstract one: the state, and the kept ones, the latest first -/
def KI (st : Nat → StV) (kv : KvV) (cu : Nat) (Z : StV × List StV) : Prop :=
  ∃ a n : Nat, a < 6 ∧ n ≤ 6 ∧ k_la kv = nI a ∧ k_sz kv = nI n ∧ RGI st kv cu ∧ CS (st cu) Z.1 ∧ Z.2.length = n ∧ ∀ i, i < n → k_rg kv ((a + 6 - i) % 6) < 7 ∧ Z.2[i]? = some (vC (st (k_rg kv ((a + 6 - i) % 6))))
def zKeep (Z : StV × List StV) : StV × List StV := (Z.1, (Z.1 :: Z.2).take 6)
theorem KI.cs {st : Nat → StV} {kv : KvV} {cu : Nat} {Z : StV × List StV} (h : KI st kv cu Z) : CS (st cu) Z.1 := by
  obtain ⟨a, n, -, -, -, -, -, h, -⟩ := h
  exact h
theorem KI.cu7 {st : Nat → StV} {kv : KvV} {cu : Nat} {Z : StV × List StV} (h : KI st kv cu Z) : cu < k_ns kv := by
  obtain ⟨a, n, -, -, -, -, h, -⟩ := h
  exact h.1
theorem KI.upd {st : Nat → StV} {kv : KvV} {cu : Nat} {Z : StV × List StV} (h : KI st kv cu Z) {v T : StV} (hv : CS v T) : KI (va_up st cu v) kv cu (T, Z.2) := by
  obtain ⟨a, n, h1, h2, h3, h4, ⟨r1, r2, r3, r4, r5⟩, h9, h10, h11⟩ := h
  refine ⟨a, n, h1, h2, h3, h4, ⟨r1, r2, r3, r4, fun j hj => ?_⟩, ?_, h10, fun i hi => ?_⟩
  · by_cases q : j = cu
    · subst q; rw [va_up_self]; exact hv.1
    · rw [va_up_ne _ _ q]; exact r5 j hj
  · rw [va_up_self]; exact hv
  · obtain ⟨h12, h13⟩ := h11 i hi
    refine ⟨h12, ?_⟩
    rw [va_up_ne _ _ ((r3 _ (Nat.mod_lt _ (by omega)) h12).2)]
    exact h13
/-- keep, once the ring holds a state at its latest place -/
theorem cKeepR {st : Nat → StV} {kv : KvV} {cu : Nat} {Z : StV × List StV} {b n : Nat} (hb6 : b < 6) (h2 : n ≤ 6) (e1 : k_la kv = nI b) (e3 : k_sz kv = nI n) (hb7 : k_rg kv b < 7) (hR : RGI st kv cu) (h9 : CS (st cu) Z.1) (h10 : Z.2.length = n) (h11 : ∀ i, i < n → i < 5 → k_rg kv ((b + 5 - i) % 6) < 7 ∧ Z.2[i]? = some (vC (st (k_rg kv ((b + 5 - i) % 6))))) {post : (Nat → StV) → KvV → Prop} (hp : ∀ st' kv', KI st' kv' cu (zKeep Z) → post st' kv') : RX1_keep cu st kv post := by
  obtain ⟨r1, r2, r3, r4, r5⟩ := hR
  unfold RX1_keep
  rw [e1, nI_clamp (by omega)]
  refine ⟨vp_in_nI hb6 (by omega), (r3 b hb6 hb7).1, hb7, (r3 b hb6 hb7).2.symm, cCopy h9 (fun v' hv => ?_)⟩
  rintro _ rfl _ rfl
  rw [e3, nI_1]
  have e4 : (if (6 : Int32) < nI (n + 1) then (6 : Int32) else nI (n + 1)) = nI (min (n + 1) 6) := by
    rw [show (6 : Int32) = nI 6 from rfl]
    by_cases q : 6 < n + 1
    · rw [if_pos ((nI_ltI (by omega) (by omega)).mpr q), Nat.min_eq_right (by omega)]
    · rw [if_neg (fun z => q ((nI_ltI (by omega) (by omega)).mp z)), Nat.min_eq_left (by omega)]
  rw [e4]
  apply hp
  refine ⟨b, min (n + 1) 6, hb6, by omega, (k_wsz_k_la _ _).trans e1, k_wsz_k_sz _ _, ⟨r1, r2, r3, r4, fun j hj => ?_⟩, ?_, ?_, fun i hi => ?_⟩
  · by_cases q : j = k_rg kv b
    · rw [q, va_up_self]; exact hv.1
    · rw [va_up_ne _ _ q]; exact r5 j hj
  · rw [va_up_ne _ _ (r3 b hb6 hb7).2.symm]; exact h9
  · show ((Z.1 :: Z.2).take 6).length = _
    rw [List.length_take, List.length_cons, h10, Nat.min_comm]
  · show k_rg kv ((b + 6 - i) % 6) < 7 ∧ ((Z.1 :: Z.2).take 6)[i]? = some (vC (va_up st (k_rg kv b) v' (k_rg kv ((b + 6 - i) % 6))))
    rw [List.getElem?_take_of_lt (by omega)]
    cases i with
    | zero =>
      rw [List.getElem?_cons_zero, show (b + 6 - 0) % 6 = b by omega, va_up_self, hv.2]
      exact ⟨hb7, rfl⟩
    | succ i =>
      obtain ⟨h12, h13⟩ := h11 i (by omega) (by omega)
      have e5 : (b + 6 - (i + 1)) % 6 = (b + 5 - i) % 6 := by omega
      have e6 : (b + 5 - i) % 6 ≠ b := by omega
      rw [List.getElem?_cons_succ, h13, e5, va_up_ne _ _ (fun q => e6 (r4 _ _ (Nat.mod_lt _ (by omega)) hb6 h12 q))]
      exact ⟨h12, rfl⟩
theorem cKeep {st : Nat → StV} {kv : KvV} {cu : Nat} {Z : StV × List StV} (h : KI st kv cu Z) {post : (Nat → StV) → KvV → Prop} (hp : ∀ st' kv', KI st' kv' cu (zKeep Z) → post st' kv') : PX1_keep cu st kv post := by
  obtain ⟨a, n, h1, h2, h3, h4, hR, h9, h10, h11⟩ := h
  unfold PX1_keep
  intro kv_1 ekv
  have ea : k_la kv + (1 : Int32) - (k_la kv + (1 : Int32)) / (6 : Int32) * (6 : Int32) = nI ((a + 1) % 6) := by
    rw [h3, nI_1, show (6 : Int32) = nI 6 from rfl]
    exact pk_rem (by omega) (by omega) (by omega)
  rw [ea] at ekv
  obtain ⟨b, hb⟩ : ∃ b, b = (a + 1) % 6 := ⟨_, rfl⟩
  have hb6 : b < 6 := by rw [hb]; exact Nat.mod_lt _ (by omega)
  rw [← hb] at ekv
  have e1 : k_la kv_1 = nI b := by rw [ekv]; rfl
  have e2 : k_rg kv_1 = k_rg kv := by rw [ekv]; rfl
  have e3 : k_sz kv_1 = nI n := by rw [ekv]; exact h4
  have e4 : k_ns kv_1 = k_ns kv := by rw [ekv]; rfl
  have hR1 : RGI st kv_1 cu := by
    unfold RGI
    rw [e2, e4]
    exact hR
  have h12 : ∀ i, i < n → i < 5 → k_rg kv_1 ((b + 5 - i) % 6) < 7 ∧ Z.2[i]? = some (vC (st (k_rg kv_1 ((b + 5 - i) % 6)))) := fun i hi h5 => by
    rw [e2, show (b + 5 - i) % 6 = (a + 6 - i) % 6 by omega]
    exact h11 i hi
  clear h11 hR ekv e2 e4 h3 h4
  obtain ⟨r1, r2, r3, r4, r5⟩ := id hR1
  rw [e1, nI_clamp (by omega)]
  refine ⟨vp_in_nI hb6 (by omega), fun h7 => ?_, fun h7 => cKeepR hb6 h2 e1 e3 h7 hR1 h9 h10 h12 hp⟩
  have hn7 : k_ns kv_1 < 7 := by
    have := nN_lt hb6 h7
    omega
  refine ⟨hn7, fun i hi q => (r3 i hi q).1, ?_⟩
  intro kv_2 ekv
  obtain ⟨ns, ens⟩ : ∃ z, z = k_ns kv_1 := ⟨_, rfl⟩
  rw [← ens] at ekv hn7 r1 r2 r3 r5 ⊢
  have f1 : k_la kv_2 = nI b := by rw [ekv]; exact e1
  have f2 : k_rg kv_2 = va_up (k_rg kv_1) b ns := by rw [ekv]; rfl
  have f3 : k_sz kv_2 = nI n := by rw [ekv]; exact e3
  have f4 : k_ns kv_2 = ns + 1 := by rw [ekv]; rfl
  have hcn : cu ≠ ns := by omega
  refine cKeepR hb6 h2 f1 f3 (by rw [f2, va_up_self]; exact hn7) ⟨by rw [f4]; omega, ?_, fun i hi q => ?_, fun i j hi hj q e => ?_, fun j hj => ?_⟩ (by rw [va_up_ne _ _ hcn]; exact h9) h10 (fun i hi h5 => ?_) hp
  · rw [f4, f2]
    have := nN_up (r := k_rg kv_1) hb6 hn7
    rw [nN1_no h7] at this
    omega
  · rw [f2] at q ⊢
    rw [f4]
    by_cases z : i = b
    · rw [z, va_up_self]; exact ⟨by omega, fun w => hcn w.symm⟩
    · rw [va_up_ne _ _ z] at q ⊢
      have := r3 i hi q
      exact ⟨by omega, this.2⟩
  · rw [f2] at q e
    by_cases zi : i = b <;> by_cases zj : j = b
    · omega
    · rw [zi, va_up_self, va_up_ne _ _ zj] at e
      have := (r3 j hj (by omega)).1
      omega
    · rw [zj, va_up_self, va_up_ne _ _ zi] at e
      rw [va_up_ne _ _ zi] at q
      have := (r3 i hi q).1
      omega
    · rw [va_up_ne _ _ zi] at q
      rw [va_up_ne _ _ zi, va_up_ne _ _ zj] at e
      exact r4 i j hi hj q e
  · rw [f4] at hj
    by_cases z : j = ns
    · rw [z, va_up_self]; exact (st0_CS ns).1
    · rw [va_up_ne _ _ z]; exact r5 j (by omega)
  · obtain ⟨g1, g2⟩ := h12 i hi h5
    have e6 : (b + 5 - i) % 6 ≠ b := by omega
    have g3 := (r3 _ (Nat.mod_lt _ (by omega)) g1).1
    rw [f2, va_up_ne _ _ e6, va_up_ne _ _ (by omega)]
    exact ⟨g1, g2⟩
theorem cTakeBack {st : Nat → StV} {kv : KvV} {cu : Nat} {T : StV} {T1 : StV} {L : List StV} (h : KI st kv cu (T, T1 :: L)) {post : Nat → KvV → Prop} (hp : ∀ cu' kv', KI st kv' cu' (T1, L) → k_sz kv' = nI L.length → post cu' kv') : PX1_takeBack cu kv post := by
  obtain ⟨a, n, h1, h2, h3, h4, ⟨r1, r2, r3, r4, r5⟩, h9, h10, h11⟩ := h
  have hn : n = L.length + 1 := h10.symm
  have ha7 : k_rg kv a < 7 := by
    have := (h11 0 (by omega)).1
    rwa [show (a + 6 - 0) % 6 = a by omega] at this
  have hc7 : cu < 7 := by
    have := nN_le (k_rg kv)
    omega
  unfold PX1_takeBack
  rw [h3, nI_clamp (by omega)]
  refine ⟨vp_in_nI h1 (by omega), fun q => absurd ha7 q, fun _ => ⟨hc7, ?_⟩⟩
  rintro _ rfl _ rfl _ rfl
  have e1 : k_la (k_wrg kv (va_up (k_rg kv) a cu)) = nI a := (k_wrg_k_la kv _).trans h3
  rw [e1]
  have ea : nI a + (6 : Int32) - (1 : Int32) - (nI a + (6 : Int32) - (1 : Int32)) / (6 : Int32) * (6 : Int32) = nI ((a + 5) % 6) := by
    rw [show (6 : Int32) = nI 6 from rfl, nI_add, nI_pred]
    exact pk_rem (by omega) (by omega) (by omega)
  rw [ea]
  obtain ⟨b, hb⟩ : ∃ b, b = (a + 5) % 6 := ⟨_, rfl⟩
  have hb6 : b < 6 := by rw [hb]; exact Nat.mod_lt _ (by omega)
  rw [← hb]
  have e3 : k_sz (k_wla (k_wrg kv (va_up (k_rg kv) a cu)) (nI b)) = nI n := by rw [k_wla_k_sz, k_wrg_k_sz]; exact h4
  rw [e3, hn, nI_pred]
  obtain ⟨kv', ekv⟩ : ∃ z, z = k_wsz (k_wla (k_wrg kv (va_up (k_rg kv) a cu)) (nI b)) (nI L.length) := ⟨_, rfl⟩
  have f1 : k_la kv' = nI b := by rw [ekv]; rfl
  have f2 : k_rg kv' = va_up (k_rg kv) a cu := by rw [ekv]; rfl
  have f3 : k_sz kv' = nI L.length := by rw [ekv]; rfl
  have f4 : k_ns kv' = k_ns kv := by rw [ekv]; rfl
  rw [← ekv]
  refine hp _ _ ?_ f3
  refine ⟨b, L.length, hb6, by omega, f1, f3, ⟨by rw [f4]; exact (r3 a h1 ha7).1, ?_, fun i hi q => ?_, fun i j hi hj q e => ?_, by rw [f4]; exact r5⟩, ?_, rfl, fun i hi => ?_⟩
  · rw [f4, f2, r2]
    have := nN_up (r := k_rg kv) h1 hc7
    rw [nN1_yes ha7] at this
    omega
  · rw [f2] at q ⊢
    rw [f4]
    by_cases z : i = a
    · rw [z, va_up_self]; exact ⟨r1, (r3 a h1 ha7).2.symm⟩
    · rw [va_up_ne _ _ z] at q ⊢
      exact ⟨(r3 i hi q).1, fun w => z (r4 i a hi h1 q w)⟩
  · rw [f2] at q e
    by_cases zi : i = a <;> by_cases zj : j = a
    · omega
    · rw [zi, va_up_self, va_up_ne _ _ zj] at e
      exact absurd e.symm (r3 j hj (by omega)).2
    · rw [va_up_ne _ _ zi] at q
      rw [zj, va_up_self, va_up_ne _ _ zi] at e
      exact absurd e (r3 i hi q).2
    · rw [va_up_ne _ _ zi] at q
      rw [va_up_ne _ _ zi, va_up_ne _ _ zj] at e
      exact r4 i j hi hj q e
  · have := (h11 0 (by omega)).2
    rw [show (a + 6 - 0) % 6 = a by omega] at this
    exact ⟨r5 _ (r3 a h1 ha7).1, (Option.some.inj this).symm⟩
  · obtain ⟨h12, h13⟩ := h11 (i + 1) (by omega)
    have h14 : (T1 :: L)[i + 1]? = L[i]? := List.getElem?_cons_succ
    have h15 : L[i]? = some (vC (st (k_rg kv ((a + 6 - (i + 1)) % 6)))) := h14.symm.trans h13
    have e5 : (b + 6 - i) % 6 = (a + 6 - (i + 1)) % 6 := by omega
    have e6 : (a + 6 - (i + 1)) % 6 ≠ a := by omega
    rw [f2, e5, va_up_ne _ _ e6]
    exact ⟨h12, h15⟩
