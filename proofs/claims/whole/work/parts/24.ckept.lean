/-! copies, the ring of kept states -/
def cpD (v o : StV) (m e : Nat) : StV := s_wDU v (fun f i => if f < m ∧ i < e then s_du o f i else s_du v f i)
def cpR (v o : StV) (m n : Nat) : StV := s_wRO v (fun f i => if f < m ∧ i < n then s_ro o f i else s_ro v f i)
theorem cpD_du (v o : StV) (m e f i : Nat) : s_du (cpD v o m e) f i = if f < m ∧ i < e then s_du o f i else s_du v f i := rfl
theorem cpR_ro (v o : StV) (m e f i : Nat) : s_ro (cpR v o m e) f i = if f < m ∧ i < e then s_ro o f i else s_ro v f i := rfl
theorem rdu_du (v : StV) (f : Nat) (r : Nat → Int64) (a i : Nat) : s_du (s_rdu v f r) a i = if a = f then r i else s_du v a i := by
  show va_up (s_du v) f r a i = _
  by_cases h : a = f
  · subst h; rw [va_up_self, if_pos rfl]
  · rw [va_up_ne _ _ h, if_neg h]
theorem rro_ro (v : StV) (f : Nat) (r : Nat → Int64) (a i : Nat) : s_ro (s_rro v f r) a i = if a = f then r i else s_ro v a i := by
  show va_up (s_ro v) f r a i = _
  by_cases h : a = f
  · subst h; rw [va_up_self, if_pos rfl]
  · rw [va_up_ne _ _ h, if_neg h]
theorem cpD_step (v o : StV) (m e : Nat) : s_rdu (cpD v o m e) m (va_cpy (s_du o m) (s_du (cpD v o m e) m) 0 0 e) = cpD v o (m + 1) e := by
  refine st_ext rfl rfl rfl rfl rfl rfl (fun f i => ?_) (fun _ _ => rfl)
  rw [rdu_du, cpD_du, cpD_du]
  by_cases hf : f = m
  · subst hf
    rw [if_pos rfl]
    unfold va_cpy
    rw [cpD_du, if_neg (show ¬ (f < f ∧ i < e) by omega)]
    by_cases hi : i < e
    · rw [if_pos ⟨by omega, by omega⟩, if_pos ⟨by omega, hi⟩, show 0 + (i - 0) = i by omega]
    · rw [if_neg (by omega), if_neg (by omega)]
  · rw [if_neg hf]
    by_cases h : f < m ∧ i < e
    · rw [if_pos h, if_pos ⟨by omega, h.2⟩]
    · rw [if_neg h, if_neg (by omega)]
theorem cpR_step (v o : StV) (m e : Nat) : s_rro (cpR v o m e) m (va_cpy (s_ro o m) (s_ro (cpR v o m e) m) 0 0 e) = cpR v o (m + 1) e := by
  refine st_ext rfl rfl rfl rfl rfl rfl (fun _ _ => rfl) (fun f i => ?_)
  rw [rro_ro, cpR_ro, cpR_ro]
  by_cases hf : f = m
  · subst hf
    rw [if_pos rfl]
    unfold va_cpy
    rw [cpR_ro, if_neg (show ¬ (f < f ∧ i < e) by omega)]
    by_cases hi : i < e
    · rw [if_pos ⟨by omega, by omega⟩, if_pos ⟨by omega, hi⟩, show 0 + (i - 0) = i by omega]
    · rw [if_neg (by omega), if_neg (by omega)]
  · rw [if_neg hf]
    by_cases h : f < m ∧ i < e
    · rw [if_pos h, if_pos ⟨by omega, h.2⟩]
    · rw [if_neg h, if_neg (by omega)]
theorem cCopyR {o v0 : StV} {n : Nat} (hn : n ≤ 300) (en : s_rs v0 = nI n) {post : StV → Prop} (hp : post (cpR v0 o 3 n)) :
    ∀ m f, f + m = 3 → LX4_copyOf_85 o post (m + 1) (nI f) (cpR v0 o f n) := by
  intro m
  induction m with
  | zero =>
    intro f hf
    obtain rfl : f = 3 := by omega
    rw [LX4_copyOf_85]
    exact ⟨fun _ => hp, fun q => absurd (by decide) q⟩
  | succ m ih =>
    intro f hf
    have e1 : s_rs (cpR v0 o f n) = nI n := en
    rw [LX4_copyOf_85, nI_clamp (show f < 2 ^ 31 by omega), e1, nI_clamp (show n < 2 ^ 31 by omega)]
    refine ⟨fun q => absurd q ?_, fun _ => ⟨vp_in_nI (by omega) (by omega), vp_in_nI (by omega) (by omega), nI_pos (by omega), hn, ?_⟩⟩
    · rw [show (3 : Int32) = nI 3 from rfl, nI_leI (by omega) (by omega)]; omega
    · rintro _ rfl _ rfl
      rw [nI_1, cpR_step]
      exact ih (f + 1) (by omega)
theorem cCopyD {o v0 : StV} {e : Nat} (he : e ≤ 200) (ee : s_en v0 = nI e) {K : StV → Prop} {post : StV → Prop} (hp : K (cpD v0 o 12 e)) :
    ∀ m f, f + m = 12 → LX4_copyOf_50 o K post (m + 1) (nI f) (cpD v0 o f e) := by
  intro m
  induction m with
  | zero =>
    intro f hf
    obtain rfl : f = 12 := by omega
    rw [LX4_copyOf_50]
    exact ⟨fun _ => hp, fun q => absurd (by decide) q⟩
  | succ m ih =>
    intro f hf
    have e1 : s_en (cpD v0 o f e) = nI e := ee
    rw [LX4_copyOf_50, nI_clamp (show f < 2 ^ 31 by omega), e1, nI_clamp (show e < 2 ^ 31 by omega)]
    refine ⟨fun q => absurd q ?_, fun _ => ⟨vp_in_nI (by omega) (by omega), vp_in_nI (by omega) (by omega), nI_pos (by omega), he, ?_⟩⟩
    · rw [show (12 : Int32) = nI 12 from rfl, nI_leI (by omega) (by omega)]; omega
    · rintro _ rfl _ rfl
      rw [nI_1, cpD_step]
      exact ih (f + 1) (by omega)
theorem cp_0 (v o : StV) (e : Nat) : cpD v o 0 e = v := by
  refine st_ext rfl rfl rfl rfl rfl rfl (fun f i => ?_) (fun _ _ => rfl)
  rw [cpD_du, if_neg (by omega)]
theorem cpR_0 (v o : StV) (e : Nat) : cpR v o 0 e = v := by
  refine st_ext rfl rfl rfl rfl rfl rfl (fun _ _ => rfl) (fun f i => ?_)
  rw [cpR_ro, if_neg (by omega)]
theorem cp_CS {o T x : StV} (h : CS o T) {e n : Nat} (he : e ≤ 200) (hn : n ≤ 300) (ee : s_en o = nI e) (en : s_rs o = nI n) (h1 : s_tm x = s_tm o) (h2 : s_pl x = s_pl o) (h3 : s_go x = s_go o) (h4 : s_mv x = s_mv o) (h5 : s_en x = s_en o) (h6 : s_rs x = s_rs o) (h7 : ∀ f i, f < 12 → i < e → s_du x f i = s_du o f i) (h8 : ∀ f i, f < 3 → i < n → s_ro x f i = s_ro o f i) : CS x T := by
  obtain ⟨e', n', he', hn', ee', en', hN⟩ := id h.1
  have hee : e' = e := by rw [ee'] at ee; exact (nI_eq (by omega) (by omega)).mp ee
  have hnn : n' = n := by rw [en'] at en; exact (nI_eq (by omega) (by omega)).mp en
  subst hee; subst hnn
  refine ⟨⟨e', n', he, hn, h5.trans ee, h6.trans en, fun i hi q f hf => ?_⟩, ?_⟩
  · rw [h7 0 i (by omega) hi] at q
    rw [h7 f i (by omega) hi]
    exact hN i hi q f hf
  · refine st_ext (by rw [vC_tm, h1]; exact h.tm) (by rw [vC_pl, h2]; exact h.pl) (by rw [vC_go, h3]; exact h.go) (by rw [vC_mv, h4]; exact h.mv) (by rw [vC_en, ← h.2, vC_en]) (by rw [vC_rs, h6]; exact h.rs) (fun a i => ?_) (fun a i => ?_)
    · rw [vC_du, h.du]
      by_cases hi : i < e'
      · rw [rC_in (h5.trans ee) he hi, rC_in ee he hi]
        exact congrFun (nrm_congr (fun f hf => h7 f i hf hi)) a
      · rw [rC_out (h5.trans ee) he (by omega), rC_out ee he (by omega)]
    · rw [vC_ro, ← h.2, vC_ro, h6, en, nI_clamp (by omega)]
      unfold rwN
      by_cases q : a < 3 ∧ i < n'
      · rw [if_pos q, if_pos q, h8 a i q.1 q.2]
      · rw [if_neg q, if_neg q]
theorem cCopy {v o T : StV} (h : CS o T) {post : StV → Prop} (hp : ∀ v', CS v' T → post v') : PX4_copyOf v o post := by
  obtain ⟨e, n, he, hn, ee, en, hN⟩ := id h.1
  unfold PX4_copyOf
  simp only [forall_eq]
  obtain ⟨v0, ev0⟩ : ∃ z, z = s_wrs (s_wen (s_wmv (s_wgo (s_wpl (s_wtm v (s_tm o)) (s_pl o)) (s_go o)) (s_mv o)) (s_en o)) (s_rs o) := ⟨_, rfl⟩
  have a1 : s_tm v0 = s_tm o := by rw [ev0]; rfl
  have a2 : s_pl v0 = s_pl o := by rw [ev0]; rfl
  have a3 : s_go v0 = s_go o := by rw [ev0]; rfl
  have a4 : s_mv v0 = s_mv o := by rw [ev0]; rfl
  have a5 : s_en v0 = s_en o := by rw [ev0]; rfl
  have a6 : s_rs v0 = s_rs o := by rw [ev0]; rfl
  rw [← ev0]
  refine ⟨13, ?_⟩
  have hl := cCopyD (o := o) (v0 := v0) he (a5.trans ee) (K := fun v_14 => ∃ n_22, LX4_copyOf_85 o post n_22 0 v_14) (post := post) ⟨4, ?_⟩ 12 0 (by omega)
  · rw [cp_0] at hl
    exact hl
  · have hr := cCopyR (o := o) (v0 := cpD v0 o 12 e) hn (a6.trans en) (post := post) (hp _ (cp_CS h he hn ee en a1 a2 a3 a4 a5 a6 (fun f i hf hi => ?_) (fun f i hf hi => ?_))) 3 0 (by omega)
    · rw [cpR_0] at hr
      exact hr
    · show s_du (cpD v0 o 12 e) f i = _
      rw [cpD_du, if_pos ⟨hf, hi⟩]
    · rw [cpR_ro, if_pos ⟨hf, hi⟩]
/-- the class's state holds the abstract one: the state, and the kept ones, the latest first -/
def KI (st : Nat → StV) (kv : KvV) (cu : Nat) (Z : StV × List StV) : Prop :=
  ∃ a n : Nat, a < 6 ∧ n ≤ 6 ∧ k_la kv = nI a ∧ k_sz kv = nI n ∧ cu < 7 ∧ (∀ i, i < 6 → k_rg kv i < 7 ∧ k_rg kv i ≠ cu) ∧ (∀ i j, i < 6 → j < 6 → k_rg kv i = k_rg kv j → i = j) ∧ (∀ j, j < 7 → CI (st j)) ∧ CS (st cu) Z.1 ∧ Z.2.length = n ∧ ∀ i, i < n → Z.2[i]? = some (vC (st (k_rg kv ((a + 6 - i) % 6))))
def zKeep (Z : StV × List StV) : StV × List StV := (Z.1, (Z.1 :: Z.2).take 6)
theorem KI.cs {st : Nat → StV} {kv : KvV} {cu : Nat} {Z : StV × List StV} (h : KI st kv cu Z) : CS (st cu) Z.1 := by
  obtain ⟨a, n, -, -, -, -, -, -, -, -, h, -⟩ := h
  exact h
theorem KI.cu7 {st : Nat → StV} {kv : KvV} {cu : Nat} {Z : StV × List StV} (h : KI st kv cu Z) : cu < 7 := by
  obtain ⟨a, n, -, -, -, -, h, -⟩ := h
  exact h
theorem KI.upd {st : Nat → StV} {kv : KvV} {cu : Nat} {Z : StV × List StV} (h : KI st kv cu Z) {v T : StV} (hv : CS v T) : KI (va_up st cu v) kv cu (T, Z.2) := by
  obtain ⟨a, n, h1, h2, h3, h4, h5, h6, h7, h8, h9, h10, h11⟩ := h
  refine ⟨a, n, h1, h2, h3, h4, h5, h6, h7, fun j hj => ?_, ?_, h10, fun i hi => ?_⟩
  · by_cases q : j = cu
    · subst q; rw [va_up_self]; exact hv.1
    · rw [va_up_ne _ _ q]; exact h8 j hj
  · rw [va_up_self]; exact hv
  · rw [va_up_ne _ _ ((h6 _ (Nat.mod_lt _ (by omega))).2)]
    exact h11 i hi
theorem cKeep {st : Nat → StV} {kv : KvV} {cu : Nat} {Z : StV × List StV} (h : KI st kv cu Z) {post : (Nat → StV) → KvV → Prop} (hp : ∀ st' kv', KI st' kv' cu (zKeep Z) → post st' kv') : PX1_keep cu st kv post := by
  obtain ⟨a, n, h1, h2, h3, h4, h5, h6, h7, h8, h9, h10, h11⟩ := h
  unfold PX1_keep
  rintro _ rfl
  have ea : k_la kv + (1 : Int32) - (k_la kv + (1 : Int32)) / (6 : Int32) * (6 : Int32) = nI ((a + 1) % 6) := by
    rw [h3, nI_1, show (6 : Int32) = nI 6 from rfl]
    exact pk_rem (by omega) (by omega) (by omega)
  rw [ea]
  obtain ⟨b, hb⟩ : ∃ b, b = (a + 1) % 6 := ⟨_, rfl⟩
  have hb6 : b < 6 := by rw [hb]; exact Nat.mod_lt _ (by omega)
  rw [← hb]
  have e1 : k_la (k_wla kv (nI b)) = nI b := k_wla_k_la kv _
  have e2 : k_rg (k_wla kv (nI b)) = k_rg kv := k_wla_k_rg kv _
  have e3 : k_sz (k_wla kv (nI b)) = nI n := (k_wla_k_sz kv _).trans h4
  rw [e1, e2, nI_clamp (by omega)]
  refine ⟨vp_in_nI hb6 (by omega), (h6 b hb6).1, (h6 b hb6).2.symm, cCopy h9 (fun v' hv => ?_)⟩
  rintro _ rfl _ rfl
  rw [e3, nI_1]
  have e4 : (if (6 : Int32) < nI (n + 1) then (6 : Int32) else nI (n + 1)) = nI (min (n + 1) 6) := by
    rw [show (6 : Int32) = nI 6 from rfl]
    by_cases q : 6 < n + 1
    · rw [if_pos ((nI_ltI (by omega) (by omega)).mpr q), Nat.min_eq_right (by omega)]
    · rw [if_neg (fun z => q ((nI_ltI (by omega) (by omega)).mp z)), Nat.min_eq_left (by omega)]
  rw [e4]
  apply hp
  refine ⟨b, min (n + 1) 6, hb6, by omega, (k_wsz_k_la _ _).trans e1, k_wsz_k_sz _ _, h5, fun i hi => ?_, fun i j hi hj q => ?_, fun j hj => ?_, ?_, ?_, fun i hi => ?_⟩
  · rw [k_wsz_k_rg, e2]; exact h6 i hi
  · rw [k_wsz_k_rg, e2] at q; exact h7 i j hi hj q
  · by_cases q : j = k_rg kv b
    · rw [q, va_up_self]; exact hv.1
    · rw [va_up_ne _ _ q]; exact h8 j hj
  · rw [va_up_ne _ _ (h6 b hb6).2.symm]; exact h9
  · show ((Z.1 :: Z.2).take 6).length = _
    rw [List.length_take, List.length_cons, h10, Nat.min_comm]
  · show ((Z.1 :: Z.2).take 6)[i]? = _
    rw [List.getElem?_take_of_lt (by omega), k_wsz_k_rg, e2]
    cases i with
    | zero =>
      rw [List.getElem?_cons_zero, show (b + 6 - 0) % 6 = b by omega, va_up_self, hv.2]
    | succ i =>
      rw [List.getElem?_cons_succ, h11 i (by omega)]
      have e5 : (b + 6 - (i + 1)) % 6 = (a + 6 - i) % 6 := by omega
      have e6 : (a + 6 - i) % 6 ≠ b := by omega
      rw [e5, va_up_ne _ _ (fun q => e6 (h7 _ _ (Nat.mod_lt _ (by omega)) hb6 q))]
theorem cTakeBack {st : Nat → StV} {kv : KvV} {cu : Nat} {T : StV} {T1 : StV} {L : List StV} (h : KI st kv cu (T, T1 :: L)) {post : Nat → KvV → Prop} (hp : ∀ cu' kv', KI st kv' cu' (T1, L) → k_sz kv' = nI L.length → post cu' kv') : PX1_takeBack cu kv post := by
  obtain ⟨a, n, h1, h2, h3, h4, h5, h6, h7, h8, h9, h10, h11⟩ := h
  have hn : n = L.length + 1 := h10.symm
  unfold PX1_takeBack
  rw [h3, nI_clamp (by omega)]
  refine ⟨vp_in_nI h1 (by omega), (h6 a h1).1, vp_in_nI h1 (by omega), ?_⟩
  rintro _ rfl _ rfl _ rfl
  have e1 : k_la (k_wrg kv (va_up (k_rg kv) a cu)) = nI a := (k_wrg_k_la kv _).trans h3
  rw [e1]
  have ea : nI a + (6 : Int32) - (1 : Int32) - (nI a + (6 : Int32) - (1 : Int32)) / (6 : Int32) * (6 : Int32) = nI ((a + 5) % 6) := by
    rw [show (6 : Int32) = nI 6 from rfl, nI_add, nI_pred]
    exact pk_rem (by omega) (by omega) (by omega)
  rw [ea]
  obtain ⟨b, hb⟩ : ∃ b, b = (a + 5) % 6 := ⟨_, rfl⟩
  have hb6 : b < 6 := by rw [hb]; exact Nat.mod_lt _ (by omega)
  rw [← hb]
  have e3 : k_sz (k_wla (k_wrg kv (va_up (k_rg kv) a cu)) (nI b)) = nI n := by rw [k_wla_k_sz, k_wrg_k_sz]; exact h4
  rw [e3, hn, nI_pred]
  apply hp
  · refine ⟨b, L.length, hb6, by omega, by rw [k_wsz_k_la, k_wla_k_la], k_wsz_k_sz _ _, (h6 a h1).1, fun i hi => ?_, fun i j hi hj q => ?_, h8, ?_, rfl, fun i hi => ?_⟩
    · rw [k_wsz_k_rg, k_wla_k_rg, k_wrg_k_rg]
      by_cases q : i = a
      · rw [q, va_up_self]; exact ⟨h5, (h6 a h1).2.symm⟩
      · rw [va_up_ne _ _ q]; exact ⟨(h6 i hi).1, fun z => q (h7 i a hi h1 z)⟩
    · rw [k_wsz_k_rg, k_wla_k_rg, k_wrg_k_rg] at q
      by_cases qi : i = a
      · by_cases qj : j = a
        · omega
        · rw [qi, va_up_self, va_up_ne _ _ qj] at q
          exact absurd q.symm (h6 j hj).2
      · by_cases qj : j = a
        · rw [qj, va_up_self, va_up_ne _ _ qi] at q
          exact absurd q (h6 i hi).2
        · rw [va_up_ne _ _ qi, va_up_ne _ _ qj] at q
          exact h7 i j hi hj q
    · have := h11 0 (by omega)
      rw [show (a + 6 - 0) % 6 = a by omega] at this
      exact ⟨h8 _ (h6 a h1).1, (Option.some.inj this).symm⟩
    · have h12 := h11 (i + 1) (by omega)
      have h13 : (T1 :: L)[i + 1]? = L[i]? := List.getElem?_cons_succ
      have h14 : L[i]? = some (vC (st (k_rg kv ((a + 6 - (i + 1)) % 6)))) := h13.symm.trans h12
      have e5 : (b + 6 - i) % 6 = (a + 6 - (i + 1)) % 6 := by omega
      have e6 : (a + 6 - (i + 1)) % 6 ≠ a := by omega
      rw [k_wsz_k_rg, k_wla_k_rg, k_wrg_k_rg, e5, va_up_ne _ _ e6]
      exact h14
  · rw [k_wsz_k_sz]
