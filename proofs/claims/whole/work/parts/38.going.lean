/-! one goes: the row, who waits, once more or no more; both sides -/
def aRow (T : StV) (k : Nat) : StV := s_wgo (s_wrs (s_wRO T (fun f i => if i = (s_rs T).toNatClampNeg ∧ f < 3 then (if f = 0 then lN k else if f = 1 then s_tm T else s_du T 1 k) else s_ro T f i)) (s_rs T + 1)) (s_go T + 1)
theorem aRow_tm (T : StV) (k : Nat) : s_tm (aRow T k) = s_tm T := rfl
theorem aRow_pl (T : StV) (k : Nat) : s_pl (aRow T k) = s_pl T := rfl
theorem aRow_mv (T : StV) (k : Nat) : s_mv (aRow T k) = s_mv T := rfl
theorem aRow_en (T : StV) (k : Nat) : s_en (aRow T k) = s_en T := rfl
theorem aRow_rs (T : StV) (k : Nat) : s_rs (aRow T k) = s_rs T + 1 := rfl
theorem aRow_go (T : StV) (k : Nat) : s_go (aRow T k) = s_go T + 1 := rfl
theorem aRow_du (T : StV) (k : Nat) : s_du (aRow T k) = s_du T := rfl
theorem aRow_ro (T : StV) (k f i : Nat) : s_ro (aRow T k) f i = if i = (s_rs T).toNatClampNeg ∧ f < 3 then (if f = 0 then lN k else if f = 1 then s_tm T else s_du T 1 k) else s_ro T f i := rfl
def rowC (v : StV) (a b c : Int64) (n : Nat) : StV := s_wro (s_wro (s_wro v 0 n a) 1 n b) 2 n c
theorem rowC_ro (v : StV) (a b c : Int64) (n f i : Nat) : s_ro (rowC v a b c n) f i = if f = 2 ∧ i = n then c else if f = 1 ∧ i = n then b else if f = 0 ∧ i = n then a else s_ro v f i := by
  unfold rowC
  rw [ro_wro, ro_wro, ro_wro]
theorem cRow {v T : StV} (h : CS v T) {n : Nat} (hn : n < 300) (en : s_rs T = nI n) {k : Nat} : CS (s_wgo (s_wrs (rowC v (lN k) (s_tm T) (s_du T 1 k) n) (nI (n + 1))) (s_go T + 1)) (aRow T k) := by
  obtain ⟨e, n', he, hn', ee, en', hN⟩ := id h.1
  have hnn : n' = n := by
    have := h.rs
    rw [en', en] at this
    exact (nI_eq (by omega) (by omega)).mp this
  subst hnn
  refine ⟨⟨e, n' + 1, he, by omega, ee, rfl, hN⟩, ?_⟩
  refine st_ext h.tm h.pl rfl h.mv (by rw [aRow_en, ← h.2]; rfl) ?_ (fun f i => ?_) (fun f i => ?_)
  · rw [aRow_rs, en, nI_1]; rfl
  · rw [aRow_du, h.du f i]; rfl
  · rw [aRow_ro, vC_ro, en, nI_clamp (show n' < 2 ^ 31 by omega)]
    have hr : s_ro T f i = rwN (s_ro v) n' f i := by rw [← h.2, vC_ro, en', nI_clamp (by omega)]
    rw [hr, s_wgo_s_rs, s_wrs_s_rs, nI_clamp (by omega), s_wgo_s_ro, s_wrs_s_ro]
    unfold rwN
    rw [rowC_ro]
    by_cases hi : i = n'
    · by_cases hf : f < 3
      · rw [if_pos (show f < 3 ∧ i < n' + 1 from ⟨hf, by omega⟩), if_pos (show i = n' ∧ f < 3 from ⟨hi, hf⟩)]
        rcases (show f = 0 ∨ f = 1 ∨ f = 2 by omega) with rfl | rfl | rfl
        · rw [if_neg (by omega), if_neg (by omega), if_pos ⟨rfl, hi⟩, if_pos rfl]
        · rw [if_neg (by omega), if_pos ⟨rfl, hi⟩, if_neg (by omega), if_pos rfl]
        · rw [if_pos ⟨rfl, hi⟩, if_neg (by omega), if_neg (by omega)]
      · rw [if_neg (by omega), if_neg (by omega), if_neg (by omega)]
    · rw [if_neg (show ¬ (f = 2 ∧ i = n') by omega), if_neg (show ¬ (f = 1 ∧ i = n') by omega), if_neg (show ¬ (f = 0 ∧ i = n') by omega), if_neg (show ¬ (i = n' ∧ f < 3) by omega)]
      by_cases q : f < 3 ∧ i < n'
      · rw [if_pos q, if_pos ⟨q.1, by omega⟩]
      · rw [if_neg q, if_neg (by omega)]
theorem mRow {s : Nat → Int64} {T : StV} (h : MS s T) {n : Nat} (hn : n < 300) (en : s 3702 = lN n) {k : Nat} : MS (vp_updL (vp_updL (vp_updL (vp_updL (vp_updL s (2800 + 3 * n) (lN k)) (2800 + 3 * n + 1) (s_tm T)) (2800 + 3 * n + 2) (s_du T 1 k)) 3702 (lN (n + 1))) 3703 (s 3703 + 1)) (aRow T k) := by
  obtain ⟨-, h2⟩ := id h.1
  obtain ⟨s', es⟩ : ∃ z, z = vp_updL (vp_updL (vp_updL (vp_updL (vp_updL s (2800 + 3 * n) (lN k)) (2800 + 3 * n + 1) (s_tm T)) (2800 + 3 * n + 2) (s_du T 1 k)) 3702 (lN (n + 1))) 3703 (s 3703 + 1) := ⟨_, rfl⟩
  rw [← es]
  have lo : ∀ j, j < 2800 + 3 * n ∨ (2800 + 3 * n + 2 < j ∧ j ≠ 3702 ∧ j ≠ 3703) → s' j = s j := fun j hj => by rw [es, updL_ne (by omega), updL_ne (by omega), updL_ne (by omega), updL_ne (by omega), updL_ne (by omega)]
  have r0 : s' (2800 + 3 * n) = lN k := by rw [es, updL_ne (by omega), updL_ne (by omega), updL_ne (by omega), updL_ne (by omega), updL_at]
  have r1 : s' (2800 + 3 * n + 1) = s_tm T := by rw [es, updL_ne (by omega), updL_ne (by omega), updL_ne (by omega), updL_at]
  have r2 : s' (2800 + 3 * n + 2) = s_du T 1 k := by rw [es, updL_ne (by omega), updL_ne (by omega), updL_at]
  have c1 : s' 3702 = lN (n + 1) := by rw [es, updL_ne (by omega), updL_at]
  have c2 : s' 3703 = s 3703 + 1 := by rw [es, updL_at]
  have hrs : s_rs T = nI n := by rw [← h.rs, en, lN_i]
  refine ⟨⟨⟨n + 1, by omega, c1⟩, fun i hi q => ?_⟩, vM_ext (s := s) ?_ ?_ ?_ ?_ h.en ?_ (fun f i => ?_) (fun f i => ?_)⟩
  · rw [lo _ (by omega)] at q ⊢
    exact h2 i hi q
  · rw [lo _ (by omega)]; exact h.tm
  · rw [lo _ (by omega)]; exact h.pl
  · rw [c2, h.go]; rfl
  · rw [lo _ (by omega)]; exact h.mv
  · rw [c1, lN_i, aRow_rs, hrs, nI_1]
  · rw [aRow_du, h.du]
    exact congrFun (rM_congr (fun c hc hi => lo _ (by omega))) f
  · rw [c1, lN_i, nI_clamp (show n + 1 < 2 ^ 31 by omega), aRow_ro, hrs, nI_clamp (show n < 2 ^ 31 by omega), h.ro, en, lN_i, nI_clamp (show n < 2 ^ 31 by omega)]
    by_cases hi : i = n
    · by_cases hf : f < 3
      · rw [if_pos (show f < 3 ∧ i < n + 1 from ⟨hf, by omega⟩), if_pos (show i = n ∧ f < 3 from ⟨hi, hf⟩), hi]
        rcases (show f = 0 ∨ f = 1 ∨ f = 2 by omega) with rfl | rfl | rfl
        · rw [if_pos rfl]; exact r0
        · rw [if_neg (by omega), if_pos rfl]; exact r1
        · rw [if_neg (by omega), if_neg (by omega)]; exact r2
      · rw [if_neg (by omega), if_neg (by omega), if_neg (by omega)]
    · rw [if_neg (show ¬ (i = n ∧ f < 3) by omega)]
      by_cases q : f < 3 ∧ i < n
      · rw [if_pos q, if_pos (show f < 3 ∧ i < n + 1 by omega), lo _ (by omega)]
      · rw [if_neg q, if_neg (by omega)]
def aOn (T : StV) (k : Nat) : StV := if s_du T 4 k = (-2000000005 : Int64) ∨ s_du T 5 k = 1 ∨ (1125899906842624 : Int64) < s_tm T + s_du T 4 k then aClose T k else aTick (if s_du T 5 k ≤ 0 then T else s_wdu T 5 k (s_du T 5 k - 1)) k (s_tm T + s_du T 4 k)
def aTl (T : StV) (k : Nat) : StV := aTell (aRow T k) (lN k) (fun i => mn (s_tm T + s_du T 9 i))
def aLet (T : StV) (k : Nat) : StV := aOn (aTl T k) k
theorem aTl_tm (T : StV) (k : Nat) : s_tm (aTl T k) = s_tm T := rfl
theorem aTl_rs (T : StV) (k : Nat) : s_rs (aTl T k) = s_rs T + 1 := rfl
theorem aTl_du (T : StV) (k f i : Nat) : s_du (aTl T k) f i = if s_du T 6 i = lN k then (if f = 6 then (-2000000005 : Int64) else if f = 2 then mn (s_tm T + s_du T 9 i) else if f = 11 then 0 else s_du T f i) else s_du T f i := rfl
theorem aTl_f {T : StV} {k f i : Nat} (h6 : f ≠ 6) (h2 : f ≠ 2) (h11 : f ≠ 11) : s_du (aTl T k) f i = s_du T f i := by
  unfold aTl
  rw [aTell_f h6 h2 h11]; rfl
theorem cOn {v T : StV} (h : CS v T) {k : Nat} (hk2 : k < 200) (hk : s_du T 0 k ≠ (-2000000005 : Int64)) {post : StV → Prop} (hp : ∀ v', CS v' (aOn T k) → post v') :
    (PX0_goesAgain v (nI k) (fun (r_12 : Int32) => ((r_12 = 0 → (PX4_close v (nI k) (fun (v_14 : StV) => post v_14))) ∧ (¬ r_12 = 0 → (PX0_setAgain v (nI k) (fun (v_15 : StV) => post v_15)))))) := by
  have hin : vp_in (nI k) 200 := vp_in_nI hk2 (by omega)
  have f4 : s_du v 4 k = s_du T 4 k := h.f hk (by omega) (by omega) (by omega)
  have f5 : s_du v 5 k = s_du T 5 k := h.f hk (by omega) (by omega) (by omega)
  have close : (s_du T 4 k = (-2000000005 : Int64) ∨ s_du T 5 k = 1 ∨ (1125899906842624 : Int64) < s_tm T + s_du T 4 k) → PX4_close v (nI k) (fun (v_14 : StV) => post v_14) := fun q => cClose h hk2 (fun v' hv' => hp v' (by unfold aOn; rw [if_pos q]; exact hv'))
  unfold PX0_goesAgain
  rw [nI_clamp (by omega), f4, f5, h.tm]
  refine ⟨hin, ?_⟩
  rintro _ rfl
  refine ⟨fun q => b0 (close (Or.inl q)), fun q => ⟨hin, fun q2 => b0 (close (Or.inr (Or.inl q2))), fun q2 => ⟨fun q3 => b0 (close (Or.inr (Or.inr q3))), fun q3 => b1 ?_⟩⟩⟩
  have no : ¬ (s_du T 4 k = (-2000000005 : Int64) ∨ s_du T 5 k = 1 ∨ (1125899906842624 : Int64) < s_tm T + s_du T 4 k) := fun z => z.elim q (fun z => z.elim q2 q3)
  have em : mn (s_tm T + s_du T 4 k) = s_tm T + s_du T 4 k := by unfold mn; rw [if_neg q3]
  unfold PX0_setAgain
  rw [nI_clamp (by omega), f4, f5, h.tm]
  refine ⟨hin, ?_⟩
  rintro _ rfl
  refine ⟨fun q4 => ⟨hin, cSetTick h rfl hk2 hk (fun v' hv' => hp v' ?_)⟩, fun q4 => ⟨hin, ?_⟩⟩
  · rw [em] at hv'
    unfold aOn
    rw [if_neg no, if_pos q4]
    exact hv'
  · rintro _ rfl
    rw [tm_wdu, du_wdu, if_neg (by omega), f4, h.tm]
    refine ⟨hin, cSetTick (h.put (f := 5) hk (by omega) (by omega) (by omega)) rfl hk2 (th_wdu (by omega) hk) (fun v' hv' => hp v' ?_)⟩
    rw [em] at hv'
    unfold aOn
    rw [if_neg no, if_neg q4]
    exact hv'
theorem cLet {v T : StV} (h : CS v T) {n : Nat} (hn : n < 300) (en : s_rs T = nI n) (hA : ∀ i, s_du T 6 i ≠ (-2000000005 : Int64) → s_du T 0 i = 3) {k : Nat} {x : Int32} (hx : x = nI k) (hk2 : k < 200) (hk : s_du T 0 k ≠ (-2000000005 : Int64)) {post : StV → Prop} (hp : ∀ v', CS v' (aLet T k) → post v') : PX0_letGo v x post := by
  subst hx
  unfold PX0_letGo
  have ev : s_rs v = nI n := h.rs.trans en
  have hin : vp_in (nI k) 200 := vp_in_nI hk2 (by omega)
  have hin3 : vp_in (s_rs v) 300 := by rw [ev]; exact vp_in_nI hn (by omega)
  refine ⟨fun _ => ⟨hin3, ?_⟩, fun q => absurd ?_ q⟩
  · rintro _ rfl
    refine ⟨hin3, ?_⟩
    rintro _ rfl
    refine ⟨hin, hin3, ?_⟩
    rintro _ rfl _ rfl _ rfl
    have e1 : (nI k).toInt64 = lN k := nI_l (by omega)
    have e2 : (nI k).toNatClampNeg = k := nI_clamp (by omega)
    have e3 : (s_rs v).toNatClampNeg = n := by rw [ev]; exact nI_clamp (by omega)
    have e4 : s_rs v + 1 = nI (n + 1) := by rw [ev, nI_1]
    have e5 : s_go v + 1 = s_go T + 1 := by rw [h.go]
    have e6 : s_du v 1 k = s_du T 1 k := h.f hk (by omega) (by omega) (by omega)
    have e7 : s_wgo (s_wrs (rowC v (nI k).toInt64 (s_tm v) (s_du v 1 (nI k).toNatClampNeg) (s_rs v).toNatClampNeg) (s_rs v + 1)) (s_go v + 1) = s_wgo (s_wrs (rowC v (lN k) (s_tm T) (s_du T 1 k) n) (nI (n + 1))) (s_go T + 1) := by rw [e1, e2, e3, e4, e5, e6, h.tm]
    have hv : CS (s_wgo (s_wrs (rowC v (nI k).toInt64 (s_tm v) (s_du v 1 (nI k).toNatClampNeg) (s_rs v).toNatClampNeg) (s_rs v + 1)) (s_go v + 1)) (aRow T k) := by rw [e7]; exact cRow h hn en
    refine cTellGone hv (x := nI k) (by rw [e1]; exact lN_ne (by omega)) hA (fun v1 hv1 => ?_)
    rw [e1] at hv1
    have hv1 : CS v1 (aTl T k) := hv1
    exact cOn hv1 hk2 (by rw [aTl_f (by omega) (by omega) (by omega)]; exact hk) (fun v' hv' => hp v' hv')
  · rw [ev, show (300 : Int32) = nI 300 from rfl, nI_ltI (by omega) (by omega)]; exact hn
theorem wdu_same {T : StV} {f k : Nat} {x : Int64} (h : s_du T f k = x) : s_wdu T f k x = T := by
  refine st_ext rfl rfl rfl rfl rfl rfl (fun a i => ?_) (fun _ _ => rfl)
  rw [du_wdu]
  by_cases q : a = f ∧ i = k
  · rw [if_pos q, q.1, q.2, h]
  · rw [if_neg q]
theorem mOn_in {r : MmV} {s : Nat → Int64} {T : StV} (h : MS s T) {k : Nat} (hk2 : k < 200) (hk : s_du T 0 k ≠ (-2000000005 : Int64)) (n4 : s_du T 4 k ≠ (-2000000005 : Int64)) (p5 : 0 ≤ s_du T 5 k) {post : MmV → Prop} (hp : ∀ s', MS s' (aOn T k) → post (m_ws r s')) :
    (PX7_get (m_ws r s) (nI k) (6 : Int32) (fun (r_3 : Int64) => (PX7_get (m_ws r s) (nI k) (5 : Int32) (fun (r_4 : Int64) => ∀ x8_5 : Int64, x8_5 = (s_tm T + r_4) → ((r_3 = (1 : Int64) → (PX7_put (m_ws r s) (nI k) (0 : Int32) (0 : Int64) (fun (r_7 : MmV) => post r_7))) ∧ (¬ r_3 = (1 : Int64) → ((x8_5 ≤ (1125899906842624 : Int64) → ((r_3 = (0 : Int64) → (PX7_put (m_ws r s) (nI k) (6 : Int32) (0 : Int64) (fun (r_12 : MmV) => (PX7_tick r_12 (nI k) x8_5 (fun (r_13 : MmV) => post r_13))))) ∧ (¬ r_3 = (0 : Int64) → (PX7_put (m_ws r s) (nI k) (6 : Int32) (r_3 - (1 : Int64)) (fun (r_10 : MmV) => (PX7_tick r_10 (nI k) x8_5 (fun (r_11 : MmV) => post r_11))))))) ∧ (¬ x8_5 ≤ (1125899906842624 : Int64) → (PX7_put (m_ws r s) (nI k) (0 : Int32) (0 : Int64) (fun (r_14 : MmV) => post r_14)))))))))) := by
  have f4 : s (14 * k + 5) = s_du T 4 k := h.f (f := 4) hk (by omega) (by omega) (by omega)
  have f5 : s (14 * k + 6) = s_du T 5 k := h.f (f := 5) hk (by omega) (by omega) (by omega)
  refine mGet (m_ws_m_s r s) rfl hk2 (c := 6) rfl (by omega) (mGet (m_ws_m_s r s) rfl hk2 (c := 5) rfl (by omega) ?_)
  rw [f4, f5]
  rintro _ rfl
  have close : (s_du T 4 k = (-2000000005 : Int64) ∨ s_du T 5 k = 1 ∨ (1125899906842624 : Int64) < s_tm T + s_du T 4 k) → PX7_put (m_ws r s) (nI k) (0 : Int32) (0 : Int64) (fun (r_7 : MmV) => post r_7) := fun q => mPut2 rfl hk2 (c := 0) rfl (by omega) (hp _ (by unfold aOn; rw [if_pos q]; exact h.close hk2))
  refine ⟨fun q => close (Or.inr (Or.inl q)), fun q => ⟨fun q2 => ?_, fun q2 => close (Or.inr (Or.inr (Int64.not_le.mp q2)))⟩⟩
  have no : ¬ (s_du T 4 k = (-2000000005 : Int64) ∨ s_du T 5 k = 1 ∨ (1125899906842624 : Int64) < s_tm T + s_du T 4 k) := fun z => z.elim n4 (fun z => z.elim q (fun z => Int64.not_le.mpr z q2))
  refine ⟨fun q3 => ?_, fun q3 => ?_⟩
  · refine mPut2 rfl hk2 (c := 6) rfl (by omega) ?_
    have h1 : MS (vp_updL s (14 * k + 6) 0) T := by
      have := MS.put (f := 5) (x := 0) h hk (by omega) (by omega) (by omega)
      rw [wdu_same q3] at this
      exact this
    refine mTick2 h1 rfl hk (fun s' hs' => hp s' ?_)
    unfold aOn
    rw [if_neg no, if_pos (by rw [q3]; decide)]
    exact hs'
  · refine mPut2 rfl hk2 (c := 6) rfl (by omega) ?_
    have h1 : MS (vp_updL s (14 * k + 6) (s_du T 5 k - 1)) (s_wdu T 5 k (s_du T 5 k - 1)) := MS.put (f := 5) h hk (by omega) (by omega) (by omega)
    refine mTick2 h1 rfl (th_wdu (by omega) hk) (fun s' hs' => hp s' ?_)
    unfold aOn
    rw [if_neg no, if_neg (fun z => q3 (Int64.le_antisymm z p5))]
    exact hs'
theorem mOn {r : MmV} {s : Nat → Int64} {T : StV} (h : MS s T) {k : Nat} (hk2 : k < 200) (hk : s_du T 0 k ≠ (-2000000005 : Int64)) (hy : s_du T 0 k = 1 ∨ s_du T 0 k = 4 → s_du T 4 k ≠ (-2000000005 : Int64) ∧ 0 ≤ s_du T 5 k) (hn : ¬ (s_du T 0 k = 1 ∨ s_du T 0 k = 4) → s_du T 4 k = (-2000000005 : Int64)) {t : Int64} (ht : t = s_tm T) {post : MmV → Prop} (hp : ∀ s', MS s' (aOn T k) → post (m_ws r s')) : PX7_goesOn (m_ws r s) (nI k) t post := by
  subst ht
  unfold PX7_goesOn
  have f0 : s (14 * k + 1) = s_du T 0 k := h.f (f := 0) hk (by omega) (by omega) (by omega)
  refine mGet (m_ws_m_s r s) rfl hk2 (c := 1) rfl (by omega) ?_
  rw [f0]
  refine ⟨fun q => mOn_in h hk2 hk (hy (Or.inl q)).1 (hy (Or.inl q)).2 hp, fun q => ⟨fun q2 => mOn_in h hk2 hk (hy (Or.inr q2)).1 (hy (Or.inr q2)).2 hp, fun q2 => ?_⟩⟩
  refine mPut2 rfl hk2 (c := 0) rfl (by omega) (hp _ ?_)
  unfold aOn
  rw [if_pos (Or.inl (hn (fun z => z.elim q q2)))]
  exact h.close hk2
