/-! making dues: once, often, resting, loose, chained; both sides -/
theorem du_row (T : StV) (k : Nat) (g : Nat → Int64) (f i : Nat) : s_du (s_row T k g) f i = if i = k then g f else s_du T f i := rfl
theorem aOpen_du (T : StV) (kd say : Int64) (f i : Nat) : s_du (aOpen T kd say) f i = if i = fr T then nrow kd say (s_pl T) f else s_du T f i := rfl
theorem aOpen_k (T : StV) (kd say : Int64) : s_du (aOpen T kd say) 0 (fr T) = kd := by rw [aOpen_du, if_pos rfl]; rfl
def aSet (T : StV) (kd say : Int64) : StV := if kd = 3 then s_wdu (s_wdu (aOpen T kd say) 9 (fr T) 0) 10 (fr T) 0 else aOpen T kd say
def tbl (kd say pl : Int64) : Nat → Int64 := fun c => if c = 0 then 1 else if c = 1 then kd else if c = 2 then say else if c = 8 then 0 else if c = 9 then 0 else if c = 11 then pl else if c = 12 then 0 else (-2000000005 : Int64)
def sSet (s : Nat → Int64) (k : Nat) (kd say : Int64) : Nat → Int64 := fun j => if j = 3701 then s 3701 + 1 else if 14 * k ≤ j ∧ j ≤ 14 * k + 12 then tbl kd say (s 3701) (j - 14 * k) else s j
theorem sSet_in {s : Nat → Int64} {k c : Nat} {kd say : Int64} (hk : k < 200) (hc : c ≤ 12) : sSet s k kd say (14 * k + c) = tbl kd say (s 3701) c := by
  unfold sSet
  rw [if_neg (by omega), if_pos (by omega), show 14 * k + c - 14 * k = c by omega]
theorem sSet_out {s : Nat → Int64} {k j : Nat} {kd say : Int64} (h1 : j ≠ 3701) (h2 : j < 14 * k ∨ 14 * k + 12 < j) : sSet s k kd say j = s j := by
  unfold sSet
  rw [if_neg h1, if_neg (by omega)]
theorem sSet_MS {s : Nat → Int64} {T : StV} (h : MS s T) {kd say : Int64} (hf : fr T < 200) (hkd : kd ≠ (-2000000005 : Int64)) : MS (sSet s (fr T) kd say) (aSet T kd say) := by
  obtain ⟨⟨n, hn, e⟩, h2⟩ := id h.1
  obtain ⟨k, ek⟩ : ∃ k, k = fr T := ⟨_, rfl⟩
  rw [← ek] at hf ⊢
  have hs : ∀ j, 2800 ≤ j → j ≠ 3701 → sSet s k kd say j = s j := fun j hj hj2 => sSet_out hj2 (by omega)
  have hpl : sSet s k kd say 3701 = s 3701 + 1 := by unfold sSet; rw [if_pos rfl]
  have gs : ∀ {P : StV → Prop}, P (aOpen T kd say) → P (s_wdu (s_wdu (aOpen T kd say) 9 (fr T) 0) 10 (fr T) 0) → P (aSet T kd say) := fun {P} a b => by
    unfold aSet
    split
    · exact b
    · exact a
  have a1 : s_tm (aSet T kd say) = s_tm T := gs (P := fun z => s_tm z = s_tm T) rfl rfl
  have a2 : s_pl (aSet T kd say) = s_pl T + 1 := gs (P := fun z => s_pl z = s_pl T + 1) rfl rfl
  have a3 : s_go (aSet T kd say) = s_go T := gs (P := fun z => s_go z = s_go T) rfl rfl
  have a4 : s_mv (aSet T kd say) = s_mv T := gs (P := fun z => s_mv z = s_mv T) rfl rfl
  have a5 : s_en (aSet T kd say) = s_en T := gs (P := fun z => s_en z = s_en T) rfl rfl
  have a6 : s_rs (aSet T kd say) = s_rs T := gs (P := fun z => s_rs z = s_rs T) rfl rfl
  have a8 : s_ro (aSet T kd say) = s_ro T := gs (P := fun z => s_ro z = s_ro T) rfl rfl
  refine ⟨⟨⟨n, hn, by rw [hs _ (by omega) (by omega)]; exact e⟩, fun i hi q => ?_⟩, vM_ext (s := s) ?_ ?_ ?_ ?_ ?_ ?_ (fun f i => ?_) (fun a i => ?_)⟩
  · by_cases hik : i = k
    · rw [hik, sSet_in hf (by omega)]; exact hkd
    · rw [sSet_out (by omega) (by omega)] at q
      rw [sSet_out (by omega) (by omega)]
      exact h2 i hi q
  · rw [hs _ (by omega) (by omega), a1]; exact h.tm
  · rw [hpl, a2, h.pl]
  · rw [hs _ (by omega) (by omega), a3]; exact h.go
  · rw [hs _ (by omega) (by omega), a4]; exact h.mv
  · rw [a5]; exact h.en
  · rw [hs _ (by omega) (by omega), a6]; exact h.rs
  · by_cases hik : i = k
    · subst hik
      have t1 : sSet s i kd say (14 * i) = 1 := sSet_in (c := 0) hf (by omega)
      rw [rM_in hf t1]
      have e1 : nrm (fun f => sSet s i kd say (14 * i + mcol f)) = nrm (fun f => tbl kd say (s_pl T) (mcol f)) := nrm_congr (fun f _ => by rw [sSet_in hf (mcol_le f), h.pl])
      rw [e1]
      by_cases h12 : f < 12
      · by_cases h910 : f = 9 ∨ f = 10
        · by_cases k3 : kd = 3
          · rw [nrm_3 (show tbl kd say (s_pl T) (mcol 0) = 3 from k3) h12]
            unfold aSet
            rw [if_pos k3, du_wdu, du_wdu, aOpen_du]
            rcases h910 with rfl | rfl
            · rw [if_neg (by omega), if_pos ⟨rfl, ek⟩]; rfl
            · rw [if_pos ⟨rfl, ek⟩]; rfl
          · rw [nrm_n3 (show tbl kd say (s_pl T) (mcol 0) ≠ 3 from k3) h910]
            unfold aSet
            rw [if_neg k3, aOpen_du, if_pos ek]
            rcases h910 with rfl | rfl <;> rfl
        · rw [nrm_f (show tbl kd say (s_pl T) (mcol 0) ≠ (-2000000005 : Int64) from hkd) h12 (by omega) (by omega)]
          have e2 : s_du (aSet T kd say) f i = nrow kd say (s_pl T) f := gs (P := fun z => s_du z f i = nrow kd say (s_pl T) f) (by rw [aOpen_du, if_pos ek]) (by rw [du_wdu, du_wdu, if_neg (by omega), if_neg (by omega), aOpen_du, if_pos ek])
          rw [e2]
          rcases (show f = 0 ∨ f = 1 ∨ f = 2 ∨ f = 3 ∨ f = 4 ∨ f = 5 ∨ f = 6 ∨ f = 7 ∨ f = 8 ∨ f = 11 by omega) with rfl | rfl | rfl | rfl | rfl | rfl | rfl | rfl | rfl | rfl <;> rfl
      · rw [nrm_big (by omega)]
        have e2 : s_du (aSet T kd say) f i = nrow kd say (s_pl T) f := gs (P := fun z => s_du z f i = nrow kd say (s_pl T) f) (by rw [aOpen_du, if_pos ek]) (by rw [du_wdu, du_wdu, if_neg (by omega), if_neg (by omega), aOpen_du, if_pos ek])
        rw [e2]
        unfold nrow
        rw [if_neg (by omega), if_neg (by omega), if_neg (by omega), if_neg (by omega)]
    · have e2 : s_du (aSet T kd say) f i = s_du T f i := gs (P := fun z => s_du z f i = s_du T f i) (by rw [aOpen_du, if_neg (by omega)]) (by rw [du_wdu, du_wdu, if_neg (by omega), if_neg (by omega), aOpen_du, if_neg (by omega)])
      rw [e2, h.du]
      exact congrFun (rM_congr (fun c hc hi2 => sSet_out (by omega) (by omega))) f
  · rw [a8, hs 3702 (by omega) (by omega)]
    refine Eq.trans ?_ (h.ro a i).symm
    rw [e, lN_i, nI_clamp (by omega)]
    by_cases q : a < 3 ∧ i < n
    · rw [if_pos q, if_pos q, hs _ (by omega) (by omega)]
    · rw [if_neg q, if_neg q]
theorem sSet_chain (s : Nat → Int64) {k : Nat} (hk : k < 200) (kd say : Int64) :
    vp_updL (vp_updL (vp_updL (vp_updL (vp_updL (vp_updL (vp_updL (vp_updL (vp_updL (vp_updL (vp_updL (vp_updL (vp_updL (vp_updL s (14 * k + 0) 1) (14 * k + 1) kd) (14 * k + 2) say) (14 * k + 3) (-2000000005 : Int64)) (14 * k + 4) (-2000000005 : Int64)) (14 * k + 5) (-2000000005 : Int64)) (14 * k + 6) (-2000000005 : Int64)) (14 * k + 7) (-2000000005 : Int64)) (14 * k + 8) 0) (14 * k + 9) 0) (14 * k + 10) (-2000000005 : Int64)) (14 * k + 12) 0) (14 * k + 11) (s 3701)) 3701 (s 3701 + 1) = sSet s k kd say := by
  funext j
  by_cases hr : 14 * k ≤ j ∧ j ≤ 14 * k + 12
  · obtain ⟨c, hc, rfl⟩ : ∃ c, c ≤ 12 ∧ j = 14 * k + c := ⟨j - 14 * k, by omega, by omega⟩
    rw [sSet_in hk hc, updL_ne (by omega)]
    have ne : ∀ (t : Nat → Int64) (a : Nat) (x : Int64), c ≠ a → vp_updL t (14 * k + a) x (14 * k + c) = t (14 * k + c) := fun t a x h => updL_ne (by omega)
    rcases (show c = 0 ∨ c = 1 ∨ c = 2 ∨ c = 3 ∨ c = 4 ∨ c = 5 ∨ c = 6 ∨ c = 7 ∨ c = 8 ∨ c = 9 ∨ c = 10 ∨ c = 11 ∨ c = 12 by omega) with rfl | rfl | rfl | rfl | rfl | rfl | rfl | rfl | rfl | rfl | rfl | rfl | rfl
    · rw [ne _ 11 _ (by omega), ne _ 12 _ (by omega), ne _ 10 _ (by omega), ne _ 9 _ (by omega), ne _ 8 _ (by omega), ne _ 7 _ (by omega), ne _ 6 _ (by omega), ne _ 5 _ (by omega), ne _ 4 _ (by omega), ne _ 3 _ (by omega), ne _ 2 _ (by omega), ne _ 1 _ (by omega), updL_at]; rfl
    · rw [ne _ 11 _ (by omega), ne _ 12 _ (by omega), ne _ 10 _ (by omega), ne _ 9 _ (by omega), ne _ 8 _ (by omega), ne _ 7 _ (by omega), ne _ 6 _ (by omega), ne _ 5 _ (by omega), ne _ 4 _ (by omega), ne _ 3 _ (by omega), ne _ 2 _ (by omega), updL_at]; rfl
    · rw [ne _ 11 _ (by omega), ne _ 12 _ (by omega), ne _ 10 _ (by omega), ne _ 9 _ (by omega), ne _ 8 _ (by omega), ne _ 7 _ (by omega), ne _ 6 _ (by omega), ne _ 5 _ (by omega), ne _ 4 _ (by omega), ne _ 3 _ (by omega), updL_at]; rfl
    · rw [ne _ 11 _ (by omega), ne _ 12 _ (by omega), ne _ 10 _ (by omega), ne _ 9 _ (by omega), ne _ 8 _ (by omega), ne _ 7 _ (by omega), ne _ 6 _ (by omega), ne _ 5 _ (by omega), ne _ 4 _ (by omega), updL_at]; rfl
    · rw [ne _ 11 _ (by omega), ne _ 12 _ (by omega), ne _ 10 _ (by omega), ne _ 9 _ (by omega), ne _ 8 _ (by omega), ne _ 7 _ (by omega), ne _ 6 _ (by omega), ne _ 5 _ (by omega), updL_at]; rfl
    · rw [ne _ 11 _ (by omega), ne _ 12 _ (by omega), ne _ 10 _ (by omega), ne _ 9 _ (by omega), ne _ 8 _ (by omega), ne _ 7 _ (by omega), ne _ 6 _ (by omega), updL_at]; rfl
    · rw [ne _ 11 _ (by omega), ne _ 12 _ (by omega), ne _ 10 _ (by omega), ne _ 9 _ (by omega), ne _ 8 _ (by omega), ne _ 7 _ (by omega), updL_at]; rfl
    · rw [ne _ 11 _ (by omega), ne _ 12 _ (by omega), ne _ 10 _ (by omega), ne _ 9 _ (by omega), ne _ 8 _ (by omega), updL_at]; rfl
    · rw [ne _ 11 _ (by omega), ne _ 12 _ (by omega), ne _ 10 _ (by omega), ne _ 9 _ (by omega), updL_at]; rfl
    · rw [ne _ 11 _ (by omega), ne _ 12 _ (by omega), ne _ 10 _ (by omega), updL_at]; rfl
    · rw [ne _ 11 _ (by omega), ne _ 12 _ (by omega), updL_at]; rfl
    · rw [updL_at]; rfl
    · rw [ne _ 11 _ (by omega), updL_at]; rfl
  · by_cases h1 : j = 3701
    · subst h1
      rw [updL_at]
      unfold sSet
      rw [if_pos rfl]
    · rw [sSet_out h1 (by omega), updL_ne h1, updL_ne (by omega), updL_ne (by omega), updL_ne (by omega), updL_ne (by omega), updL_ne (by omega), updL_ne (by omega), updL_ne (by omega), updL_ne (by omega), updL_ne (by omega), updL_ne (by omega), updL_ne (by omega), updL_ne (by omega), updL_ne (by omega)]
theorem m_ws_ws (r : MmV) (a b : Nat → Int64) : m_ws (m_ws r a) b = m_ws r b := rfl
theorem mPut2 {r : MmV} {s : Nat → Int64} {k c : Nat} {x y : Int32} {v : Int64} (hx : x = nI k) (hk : k < 200) (hy : y = nI c) (hc : c < 14) {post : MmV → Prop} (hp : post (m_ws r (vp_updL s (14 * k + c) v))) : PX7_put (m_ws r s) x y v post := mPut (s := s) (m_ws_m_s r s) hx hk hy hc (by rw [m_ws_ws]; exact hp)
theorem mTick2 {r : MmV} {s : Nat → Int64} {T : StV} (h : MS s T) {k : Nat} {x : Int32} {t : Int64} (hx : x = nI k) (hk : s_du T 0 k ≠ (-2000000005 : Int64)) {post : MmV → Prop} (hp : ∀ s', MS s' (aTick T k t) → post (m_ws r s')) : PX7_tick (m_ws r s) x t post := mTick (s := s) (m_ws_m_s r s) h hx hk (fun s' hs => by rw [m_ws_ws]; exact hp s' hs)
theorem mLine2 {r : MmV} {s : Nat → Int64} {T : StV} (h : MS s T) {k : Nat} {x : Int32} (hx : x = nI k) (hk : s_du T 0 k ≠ (-2000000005 : Int64)) {post : MmV → Prop} (hp : ∀ s', MS s' (aPlace T k) → post (m_ws r s')) : PX7_line (m_ws r s) x post := mLine (s := s) (m_ws_m_s r s) h hx hk (fun s' hs => by rw [m_ws_ws]; exact hp s' hs)
theorem MK.ws {r : MmV} {Z : StV × List StV} (h : MK r Z) {s : Nat → Int64} {T : StV} (hs : MS s T) : MK (m_ws r s) (T, Z.2) := h.upd (by rw [m_ws_m_s]; exact hs) (m_ws_m_bf r s) (m_ws_m_kp r s)
theorem mSet_puts {r : MmV} {k : Nat} (hf : k < 200) (kd say : Int32) {post : MmV → Prop} (hp : post (m_ws r (sSet (m_s r) k kd.toInt64 say.toInt64))) :
    (PX7_put r (nI k) (0 : Int32) (1 : Int64) (fun (r_3 : MmV) => (PX7_put r_3 (nI k) (1 : Int32) (kd.toInt64) (fun (r_4 : MmV) => (PX7_put r_4 (nI k) (2 : Int32) (say.toInt64) (fun (r_5 : MmV) => (PX7_put r_5 (nI k) (3 : Int32) (-2000000005 : Int64) (fun (r_6 : MmV) => (PX7_put r_6 (nI k) (4 : Int32) (-2000000005 : Int64) (fun (r_7 : MmV) => (PX7_put r_7 (nI k) (5 : Int32) (-2000000005 : Int64) (fun (r_8 : MmV) => (PX7_put r_8 (nI k) (6 : Int32) (-2000000005 : Int64) (fun (r_9 : MmV) => (PX7_put r_9 (nI k) (7 : Int32) (-2000000005 : Int64) (fun (r_10 : MmV) => (PX7_put r_10 (nI k) (8 : Int32) (0 : Int64) (fun (r_11 : MmV) => (PX7_put r_11 (nI k) (9 : Int32) (0 : Int64) (fun (r_12 : MmV) => (PX7_put r_12 (nI k) (10 : Int32) (-2000000005 : Int64) (fun (r_13 : MmV) => (PX7_put r_13 (nI k) (12 : Int32) (0 : Int64) (fun (r_14 : MmV) => (PX7_line r_14 (nI k) (fun (r_15 : MmV) => post r_15)))))))))))))))))))))))))) := by
  refine mPut rfl rfl hf (c := 0) rfl (by omega) ?_
  refine mPut2 rfl hf (c := 1) rfl (by omega) ?_
  refine mPut2 rfl hf (c := 2) rfl (by omega) ?_
  refine mPut2 rfl hf (c := 3) rfl (by omega) ?_
  refine mPut2 rfl hf (c := 4) rfl (by omega) ?_
  refine mPut2 rfl hf (c := 5) rfl (by omega) ?_
  refine mPut2 rfl hf (c := 6) rfl (by omega) ?_
  refine mPut2 rfl hf (c := 7) rfl (by omega) ?_
  refine mPut2 rfl hf (c := 8) rfl (by omega) ?_
  refine mPut2 rfl hf (c := 9) rfl (by omega) ?_
  refine mPut2 rfl hf (c := 10) rfl (by omega) ?_
  refine mPut2 rfl hf (c := 12) rfl (by omega) ?_
  have ne : ∀ (t : Nat → Int64) (a : Nat) (x : Int64), a ≤ 12 → vp_updL t (14 * k + a) x 3701 = t 3701 := fun t a x h => updL_ne (by omega)
  obtain ⟨s9, es9⟩ : ∃ z, z = vp_updL (vp_updL (vp_updL (vp_updL (vp_updL (vp_updL (vp_updL (vp_updL (vp_updL (vp_updL (vp_updL (vp_updL (m_s r) (14 * k + 0) 1) (14 * k + 1) kd.toInt64) (14 * k + 2) say.toInt64) (14 * k + 3) (-2000000005 : Int64)) (14 * k + 4) (-2000000005 : Int64)) (14 * k + 5) (-2000000005 : Int64)) (14 * k + 6) (-2000000005 : Int64)) (14 * k + 7) (-2000000005 : Int64)) (14 * k + 8) 0) (14 * k + 9) 0) (14 * k + 10) (-2000000005 : Int64)) (14 * k + 12) 0 := ⟨_, rfl⟩
  rw [← es9]
  have e9 : s9 3701 = m_s r 3701 := by
    rw [es9, ne _ 12 _ (by omega), ne _ 10 _ (by omega), ne _ 9 _ (by omega), ne _ 8 _ (by omega), ne _ 7 _ (by omega), ne _ 6 _ (by omega), ne _ 5 _ (by omega), ne _ 4 _ (by omega), ne _ 3 _ (by omega), ne _ 2 _ (by omega), ne _ 1 _ (by omega), ne _ 0 _ (by omega)]
  unfold PX7_line
  rw [m_ws_m_s, e9]
  refine mPut2 rfl hf (c := 11) rfl (by omega) ?_
  rintro _ rfl
  rw [m_ws_m_s, m_ws_ws, ne _ 11 _ (by omega), e9]
  have e1 := sSet_chain (m_s r) hf kd.toInt64 say.toInt64
  rw [← es9] at e1
  rw [e1]
  exact hp
theorem mSet {r : MmV} {Z : StV × List StV} (h : MK r Z) (hf : fr Z.1 < 200) (kd say : Int32) (hkd : kd.toInt64 ≠ (-2000000005 : Int64)) {post : Int32 → MmV → Prop} (hp : ∀ r', MK r' (aSet Z.1 kd.toInt64 say.toInt64, (zKeep Z).2) → post (nI (fr Z.1)) r') : PX7_set r kd say post := by
  unfold PX7_set
  refine mFree rfl h.1 (mKeep h (fun r1 hk es => mSet_puts hf kd say (post := fun z => post (nI (fr Z.1)) z) (hp _ ?_)))
  exact hk.ws (sSet_MS (say := say.toInt64) hk.1 hf hkd)
/-- a tick that may not be set -/
abbrev tBad (T : StV) (t : Int64) : Prop := t ≤ s_tm T ∨ (1125899906842624 : Int64) < t
theorem cTickA {st : Nat → StV} {cu : Nat} {T : StV} (h : CS (st cu) T) {t : Int64} {post : Int32 → Prop} (h0 : tBad T t → post 0) (h1 : ¬ tBad T t → post 1) : PX6_isTickAhead st cu t post := by
  unfold PX6_isTickAhead
  rw [h.tm]
  exact ⟨fun q => h0 (Or.inl q), fun q => ⟨fun q2 => h0 (Or.inr q2), fun q2 => h1 (fun z => z.elim q q2)⟩⟩
theorem mTickA {r : MmV} {T : StV} (h : MS (m_s r) T) {t : Int64} {post : Int32 → Prop} (h0 : tBad T t → post 0) (h1 : ¬ tBad T t → post 1) : PX7_isTick r t post := by
  unfold PX7_isTick
  rw [h.tm]
  exact ⟨fun q => h0 (Or.inl q), fun q => ⟨fun q2 => h0 (Or.inr q2), fun q2 => h1 (fun z => z.elim q q2)⟩⟩
theorem mn_ok {T : StV} {t : Int64} (h : ¬ tBad T t) : mn t = t := by unfold mn; rw [if_neg (fun q => h (Or.inr q))]
theorem fr200 {T : StV} {A B : Prop} (ha : fr T = 200 → A) (hb : fr T < 200 → B) : (nI (fr T) = (200 : Int32) → A) ∧ (¬ nI (fr T) = (200 : Int32) → B) := by
  have := fr_le T
  rw [show (200 : Int32) = nI 200 from rfl]
  exact ⟨fun q => ha ((nI_eq (by omega) (by omega)).mp q), fun q => hb (by
    rcases Nat.lt_or_ge (fr T) 200 with z | z
    · exact z
    · exact absurd (by rw [show fr T = 200 by omega]) q)⟩
abbrev Zt : Type := StV × List StV
def zOnce (Z : Zt) (t : Int64) (say : Int32) : Int64 × Zt :=
  if tBad Z.1 t then ((-2000000001 : Int64), Z) else if fr Z.1 = 200 then ((-2000000003 : Int64), Z) else (lN (fr Z.1), (aTick (aOpen Z.1 0 say.toInt64) (fr Z.1) t, (zKeep Z).2))
theorem KI.upd2 {st : Nat → StV} {kv : KvV} {cu : Nat} {Z : Zt} (h : KI st kv cu Z) {v w T : StV} (hv : CS v T) : KI (va_up (va_up st cu w) cu v) kv cu (T, Z.2) := by
  rw [bx_uu]; exact h.upd hv
theorem cOnce {st : Nat → StV} {kv : KvV} {cu : Nat} {Z : Zt} (h : KI st kv cu Z) {t : Int64} {say : Int32} {post : Int64 → (Nat → StV) → KvV → Prop} (hp : ∀ st' kv', KI st' kv' cu (zOnce Z t say).2 → post (zOnce Z t say).1 st' kv') : PX6_once st kv cu t say post := by
  unfold PX6_once
  refine cTickA h.cs (fun q => b0 ?_) (fun q => b1 (cFull h.cs (fun f => b0 ?_) (fun f => b1 ?_)))
  · have e : zOnce Z t say = ((-2000000001 : Int64), Z) := by unfold zOnce; rw [if_pos q]
    rw [e] at hp
    exact hp _ _ h
  · have e : zOnce Z t say = (lN (fr Z.1), (aTick (aOpen Z.1 0 say.toInt64) (fr Z.1) t, (zKeep Z).2)) := by unfold zOnce; rw [if_neg q, if_neg (by omega)]
    rw [e] at hp
    refine cKeep h (fun st1 kv1 hk => cOpen (T := Z.1) hk.cs f 0 say (by decide) (fun v1 hv1 => ?_))
    rintro _ rfl
    rw [va_up_self]
    refine cSetTick hv1 rfl f (by rw [aOpen_k]; decide) (fun v2 hv2 => ?_)
    rintro _ rfl
    rw [nI_l (by omega)]
    rw [mn_ok q] at hv2
    exact hp _ _ (hk.upd2 hv2)
  · have e : zOnce Z t say = ((-2000000003 : Int64), Z) := by unfold zOnce; rw [if_neg q, if_pos f]
    rw [e] at hp
    exact hp _ _ h
theorem aSet_n3 {T : StV} {kd say : Int64} (h : kd ≠ 3) : aSet T kd say = aOpen T kd say := by unfold aSet; rw [if_neg h]
theorem mOnce {r : MmV} {Z : Zt} (h : MK r Z) {t : Int64} {say : Int32} {post : Int64 → MmV → Prop} (hp : ∀ r', MK r' (zOnce Z t say).2 → post (zOnce Z t say).1 r') : PX7_once r t say post := by
  unfold PX7_once
  refine mTickA h.1 (fun q => b0 ?_) (fun q => b1 (mFree rfl h.1 (fr200 (fun f => ?_) (fun f => ?_))))
  · have e : zOnce Z t say = ((-2000000001 : Int64), Z) := by unfold zOnce; rw [if_pos q]
    rw [e] at hp
    exact hp _ h
  · have e : zOnce Z t say = ((-2000000003 : Int64), Z) := by unfold zOnce; rw [if_neg q, if_pos f]
    rw [e] at hp
    exact hp _ h
  · have e : zOnce Z t say = (lN (fr Z.1), (aTick (aOpen Z.1 0 say.toInt64) (fr Z.1) t, (zKeep Z).2)) := by unfold zOnce; rw [if_neg q, if_neg (by omega)]
    rw [e] at hp
    refine mSet h f 0 say (by decide) (fun r1 hr1 => ?_)
    have hr1 : MK r1 (aOpen Z.1 0 say.toInt64, (zKeep Z).2) := hr1
    refine mTick rfl hr1.1 rfl (by rw [aOpen_k]; decide) (fun s' hs' => ?_)
    rw [nI_l (by omega)]
    exact hp _ (hr1.ws hs')
/-- often, resting -/
abbrev rBad (T : StV) (t ev : Int64) (n : Int32) : Prop := tBad T t ∨ ev < 1 ∨ (1125899906842624 : Int64) < ev ∨ n < 0 ∨ 1000000 < n
def aRep (T : StV) (kd say t ev n : Int64) : StV := s_wdu (s_wdu (aTick (aOpen T kd say) (fr T) t) 4 (fr T) ev) 5 (fr T) n
def zRep (Z : Zt) (kd : Int32) (t ev : Int64) (n say : Int32) : Int64 × Zt :=
  if rBad Z.1 t ev n then ((-2000000001 : Int64), Z) else if fr Z.1 = 200 then ((-2000000003 : Int64), Z) else (lN (fr Z.1), (aRep Z.1 kd.toInt64 say.toInt64 t ev n.toInt64, (zKeep Z).2))
theorem cSpan {x : Int64} {post : Int32 → Prop} (h0 : x < 1 ∨ (1125899906842624 : Int64) < x → post 0) (h1 : ¬ x < 1 → ¬ (1125899906842624 : Int64) < x → post 1) : PX6_isSpan x post := by
  unfold PX6_isSpan
  exact ⟨fun q => h0 (Or.inl q), fun q => ⟨fun q2 => h0 (Or.inr q2), fun q2 => h1 q q2⟩⟩
theorem cRep {st : Nat → StV} {kv : KvV} {cu : Nat} {Z : Zt} (h : KI st kv cu Z) {kd : Int32} (hkd : kd.toInt64 ≠ (-2000000005 : Int64)) {t ev : Int64} {n say : Int32} {post : Int64 → (Nat → StV) → KvV → Prop} (hp : ∀ st' kv', KI st' kv' cu (zRep Z kd t ev n say).2 → post (zRep Z kd t ev n say).1 st' kv') : PX6_openRepeated st kv cu kd t ev n say post := by
  unfold PX6_openRepeated
  have bad : rBad Z.1 t ev n → post (-2000000001 : Int64) st kv := fun q => by
    have e : zRep Z kd t ev n say = ((-2000000001 : Int64), Z) := by unfold zRep; rw [if_pos q]
    rw [e] at hp
    exact hp _ _ h
  refine cTickA h.cs (fun q => b0 (bad (Or.inl q))) (fun q => b1 (cSpan (fun q2 => b0 (bad (q2.elim (fun z => Or.inr (Or.inl z)) (fun z => Or.inr (Or.inr (Or.inl z)))))) (fun q2 q3 => b1 ?_)))
  refine ⟨fun q4 => bad (Or.inr (Or.inr (Or.inr (Or.inl q4)))), fun q4 => ⟨fun q5 => ?_, fun q5 => bad (Or.inr (Or.inr (Or.inr (Or.inr (Int32.not_le.mp q5)))))⟩⟩
  have ok : ¬ rBad Z.1 t ev n := fun z => z.elim q (fun z => z.elim q2 (fun z => z.elim q3 (fun z => z.elim q4 (fun z => Int32.not_le.mpr z q5))))
  refine cFull h.cs (fun f => b0 ?_) (fun f => b1 ?_)
  · have e : zRep Z kd t ev n say = (lN (fr Z.1), (aRep Z.1 kd.toInt64 say.toInt64 t ev n.toInt64, (zKeep Z).2)) := by unfold zRep; rw [if_neg ok, if_neg (by omega)]
    rw [e] at hp
    refine cKeep h (fun st1 kv1 hk => cOpen (T := Z.1) hk.cs f kd say hkd (fun v1 hv1 => ?_))
    have hin : vp_in (nI (fr Z.1)) 200 := vp_in_nI f (by omega)
    have t0 : s_du (aOpen Z.1 kd.toInt64 say.toInt64) 0 (fr Z.1) ≠ (-2000000005 : Int64) := by rw [aOpen_k]; exact hkd
    rintro _ rfl
    refine ⟨hin, ?_⟩
    rintro _ rfl
    refine ⟨hin, ?_⟩
    rintro _ rfl
    rw [nI_clamp (by omega), va_up_self, va_up_self, va_up_self]
    have hv2 := (hv1.put (f := 4) (x := ev) t0 (by omega) (by omega) (by omega)).put (f := 5) (x := n.toInt64) (th_wdu (by omega) t0) (by omega) (by omega) (by omega)
    refine cSetTick hv2 rfl f (th_wdu (by omega) (th_wdu (by omega) t0)) (fun v3 hv3 => ?_)
    rintro _ rfl
    rw [nI_l (by omega), bx_uu, bx_uu, bx_uu]
    rw [mn_ok q] at hv3
    have e2 : aTick (s_wdu (s_wdu (aOpen Z.1 kd.toInt64 say.toInt64) 4 (fr Z.1) ev) 5 (fr Z.1) n.toInt64) (fr Z.1) t = aRep Z.1 kd.toInt64 say.toInt64 t ev n.toInt64 := by
      unfold aRep aTick
      refine st_ext (by simp only [tm_wdu]) (by simp only [pl_wdu]) (by simp only [go_wdu]) (by simp only [mv_wdu]) (by simp only [en_wdu]) (by simp only [rs_wdu]) (fun a i => ?_) (fun _ _ => by simp only [ro_wdu])
      simp only [du_wdu]
      by_cases hi : i = fr Z.1
      · simp only [hi, and_true]
        by_cases h2 : a = 2
        · subst h2; rfl
        · by_cases h11 : a = 11
          · subst h11; rfl
          · rw [if_neg h11, if_neg h2, if_neg h11, if_neg h2]
      · simp only [hi, and_false, if_false]
    rw [e2] at hv3
    exact hp _ _ (hk.upd hv3)
  · have e : zRep Z kd t ev n say = ((-2000000003 : Int64), Z) := by unfold zRep; rw [if_neg ok, if_pos f]
    rw [e] at hp
    exact hp _ _ h
theorem i64_of32 (x : Int32) : (x.toInt64).toInt = x.toInt := by simp
theorem mRep {r : MmV} {Z : Zt} (h : MK r Z) {kd : Int32} (hkd : kd.toInt64 ≠ (-2000000005 : Int64)) (hk3 : kd.toInt64 ≠ 3) {t ev : Int64} {n say : Int32} {post : Int64 → MmV → Prop} (hp : ∀ r', MK r' (zRep Z kd t ev n say).2 → post (zRep Z kd t ev n say).1 r') : PX7_repeated r kd t ev n say post := by
  unfold PX7_repeated
  have bad : rBad Z.1 t ev n → post (-2000000001 : Int64) r := fun q => by
    have e : zRep Z kd t ev n say = ((-2000000001 : Int64), Z) := by unfold zRep; rw [if_pos q]
    rw [e] at hp
    exact hp _ h
  have n1 : (0 : Int64) ≤ n.toInt64 ↔ ¬ n < 0 := by
    rw [Int64.le_iff_toInt_le, Int32.lt_iff_toInt_lt, i64_of32]
    simp
  have n2 : n.toInt64 ≤ (1000000 : Int64) ↔ ¬ 1000000 < n := by
    rw [Int64.le_iff_toInt_le, Int32.lt_iff_toInt_lt, i64_of32]
    simp
  refine mTickA h.1 (fun q => b0 (bad (Or.inl q))) (fun q => b1 (mIsIn (fun q2 q3 => b1 (mIsIn (fun q4 q5 => b1 ?_) (fun q4 => b0 (bad ?_)))) (fun q2 => b0 (bad ?_))))
  · have ok : ¬ rBad Z.1 t ev n := fun z => z.elim q (fun z => z.elim (Int64.not_lt.mpr q2) (fun z => z.elim (Int64.not_lt.mpr q3) (fun z => z.elim (n1.mp q4) (n2.mp q5))))
    refine mFree rfl h.1 (fr200 (fun f => ?_) (fun f => ?_))
    · have e : zRep Z kd t ev n say = ((-2000000003 : Int64), Z) := by unfold zRep; rw [if_neg ok, if_pos f]
      rw [e] at hp
      exact hp _ h
    · have e : zRep Z kd t ev n say = (lN (fr Z.1), (aRep Z.1 kd.toInt64 say.toInt64 t ev n.toInt64, (zKeep Z).2)) := by unfold zRep; rw [if_neg ok, if_neg (by omega)]
      rw [e] at hp
      refine mSet h f kd say hkd (fun r1 hr1 => ?_)
      rw [aSet_n3 hk3] at hr1
      have t0 : s_du (aOpen Z.1 kd.toInt64 say.toInt64) 0 (fr Z.1) ≠ (-2000000005 : Int64) := by rw [aOpen_k]; exact hkd
      refine mTick rfl hr1.1 rfl t0 (fun s' hs' => ?_)
      have t1 : s_du (aTick (aOpen Z.1 kd.toInt64 say.toInt64) (fr Z.1) t) 0 (fr Z.1) ≠ (-2000000005 : Int64) := th_wdu (by omega) (th_wdu (by omega) t0)
      refine mPut2 rfl f (c := 5) rfl (by omega) (mPut2 rfl f (c := 6) rfl (by omega) ?_)
      rw [nI_l (by omega)]
      refine hp _ (hr1.ws ?_)
      exact MS.put (f := 5) (MS.put (f := 4) hs' t1 (by omega) (by omega) (by omega)) (th_wdu (by omega) t1) (by omega) (by omega) (by omega)
  · by_cases z : n < 0
    · exact Or.inr (Or.inr (Or.inr (Or.inl z)))
    · refine Or.inr (Or.inr (Or.inr (Or.inr ?_)))
      by_cases z2 : 1000000 < n
      · exact z2
      · exact absurd ⟨n1.mpr z, n2.mpr z2⟩ q4
  · by_cases z : ev < 1
    · exact Or.inr (Or.inl z)
    · refine Or.inr (Or.inr (Or.inl ?_))
      by_cases z2 : (1125899906842624 : Int64) < ev
      · exact z2
      · exact absurd ⟨Int64.not_lt.mp z, Int64.not_lt.mp z2⟩ q2
