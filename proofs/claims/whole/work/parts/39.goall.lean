/-! all of a tick's goers; what holds meanwhile -/
abbrev loL (T : StV) (L : List Nat) (i : Nat) : Int64 := if i ∈ L then s_tm T - 1 else s_tm T
def GI (T : StV) (L : List Nat) : Prop := WI (loL T L) T ∧ (∀ d, d ∈ L → s_du T 2 d ≠ (-2000000005 : Int64)) ∧ L.Nodup
theorem GI.it {T : StV} (h : GI T []) : IT T := by
  have h1 := h.1
  have e : loL T [] = fun _ => s_tm T := funext (fun i => if_neg (by simp))
  rw [e] at h1
  exact h1
theorem aOn_ne {T : StV} {k f i : Nat} (h : i ≠ k) : s_du (aOn T k) f i = s_du T f i := by
  unfold aOn
  split
  · rw [aClose_du, if_neg h]
  · unfold aTick
    rw [du_wdu, if_neg (fun q => h q.2), du_wdu, if_neg (fun q => h q.2)]
    split
    · rfl
    · rw [du_wdu, if_neg (fun q => h q.2)]
theorem aOn_tm (T : StV) (k : Nat) : s_tm (aOn T k) = s_tm T := by
  unfold aOn
  split
  · rfl
  · unfold aTick
    rw [tm_wdu, tm_wdu]
    split
    · rfl
    · rw [tm_wdu]
theorem aOn_rs (T : StV) (k : Nat) : s_rs (aOn T k) = s_rs T := by
  unfold aOn
  split
  · rfl
  · unfold aTick
    rw [rs_wdu, rs_wdu]
    split
    · rfl
    · rw [rs_wdu]
theorem aLet_tm (T : StV) (k : Nat) : s_tm (aLet T k) = s_tm T := by unfold aLet; rw [aOn_tm, aTl_tm]
theorem aLet_rs (T : StV) (k : Nat) : s_rs (aLet T k) = s_rs T + 1 := by unfold aLet; rw [aOn_rs, aTl_rs]
theorem tm_pred {t : Int64} (h : 0 ≤ t) : (t - 1).toInt = t.toInt - 1 := by
  rw [y_le, x_0] at h
  have := x_rngL t
  rw [x_subL (by rw [x_1]; omega) (by rw [x_1]; omega), x_1]
theorem loL_le {T : StV} {L : List Nat} {i : Nat} (h : 0 ≤ s_tm T) : loL T L i ≤ s_tm T := by
  show (if i ∈ L then s_tm T - 1 else s_tm T) ≤ s_tm T
  split
  · rw [y_le, tm_pred h]; omega
  · exact Int64.le_refl _
theorem GI.let {T : StV} {k : Nat} {L : List Nat} (h : GI T (k :: L)) : GI (aLet T k) L := by
  obtain ⟨hw, ht, hn⟩ := h
  obtain ⟨hkL, hnL⟩ := List.nodup_cons.mp hn
  have hk2 : s_du T 2 k ≠ (-2000000005 : Int64) := ht k List.mem_cons_self
  have hk0 := hw.there hk2
  have hk := hw.lt hk2
  have hkn : lN k ≠ (-2000000005 : Int64) := lN_ne (by omega)
  have w1 : WI (loL T (k :: L)) (aTl T k) := by
    unfold aTl
    refine WI.tell (T := aRow T k) (hw.congr rfl rfl) hkn (fun i hi => ?_)
    have hi : s_du T 6 i = lN k := hi
    have hi6 : s_du T 6 i ≠ (-2000000005 : Int64) := by rw [hi]; exact hkn
    have r8 := (hw.ri (hw.there hi6)).b.2.2.2.2.2.2.2.1 (hw.ah3 i hi6)
    exact (okT_add hw.1.1 hw.1.2 r8.1 r8.2.1 (loL_le hw.1.1)).1
  have hlo : ∀ i, i ≠ k → loL (aLet T k) L i = loL T (k :: L) i := fun i hi => by
    show (if i ∈ L then s_tm (aLet T k) - 1 else s_tm (aLet T k)) = (if i ∈ k :: L then s_tm T - 1 else s_tm T)
    rw [aLet_tm]
    by_cases q : i ∈ L
    · rw [if_pos q, if_pos (List.mem_cons_of_mem _ q)]
    · rw [if_neg q, if_neg (fun z => (List.mem_cons.mp z).elim hi q)]
  refine ⟨?_, fun d hd => ?_, hnL⟩
  · by_cases q : s_du (aTl T k) 4 k = (-2000000005 : Int64) ∨ s_du (aTl T k) 5 k = 1 ∨ (1125899906842624 : Int64) < s_tm (aTl T k) + s_du (aTl T k) 4 k
    · have e : aLet T k = aClose (aTl T k) k := by unfold aLet aOn; rw [if_pos q]
      rw [e] at hlo ⊢
      exact w1.close (aTell_6 hkn) hlo
    · obtain ⟨r1, r2, r3, r4, r5, r6, r7, r8, r9, r10⟩ := (hw.ri hk0).b
      have e6 : s_du T 6 k = (-2000000005 : Int64) := by
        by_cases z : s_du T 6 k = (-2000000005 : Int64)
        · exact z
        · exact absurd (r7 z).2 hk2
      have e7 : s_du T 7 k = (-2000000005 : Int64) := by
        by_cases z : s_du T 7 k = (-2000000005 : Int64)
        · exact z
        · exact absurd (r9 z).2.1 hk2
      have tl : ∀ f, s_du (aTl T k) f k = s_du T f k := fun f => by rw [aTl_du, if_neg (by rw [e6]; exact hkn.symm)]
      rw [tl 4, tl 5, aTl_tm] at q
      have k14 : s_du T 0 k = 1 ∨ s_du T 0 k = 4 := by
        by_cases z : s_du T 0 k = 1 ∨ s_du T 0 k = 4
        · exact z
        · exact absurd (Or.inl (r6 z).1) q
      have k2 : s_du T 0 k ≠ 2 := fun z => by rw [z] at k14; exact absurd k14 (by decide)
      have k3 : s_du T 0 k ≠ 3 := fun z => by rw [z] at k14; exact absurd k14 (by decide)
      obtain ⟨g1, g2, g3, g4⟩ := r5 k14
      have e : aLet T k = aTick (if s_du T 5 k ≤ 0 then aTl T k else s_wdu (aTl T k) 5 k (s_du T 5 k - 1)) k (s_tm T + s_du T 4 k) := by
        unfold aLet aOn
        rw [tl 4, tl 5, aTl_tm, if_neg q]
      have vo : ∀ f, f ≠ 2 → f ≠ 11 → f ≠ 5 → s_du (aLet T k) f k = s_du T f k := fun f a1 a2 a3 => by
        rw [e]
        unfold aTick
        rw [du_wdu, if_neg (by omega), du_wdu, if_neg (by omega)]
        split
        · exact tl f
        · rw [du_wdu, if_neg (by omega)]; exact tl f
      have v5 : 0 ≤ s_du (aLet T k) 5 k ∧ s_du (aLet T k) 5 k ≤ 1000000 := by
        rw [e]
        unfold aTick
        rw [du_wdu, if_neg (by omega), du_wdu, if_neg (by omega)]
        split
        · rw [tl 5]; exact ⟨g3, g4⟩
        · rename_i z
          rw [du_wdu, if_pos ⟨rfl, rfl⟩]
          have z1 := Int64.not_le.mp z
          rw [y_lt, x_0] at z1
          have e5 := tm_pred g3
          rw [y_le] at g4
          refine ⟨?_, ?_⟩
          · rw [y_le, x_0, e5]; omega
          · rw [y_le, e5]; omega
      have ok := okT_add (lo := s_tm T) hw.1.1 hw.1.2 g1 g2 (Int64.le_refl _)
      have em : mn (s_tm T + s_du T 4 k) = s_tm T + s_du T 4 k := by unfold mn; rw [if_neg (fun z => q (Or.inr (Or.inr z)))]
      rw [em] at ok
      have lk : loL (aLet T k) L k = s_tm T := by
        show (if k ∈ L then s_tm (aLet T k) - 1 else s_tm (aLet T k)) = s_tm T
        rw [if_neg hkL, aLet_tm]
      refine w1.row (by rw [aLet_tm]; exact hw.1) hk (fun i f hi => by unfold aLet; exact aOn_ne hi) hlo (by rw [vo 0 (by omega) (by omega) (by omega)]; exact hk0) ?_ (Or.inr (by rw [vo 6 (by omega) (by omega) (by omega), tl 6]))
      rw [lk]
      refine RI_mk (a0 := s_du T 0 k) (a2 := s_tm T + s_du T 4 k) (a3 := s_du T 3 k) (a4 := s_du T 4 k) (a5 := s_du (aLet T k) 5 k) (a6 := s_du T 6 k) (a7 := s_du T 7 k) (a9 := s_du T 9 k) (a10 := s_du T 10 k) (a11 := 0) (vo 0 (by omega) (by omega) (by omega)) ?_ (vo 3 (by omega) (by omega) (by omega)) (vo 4 (by omega) (by omega) (by omega)) rfl (vo 6 (by omega) (by omega) (by omega)) (vo 7 (by omega) (by omega) (by omega)) (vo 9 (by omega) (by omega) (by omega)) (vo 10 (by omega) (by omega) (by omega)) ?_ ?_
      · show s_du (aLet T k) 2 k = _
        rw [e]; exact aTick_2 _ _ _
      · show s_du (aLet T k) 11 k = 0
        rw [e]
        unfold aTick
        rw [du_wdu, if_pos ⟨rfl, rfl⟩]
      · exact ⟨r1, fun _ => ⟨ok.1.1, ok.1.2.1⟩, fun z => absurd z k2, r4, fun _ => ⟨g1, g2, v5.1, v5.2⟩, fun z => absurd k14 z, fun z => absurd e6 z, fun z => absurd z k3, fun z => absurd e7 z, fun z => absurd z ok.1.2.2⟩
  · have hd2 := ht d (List.mem_cons_of_mem _ hd)
    have hdk : d ≠ k := fun z => hkL (z ▸ hd)
    have e6 : s_du T 6 d = (-2000000005 : Int64) := by
      by_cases z : s_du T 6 d = (-2000000005 : Int64)
      · exact z
      · exact absurd ((hw.ri (hw.there hd2)).b.2.2.2.2.2.2.1 z).2 hd2
    unfold aLet
    rw [aOn_ne hdk, aTl_du, if_neg (by rw [e6]; exact hkn.symm)]
    exact hd2
def aLets : StV → List Nat → StV
  | T, [] => T
  | T, k :: L => aLets (aLet T k) L
theorem GI.lets : ∀ {L : List Nat} {T : StV}, GI T L → IT (aLets T L)
  | [], _, h => h.it
  | _ :: L, _, h => GI.lets (L := L) h.let
theorem aLets_tm : ∀ (L : List Nat) (T : StV), s_tm (aLets T L) = s_tm T
  | [], _ => rfl
  | k :: L, T => (aLets_tm L (aLet T k)).trans (aLet_tm T k)
theorem aLets_rs {n : Nat} : ∀ (L : List Nat) (T : StV) (n : Nat), s_rs T = nI n → s_rs (aLets T L) = nI (n + L.length)
  | [], _, _, h => h
  | k :: L, T, n, h => by
    have := aLets_rs (n := n) L (aLet T k) (n + 1) (by rw [aLet_rs, h, nI_1])
    rw [List.length_cons, show n + (L.length + 1) = n + 1 + L.length by omega]
    exact this
theorem cLets {w : LnV} {N : Nat} (hN : N ≤ 200) (hz : l_sz w = nI N) {post : Int32 → StV → LnV → Prop} :
    ∀ (L : List Nat) (i n : Nat) (v T : StV), i + L.length = N → n + L.length ≤ 300 → s_rs T = nI n → (∀ j d, L[j]? = some d → l_du w (i + j) = nI d) → CS v T → GI T L → (∀ v', CS v' (aLets T L) → post 1 v' w) → LX0_passTick_76 w post (L.length + 1) (nI i) v := by
  intro L
  induction L with
  | nil =>
    intro i n v T hi hn en hd h hG hp
    rw [LX0_passTick_76, hz]
    rw [List.length_nil] at hi
    exact ⟨fun _ => hp v h, fun q => absurd (nI_le (by omega) (by omega)) q⟩
  | cons k L ih =>
    intro i n v T hi hn en hd h hG hp
    rw [List.length_cons] at hi hn
    rw [LX0_passTick_76, hz, nI_clamp (by omega)]
    have e0 : l_du w i = nI k := hd 0 k (List.getElem?_cons_zero)
    have hk2 := hG.2.1 k List.mem_cons_self
    rw [e0]
    refine ⟨fun q => absurd ((nI_leI (by omega) (by omega)).mp q) (by omega), fun _ => ⟨vp_in_nI (by omega) (by omega), ?_⟩⟩
    refine cLet h (n := n) (by omega) en hG.1.ah3 rfl (hG.1.lt hk2) (hG.1.there hk2) (fun v' hv' => ?_)
    rintro _ rfl
    rw [nI_1]
    refine ih (i + 1) (n + 1) v' (aLet T k) (by omega) (by omega) (by rw [aLet_rs, en, nI_1]) (fun j d z => ?_) hv' hG.let hp
    rw [show i + 1 + j = i + (j + 1) by omega]
    exact hd (j + 1) d (by rw [List.getElem?_cons_succ]; exact z)
theorem MS.rn {s : Nat → Int64} {T : StV} (h : MS s T) {n : Nat} (hn : n < 2 ^ 31) (hr : s_rs T = nI n) : s 3702 = lN n := by
  obtain ⟨⟨n', h1, h2⟩, -⟩ := h.1
  have := h.rs
  rw [h2, lN_i, hr] at this
  rw [h2, (nI_eq (by omega) hn).mp this]
theorem mLets {r : MmV} {N : Nat} (hN : N ≤ 200) (hz : m_gc r = nI N) {x1 : Int64} {post : MmV → Prop} :
    ∀ (L : List Nat) (i n : Nat) (s : Nat → Int64) (T : StV), i + L.length = N → n + L.length ≤ 300 → s_rs T = nI n → x1 = s_tm T → (∀ j d, L[j]? = some d → m_gs r (i + j) = nI d) → MS s T → GI T L → (∀ s', MS s' (aLets T L) → post (m_ws r s')) → LX7_goAll_2 x1 post (L.length + 1) (nI i) (m_ws r s) := by
  intro L
  induction L with
  | nil =>
    intro i n s T hi hn en hx hd h hG hp
    rw [LX7_goAll_2, m_ws_m_gc, hz]
    rw [List.length_nil] at hi
    exact ⟨fun _ => hp s h, fun q => absurd (nI_le (by omega) (by omega)) q⟩
  | cons k L ih =>
    intro i n s T hi hn en hx hd h hG hp
    rw [List.length_cons] at hi hn
    have e0 : m_gs r i = nI k := hd 0 k (List.getElem?_cons_zero)
    have hk2 := hG.2.1 k List.mem_cons_self
    have hk := hG.1.lt hk2
    have hk0 := hG.1.there hk2
    have en2 : s 3702 = lN n := h.rn (by omega) en
    have ex : ((2800 : Int64) + 3 * s 3702).toInt32 = nI (2800 + 3 * n) := by rw [en2, show (3 : Int64) = lN 3 from rfl, lN_mul, show (2800 : Int64) = lN 2800 from rfl, lN_add, lN_i]
    have e1 : (nI k).toInt64 = lN k := nI_l (by omega)
    have f1 : s (14 * k + 2) = s_du T 1 k := h.f (f := 1) hk0 (by omega) (by omega) (by omega)
    rw [LX7_goAll_2, m_ws_m_gc, hz, nI_clamp (show i < 2 ^ 31 by omega), m_ws_m_gs, e0, m_ws_m_s, ex]
    refine ⟨fun q => absurd ((nI_leI (by omega) (by omega)).mp q) (by omega), fun _ => ⟨vp_in_nI (by omega) (by omega), ?_⟩⟩
    rintro _ rfl _ rfl
    rw [nI_1 (2800 + 3 * n), show (2 : Int32) = nI 2 from rfl, nI_add, nI_clamp (show 2800 + 3 * n < 2 ^ 31 by omega), nI_clamp (show 2800 + 3 * n + 1 < 2 ^ 31 by omega), nI_clamp (show 2800 + 3 * n + 2 < 2 ^ 31 by omega)]
    refine ⟨vp_in_nI (by omega) (by omega), ?_⟩
    rintro _ rfl
    refine ⟨vp_in_nI (by omega) (by omega), ?_⟩
    rintro _ rfl
    simp only [m_ws_m_s, m_ws_ws]
    refine mGet (m_ws_m_s r _) rfl hk (c := 2) rfl (by omega) ?_
    rw [updL_ne (by omega), updL_ne (by omega), f1]
    refine ⟨vp_in_nI (by omega) (by omega), ?_⟩
    rintro _ rfl _ rfl _ rfl
    simp only [m_ws_m_s, m_ws_ws]
    have c1 : vp_updL (vp_updL (vp_updL s (2800 + 3 * n) (nI k).toInt64) (2800 + 3 * n + 1) x1) (2800 + 3 * n + 2) (s_du T 1 k) 3702 = lN n := by rw [updL_ne (by omega), updL_ne (by omega), updL_ne (by omega), en2]
    have c2 : vp_updL (vp_updL (vp_updL (vp_updL s (2800 + 3 * n) (nI k).toInt64) (2800 + 3 * n + 1) x1) (2800 + 3 * n + 2) (s_du T 1 k)) 3702 (lN (n + 1)) 3703 = s 3703 := by rw [updL_ne (by omega), updL_ne (by omega), updL_ne (by omega), updL_ne (by omega)]
    rw [c1, lN_1, c2, e1]
    subst hx
    refine mTell (mRow h (by omega) en2) (by rw [e1]; exact lN_ne (by omega)) hG.1.ah3 (fun i hi => hG.1.2.2.1 i 6 (hG.1.2.2.2.1 i hi)) (fun s1 hs1 => ?_)
    rw [e1] at hs1
    have hs1 : MS s1 (aTl T k) := hs1
    obtain ⟨r1, r2, r3, r4, r5, r6, r7, r8, r9, r10⟩ := (hG.1.ri hk0).b
    have t0 : s_du (aTl T k) 0 k = s_du T 0 k := aTl_f (by omega) (by omega) (by omega)
    have t4 : s_du (aTl T k) 4 k = s_du T 4 k := aTl_f (by omega) (by omega) (by omega)
    have t5 : s_du (aTl T k) 5 k = s_du T 5 k := aTl_f (by omega) (by omega) (by omega)
    refine mOn hs1 hk (by rw [t0]; exact hk0) (fun z => ?_) (fun z => ?_) rfl (fun s2 hs2 => ?_)
    · rw [t0] at z
      rw [t4, t5]
      have := r5 z
      exact ⟨fun y => by
        have y1 := this.1
        rw [y] at y1
        exact absurd y1 (by decide), this.2.2.1⟩
    · rw [t0] at z
      rw [t4]
      exact (r6 z).1
    rintro _ rfl
    rw [nI_1]
    refine ih (i + 1) (n + 1) s2 (aLet T k) (by omega) (by omega) (by rw [aLet_rs, en, nI_1]) (aLet_tm T k).symm (fun j d z => ?_) hs2 hG.let hp
    rw [show i + 1 + j = i + (j + 1) by omega]
    exact hd (j + 1) d (by rw [List.getElem?_cons_succ]; exact z)
