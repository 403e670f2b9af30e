/-! the model's kept blocks -/
theorem MS.congr {s s' : Nat → Int64} {T : StV} (h : MS s T) (hc : ∀ k, k < 3705 → s' k = s k) : MS s' T := by
  obtain ⟨⟨n, hn, e⟩, h2⟩ := id h.1
  refine ⟨⟨⟨n, hn, by rw [hc _ (by omega)]; exact e⟩, fun k hk q => ?_⟩, vM_ext (s := s) ?_ ?_ ?_ ?_ h.en ?_ (fun f i => ?_) (fun k i => ?_)⟩
  · rw [hc _ (by omega)] at q ⊢
    exact h2 k hk q
  · rw [hc _ (by omega)]; exact h.tm
  · rw [hc _ (by omega)]; exact h.pl
  · rw [hc _ (by omega)]; exact h.go
  · rw [hc _ (by omega)]; exact h.mv
  · rw [hc _ (by omega)]; exact h.rs
  · rw [h.du]
    exact congrFun (rM_congr (fun c hc2 hi => hc _ (by omega))) f
  · rw [hc 3702 (by omega)]
    refine Eq.trans ?_ (h.ro k i).symm
    rw [e, lN_i, nI_clamp (by omega)]
    by_cases q : k < 3 ∧ i < n
    · rw [if_pos q, if_pos q, hc _ (by omega)]
    · rw [if_neg q, if_neg q]
def MK (r : MmV) (Z : StV × List StV) : Prop := MS (m_s r) Z.1 ∧ ∃ n, n ≤ 6 ∧ m_kp r = nI n ∧ Z.2.length = n ∧ ∀ i, i < n → ∃ T, Z.2[i]? = some T ∧ MS (fun k => m_bf r (3705 * (n - 1 - i) + k)) T
theorem MK.upd {r r' : MmV} {Z : StV × List StV} (h : MK r Z) {T : StV} (hs : MS (m_s r') T) (hb : m_bf r' = m_bf r) (hk : m_kp r' = m_kp r) : MK r' (T, Z.2) := by
  obtain ⟨-, n, h1, h2, h3, h4⟩ := h
  exact ⟨hs, n, h1, hk.trans h2, h3, by rw [hb]; exact h4⟩
def shf (b : Nat → Int64) (k : Nat) : Nat → Int64 := fun j => if j < k then b (j + 3705) else b j
theorem shf_step (b : Nat → Int64) (k : Nat) : vp_updL (shf b k) k (shf b k (k + 3705)) = shf b (k + 1) := by
  funext j
  unfold vp_updL
  by_cases h : j = k
  · subst h
    rw [if_pos rfl]
    unfold shf
    rw [if_neg (by omega), if_pos (by omega)]
  · rw [if_neg h]
    unfold shf
    by_cases h2 : j < k
    · rw [if_pos h2, if_pos (by omega)]
    · rw [if_neg h2, if_neg (by omega)]
theorem mKeep1 {r0 : MmV} {b : Nat → Int64} {K post : MmV → Prop} (hp : K (m_wbf r0 (shf b 18525))) :
    ∀ m k, k + m = 18525 → LX7_keep_11 K post (m + 1) (nI k) (m_wbf r0 (shf b k)) := by
  intro m
  induction m with
  | zero =>
    intro k hk
    obtain rfl : k = 18525 := by omega
    rw [LX7_keep_11]
    exact ⟨fun _ => hp, fun q => absurd (by decide) q⟩
  | succ m ih =>
    intro k hk
    rw [LX7_keep_11, show nI k + (3705 : Int32) = nI (k + 3705) from by rw [show (3705 : Int32) = nI 3705 from rfl, nI_add], nI_clamp (show k < 2 ^ 31 by omega), nI_clamp (show k + 3705 < 2 ^ 31 by omega)]
    refine ⟨fun q => absurd q ?_, fun _ => ⟨vp_in_nI (by omega) (by omega), vp_in_nI (by omega) (by omega), ?_⟩⟩
    · rw [show (18525 : Int32) = nI 18525 from rfl, nI_leI (by omega) (by omega)]; omega
    · rintro _ rfl _ rfl
      have e1 : m_wbf (m_wbf r0 (shf b k)) (vp_updL (m_bf (m_wbf r0 (shf b k))) k (m_bf (m_wbf r0 (shf b k)) (k + 3705))) = m_wbf r0 (shf b (k + 1)) := by
        rw [← shf_step]
        rfl
      rw [e1, nI_1]
      exact ih (k + 1) (by omega)
def blk (b s : Nat → Int64) (n k : Nat) : Nat → Int64 := fun j => if 3705 * n ≤ j ∧ j < 3705 * n + k then s (j - 3705 * n) else b j
theorem blk_step (b s : Nat → Int64) (n k : Nat) : vp_updL (blk b s n k) (3705 * n + k) (s k) = blk b s n (k + 1) := by
  funext j
  unfold vp_updL
  by_cases h : j = 3705 * n + k
  · subst h
    rw [if_pos rfl]
    unfold blk
    rw [if_pos (by omega), show 3705 * n + k - 3705 * n = k by omega]
  · rw [if_neg h]
    unfold blk
    by_cases h2 : 3705 * n ≤ j ∧ j < 3705 * n + k
    · rw [if_pos h2, if_pos (by omega)]
    · rw [if_neg h2, if_neg (by omega)]
theorem mKeep2 {r0 : MmV} {b : Nat → Int64} {n : Nat} (hn : n < 6) (en : m_kp r0 = nI n) {post : MmV → Prop} (hp : post (m_wkp (m_wbf r0 (blk b (m_s r0) n 3705)) (nI (n + 1)))) :
    ∀ m k, k + m = 3705 → LX7_keep_52 post (m + 1) (nI k) (m_wbf r0 (blk b (m_s r0) n k)) := by
  intro m
  induction m with
  | zero =>
    intro k hk
    obtain rfl : k = 3705 := by omega
    rw [LX7_keep_52]
    refine ⟨fun _ => ?_, fun q => absurd (by decide) q⟩
    rintro _ rfl
    have e1 : m_kp (m_wbf r0 (blk b (m_s r0) n 3705)) = nI n := (m_wbf_m_kp r0 _).trans en
    rw [e1, nI_1]
    exact hp
  | succ m ih =>
    intro k hk
    have e1 : m_kp (m_wbf r0 (blk b (m_s r0) n k)) = nI n := (m_wbf_m_kp r0 _).trans en
    rw [LX7_keep_52, e1, show (3705 : Int32) * nI n + nI k = nI (3705 * n + k) from by rw [show (3705 : Int32) = nI 3705 from rfl, pk_mul, nI_add], nI_clamp (show k < 2 ^ 31 by omega), nI_clamp (show 3705 * n + k < 2 ^ 31 by omega)]
    refine ⟨fun q => absurd q ?_, fun _ => ⟨vp_in_nI (by omega) (by omega), vp_in_nI (by omega) (by omega), ?_⟩⟩
    · rw [show (3705 : Int32) = nI 3705 from rfl, nI_leI (by omega) (by omega)]; omega
    · rintro _ rfl _ rfl
      have e2 : m_wbf (m_wbf r0 (blk b (m_s r0) n k)) (vp_updL (m_bf (m_wbf r0 (blk b (m_s r0) n k))) (3705 * n + k) (m_s (m_wbf r0 (blk b (m_s r0) n k)) k)) = m_wbf r0 (blk b (m_s r0) n (k + 1)) := by
        rw [← blk_step]
        rfl
      rw [e2, nI_1]
      exact ih (k + 1) (by omega)
theorem blk_0 (b s : Nat → Int64) (n : Nat) : blk b s n 0 = b := by
  funext j
  unfold blk
  rw [if_neg (by omega)]
theorem shf_0 (b : Nat → Int64) : shf b 0 = b := by
  funext j
  unfold shf
  rw [if_neg (by omega)]
theorem m_ebf (r : MmV) : m_wbf r (m_bf r) = r := rfl
theorem m_ews (r : MmV) : m_ws r (m_s r) = r := rfl
theorem mKeep {r : MmV} {Z : StV × List StV} (h : MK r Z) {post : MmV → Prop} (hp : ∀ r', MK r' (zKeep Z) → m_s r' = m_s r → post r') : PX7_keep r post := by
  obtain ⟨hs, n, h1, h2, h3, h4⟩ := h
  unfold PX7_keep
  refine ⟨fun q => ?_, fun q => ?_⟩
  · have hn : n = 6 := by
      rw [h2, show (6 : Int32) = nI 6 from rfl] at q
      exact (nI_eq (by omega) (by omega)).mp q
    subst hn
    have hl := mKeep1 (r0 := r) (b := m_bf r) (K := fun (r_14 : MmV) => ∀ r_15 : MmV, r_15 = m_wkp r_14 ((m_kp r_14) - (1 : Int32)) → (∃ n_16 : Nat, LX7_keep_52 post n_16 (0 : Int32) r_15)) (post := post) ?_ 18525 0 (by omega)
    · rw [shf_0, m_ebf] at hl
      exact ⟨_, hl⟩
    · rintro _ rfl
      have e1 : m_kp (m_wbf r (shf (m_bf r) 18525)) - 1 = nI 5 := by
        rw [m_wbf_m_kp, h2]
        decide
      rw [e1]
      obtain ⟨r1, er1⟩ : ∃ z, z = m_wkp (m_wbf r (shf (m_bf r) 18525)) (nI 5) := ⟨_, rfl⟩
      rw [← er1]
      have es : m_s r1 = m_s r := by rw [er1]; rfl
      have eb : m_bf r1 = shf (m_bf r) 18525 := by rw [er1]; rfl
      have ek : m_kp r1 = nI 5 := by rw [er1]; exact m_wkp_m_kp _ _
      have hl2 := mKeep2 (r0 := r1) (b := m_bf r1) (n := 5) (by omega) ek (post := post) ?_ 3705 0 (by omega)
      · rw [blk_0, m_ebf] at hl2
        exact ⟨_, hl2⟩
      · refine hp _ ⟨?_, 6, by omega, m_wkp_m_kp _ _, ?_, fun i hi => ?_⟩ es
        · show MS (m_s r1) Z.1
          rw [es]; exact hs
        · show ((Z.1 :: Z.2).take 6).length = 6
          rw [List.length_take, List.length_cons, h3]
          rfl
        · show ∃ T, ((Z.1 :: Z.2).take 6)[i]? = some T ∧ MS (fun k => blk (m_bf r1) (m_s r1) 5 3705 (3705 * (6 - 1 - i) + k)) T
          rw [List.getElem?_take_of_lt hi]
          cases i with
          | zero =>
            refine ⟨Z.1, List.getElem?_cons_zero, hs.congr (fun k hk => ?_)⟩
            unfold blk
            rw [if_pos (by omega), es, show 3705 * (6 - 1 - 0) + k - 3705 * 5 = k by omega]
          | succ i =>
            obtain ⟨T, hT, hM⟩ := h4 i (by omega)
            refine ⟨T, (List.getElem?_cons_succ).trans hT, hM.congr (fun k hk => ?_)⟩
            unfold blk
            rw [if_neg (by omega), eb]
            unfold shf
            rw [if_pos (by omega)]
            congr 1
            omega
  · have hn : n < 6 := by
      rcases Nat.lt_or_ge n 6 with z | z
      · exact z
      · exfalso
        apply q
        rw [h2, show n = 6 by omega]
        rfl
    have hl2 := mKeep2 (r0 := r) (b := m_bf r) hn h2 (post := post) ?_ 3705 0 (by omega)
    · rw [blk_0, m_ebf] at hl2
      exact ⟨_, hl2⟩
    · refine hp _ ⟨hs, n + 1, by omega, m_wkp_m_kp _ _, ?_, fun i hi => ?_⟩ rfl
      · show ((Z.1 :: Z.2).take 6).length = n + 1
        rw [List.length_take, List.length_cons, h3]
        omega
      · show ∃ T, ((Z.1 :: Z.2).take 6)[i]? = some T ∧ MS (fun k => blk (m_bf r) (m_s r) n 3705 (3705 * (n + 1 - 1 - i) + k)) T
        rw [List.getElem?_take_of_lt (by omega)]
        cases i with
        | zero =>
          refine ⟨Z.1, List.getElem?_cons_zero, hs.congr (fun k hk => ?_)⟩
          unfold blk
          rw [if_pos (by omega), show 3705 * (n + 1 - 1 - 0) + k - 3705 * n = k by omega]
        | succ i =>
          obtain ⟨T, hT, hM⟩ := h4 i (by omega)
          refine ⟨T, (List.getElem?_cons_succ).trans hT, hM.congr (fun k hk => ?_)⟩
          unfold blk
          rw [if_neg (by omega)]
          congr 1
          omega
def und (s b : Nat → Int64) (n k : Nat) : Nat → Int64 := fun j => if j < k then b (3705 * n + j) else s j
theorem und_step (s b : Nat → Int64) (n k : Nat) : vp_updL (und s b n k) k (b (3705 * n + k)) = und s b n (k + 1) := by
  funext j
  unfold vp_updL
  by_cases h : j = k
  · subst h
    rw [if_pos rfl]
    unfold und
    rw [if_pos (by omega)]
  · rw [if_neg h]
    unfold und
    by_cases h2 : j < k
    · rw [if_pos h2, if_pos (by omega)]
    · rw [if_neg h2, if_neg (by omega)]
theorem mUndo_loop {r0 : MmV} {s : Nat → Int64} {n : Nat} (hn : n < 6) (en : m_kp r0 = nI n) {post : Int64 → MmV → Prop} (hp : post (lN n) (m_ws r0 (und s (m_bf r0) n 3705))) :
    ∀ m k, k + m = 3705 → LX7_undo_23 post (m + 1) (nI k) (m_ws r0 (und s (m_bf r0) n k)) := by
  intro m
  induction m with
  | zero =>
    intro k hk
    obtain rfl : k = 3705 := by omega
    rw [LX7_undo_23]
    refine ⟨fun _ => ?_, fun q => absurd (by decide) q⟩
    have e1 : m_kp (m_ws r0 (und s (m_bf r0) n 3705)) = nI n := (m_ws_m_kp r0 _).trans en
    rw [e1, nI_l (by omega)]
    exact hp
  | succ m ih =>
    intro k hk
    have e1 : m_kp (m_ws r0 (und s (m_bf r0) n k)) = nI n := (m_ws_m_kp r0 _).trans en
    rw [LX7_undo_23, e1, show (3705 : Int32) * nI n + nI k = nI (3705 * n + k) from by rw [show (3705 : Int32) = nI 3705 from rfl, pk_mul, nI_add], nI_clamp (show k < 2 ^ 31 by omega), nI_clamp (show 3705 * n + k < 2 ^ 31 by omega)]
    refine ⟨fun q => absurd q ?_, fun _ => ⟨vp_in_nI (by omega) (by omega), vp_in_nI (by omega) (by omega), ?_⟩⟩
    · rw [show (3705 : Int32) = nI 3705 from rfl, nI_leI (by omega) (by omega)]; omega
    · rintro _ rfl _ rfl
      have e2 : m_ws (m_ws r0 (und s (m_bf r0) n k)) (vp_updL (m_s (m_ws r0 (und s (m_bf r0) n k))) k (m_bf (m_ws r0 (und s (m_bf r0) n k)) (3705 * n + k))) = m_ws r0 (und s (m_bf r0) n (k + 1)) := by
        rw [← und_step]
        rfl
      rw [e2, nI_1]
      exact ih (k + 1) (by omega)
def zUndo (Z : StV × List StV) : Int64 × (StV × List StV) := match Z.2 with
  | [] => ((-2000000002 : Int64), Z)
  | T1 :: L => (lN L.length, (T1, L))
theorem mUndo {r : MmV} {Z : StV × List StV} (h : MK r Z) {post : Int64 → MmV → Prop} (hp : ∀ r', MK r' (zUndo Z).2 → post (zUndo Z).1 r') : PX7_undo r post := by
  obtain ⟨T, L⟩ := Z
  obtain ⟨hs, n, h1, h2, h3, h4⟩ := id h
  unfold PX7_undo
  cases L with
  | nil =>
    have hn : n = 0 := h3.symm
    subst hn
    refine ⟨fun _ => hp r h, fun q => absurd h2 q⟩
  | cons T1 L =>
    have hn : n = L.length + 1 := h3.symm
    refine ⟨fun q => absurd (h2.symm.trans q) (nI_ne0 (by omega) (by omega)), fun _ => ?_⟩
    rintro _ rfl
    have ek : m_kp r - 1 = nI L.length := by rw [h2, hn, nI_pred]
    rw [ek]
    obtain ⟨r1, er1⟩ : ∃ z, z = m_wkp r (nI L.length) := ⟨_, rfl⟩
    rw [← er1]
    have es : m_s r1 = m_s r := by rw [er1]; rfl
    have eb : m_bf r1 = m_bf r := by rw [er1]; rfl
    have ek1 : m_kp r1 = nI L.length := by rw [er1]; exact m_wkp_m_kp _ _
    have hl := mUndo_loop (r0 := r1) (s := m_s r1) (n := L.length) (by omega) ek1 (post := post) ?_ 3705 0 (by omega)
    · have e0 : und (m_s r1) (m_bf r1) L.length 0 = m_s r1 := by
        funext j
        unfold und
        rw [if_neg (by omega)]
      rw [e0, m_ews] at hl
      exact ⟨_, hl⟩
    · refine hp _ ⟨?_, L.length, by omega, (m_ws_m_kp r1 _).trans ek1, rfl, fun i hi => ?_⟩
      · obtain ⟨T2, hT, hM⟩ := h4 0 (by omega)
        have : T2 = T1 := by
          have := hT
          rw [show ((T, T1 :: L) : StV × List StV).2 = T1 :: L from rfl, List.getElem?_cons_zero] at this
          exact (Option.some.inj this).symm
        subst this
        refine hM.congr (fun k hk => ?_)
        show und (m_s r1) (m_bf r1) L.length 3705 k = _
        unfold und
        rw [if_pos hk, eb, hn]
        congr 1
      · obtain ⟨T2, hT, hM⟩ := h4 (i + 1) (by omega)
        have h5 : (T1 :: L)[i + 1]? = L[i]? := List.getElem?_cons_succ
        refine ⟨T2, h5.symm.trans hT, ?_⟩
        show MS (fun k => m_bf r1 (3705 * (L.length - 1 - i) + k)) T2
        rw [eb]
        rw [show n - 1 - (i + 1) = L.length - 1 - i by omega] at hM
        exact hM
theorem cUndo {st : Nat → StV} {kv : KvV} {cu : Nat} {Z : StV × List StV} (h : KI st kv cu Z) {post : Int64 → KvV → Nat → Prop} (hp : ∀ kv' cu', KI st kv' cu' (zUndo Z).2 → post (zUndo Z).1 kv' cu') : PX6_undo kv cu post := by
  obtain ⟨T, L⟩ := Z
  obtain ⟨a, n, h1, h2, h3, h4, hR, h9, h10, h11⟩ := id h
  unfold PX6_undo
  cases L with
  | nil =>
    have hn : n = 0 := h10.symm
    subst hn
    exact ⟨fun _ => hp kv cu h, fun q => absurd h4 q⟩
  | cons T1 L =>
    have hn : n = L.length + 1 := h10.symm
    refine ⟨fun q => absurd (h4.symm.trans q) (nI_ne0 (by omega) (by omega)), fun _ => ?_⟩
    refine cTakeBack h (fun cu' kv' hk hz => ⟨hk.cu7, ?_⟩)
    rintro _ rfl
    rw [hz, nI_l (by omega)]
    exact hp kv' _ hk
