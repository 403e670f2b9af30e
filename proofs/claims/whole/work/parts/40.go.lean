/-! go: from tick to tick; both sides -/
theorem lt_lb (T : StV) : ∀ n i, i < n → s_du T 2 i ≠ (-2000000005 : Int64) → lt T n ≤ s_du T 2 i
  | 0, i, h, _ => absurd h (by omega)
  | n + 1, i, h, q => by
    rw [lt]
    by_cases z : i = n
    · subst z
      rw [if_neg q]
      split
      · assumption
      · exact Int64.le_refl _
    · have ih := lt_lb T n i (by omega) q
      split
      · exact ih
      · split
        · exact ih
        · rename_i z2
          exact Int64.le_trans (Int64.le_of_lt (Int64.not_le.mp z2)) ih
theorem lt_at (T : StV) (n : Nat) (h : lt T n < (1125899906842624 : Int64)) : ∃ i, i < n ∧ s_du T 2 i = lt T n ∧ s_du T 2 i ≠ (-2000000005 : Int64) := by
  induction n with
  | zero =>
    have e : lt T 0 = (1125899906842624 : Int64) := rfl
    rw [e, y_lt] at h
    omega
  | succ n ih =>
    rw [lt] at h ⊢
    by_cases z : s_du T 2 n = (-2000000005 : Int64)
    · rw [if_pos z] at h ⊢
      obtain ⟨i, h1, h2⟩ := ih h
      exact ⟨i, by omega, h2⟩
    · rw [if_neg z] at h ⊢
      by_cases z2 : lt T n ≤ s_du T 2 n
      · rw [if_pos z2] at h ⊢
        obtain ⟨i, h1, h2⟩ := ih h
        exact ⟨i, by omega, h2⟩
      · rw [if_neg z2]
        exact ⟨n, by omega, rfl, z⟩
theorem IT.ltb {T : StV} (h : IT T) {i : Nat} (q : s_du T 2 i ≠ (-2000000005 : Int64)) : lt T 200 ≤ s_du T 2 i := lt_lb T 200 i (h.wi.lt q) q
theorem IT.ltm {T : StV} (h : IT T) (q : lt T 200 < (1125899906842624 : Int64)) : s_tm T < lt T 200 := by
  obtain ⟨i, h1, h2, h3⟩ := lt_at T 200 q
  rw [← h2]
  exact ((h.ri (h.there h3)).b.2.1 h3).1
theorem psN_no {T : StV} {t : Int64} {f i : Nat} (h : s_du T 2 i = (-2000000005 : Int64)) : ∀ n, s_du (psN T t n) f i = s_du T f i
  | 0 => rfl
  | n + 1 => by
    rw [psN]
    split
    · exact psN_no h n
    · rename_i q
      rw [s_wmv_s_du, du_wdu, if_neg (fun z => q (by rw [← z.2]; exact h))]
      exact psN_no h n
theorem psN_rs (T : StV) (t : Int64) : ∀ n, s_rs (psN T t n) = s_rs T
  | 0 => rfl
  | n + 1 => by
    rw [psN]
    split
    · exact psN_rs T t n
    · rw [s_wmv_s_rs, rs_wdu]; exact psN_rs T t n
theorem aPass_tm (T : StV) (t : Int64) : s_tm (aPass T t) = t := rfl
theorem aPass_rs (T : StV) (t : Int64) : s_rs (aPass T t) = s_rs T := psN_rs T t 200
theorem aPass_f (T : StV) (t : Int64) {f i : Nat} (h : f ≠ 11) : s_du (aPass T t) f i = s_du T f i := psN_du T t f i 200 (Or.inl h)
theorem aPass_no {T : StV} {t : Int64} {f i : Nat} (h : s_du T 2 i = (-2000000005 : Int64)) : s_du (aPass T t) f i = s_du T f i := psN_no h 200
theorem IT.pass {T : StV} {t : Int64} (h : IT T) (t0 : 0 ≤ t) (t1 : t < (1125899906842624 : Int64)) {lo : Nat → Int64} (hl : ∀ i, s_du T 2 i ≠ (-2000000005 : Int64) → lo i < s_du T 2 i) : WI lo (aPass T t) := by
  have f : ∀ a i, a ≠ 11 → s_du (aPass T t) a i = s_du T a i := fun a i ha => aPass_f T t ha
  refine ⟨⟨t0, t1⟩, fun i hi => ?_, fun i a hi => ?_, fun i hi => ?_, fun i hi => ?_, ?_⟩
  · rw [f 0 i (by omega)] at hi
    obtain ⟨r1, r2, r3, r4, r5, r6, r7, r8, r9, r10⟩ := (h.ri hi).b
    exact RI_mk (f 0 i (by omega)) (f 2 i (by omega)) (f 3 i (by omega)) (f 4 i (by omega)) (f 5 i (by omega)) (f 6 i (by omega)) (f 7 i (by omega)) (f 9 i (by omega)) (f 10 i (by omega)) rfl ⟨r1, fun z => ⟨hl i z, (r2 z).2⟩, r3, r4, r5, r6, r7, r8, r9, fun z => ⟨(r10 z).1, (aPass_no z).trans (r10 z).2⟩⟩
  · rw [f 0 i (by omega)] at hi
    rw [aPass_no (h.2.2.1 i 2 hi)]
    exact h.2.2.1 i a hi
  · rw [f 0 i (by omega)]; exact h.2.2.2.1 i hi
  · rw [f 6 i (by omega)] at hi ⊢
    obtain ⟨j, h1, h2, h3⟩ := h.2.2.2.2.1 i hi
    exact ⟨j, h1, h2, by rw [f 0 j (by omega)]; exact h3⟩
  · obtain ⟨r, hr⟩ := h.2.2.2.2.2
    exact ⟨r, fun i j e hj => hr i j (by rw [f 6 i (by omega)] at e; exact e) hj⟩
def gO (T : StV) : List Nat := (gL T (lt T 200) (fsN T (lt T 200) 200) 200).reverse
theorem gO_mem {T : StV} {i : Nat} : i ∈ gO T ↔ i < 200 ∧ gP T (lt T 200) (fsN T (lt T 200) 200) i := by
  unfold gO gL
  rw [List.mem_reverse, gLs_mem]
theorem gO_len (T : StV) : (gO T).length ≤ 200 := by
  unfold gO gL
  rw [List.length_reverse]
  exact gLs_len 200
theorem gO_pos {T : StV} (h : lt T 200 < (1125899906842624 : Int64)) : 0 < (gO T).length := by
  obtain ⟨i, h1, h2, h3⟩ := lt_at T 200 h
  exact List.length_pos_of_mem (gO_mem.mpr ⟨h1, Or.inl h2⟩)
theorem lt_ne {T : StV} (h : IT T) (q : lt T 200 < (1125899906842624 : Int64)) : lt T 200 ≠ (-2000000005 : Int64) ∧ 0 ≤ lt T 200 := by
  have a := h.ltm q
  have b := h.1.1
  rw [y_le, x_0] at b
  rw [y_lt] at a
  exact ⟨fun z => by rw [z, x_N] at a; omega, by rw [y_le, x_0]; omega⟩
theorem GI.start {T : StV} (h : IT T) (hM : lt T 200 < (1125899906842624 : Int64)) : GI (aPass T (lt T 200)) (gO T) := by
  obtain ⟨n1, n2⟩ := lt_ne h hM
  refine ⟨h.pass n2 hM (fun i q => ?_), fun d hd => ?_, ?_⟩
  · show (if i ∈ gO T then s_tm (aPass T (lt T 200)) - 1 else s_tm (aPass T (lt T 200))) < s_du T 2 i
    rw [aPass_tm]
    have lb := h.ltb q
    split
    · rw [y_lt, tm_pred n2]
      rw [y_le] at lb
      omega
    · rename_i z
      have ne : s_du T 2 i ≠ lt T 200 := fun y => z (gO_mem.mpr ⟨h.wi.lt q, Or.inl y⟩)
      rw [y_le] at lb
      rw [y_lt]
      rcases Int.lt_or_eq_of_le lb with w | w
      · exact w
      · exact absurd (y_eq.mpr w.symm) ne
  · rw [aPass_f T _ (by omega)]
    rcases (gO_mem.mp hd).2 with z | z
    · rw [z]; exact n1
    · exact ((h.ri (i := d) (by rw [z.2.1]; decide)).b.2.2.1 z.2.1).2
  · unfold gO gL
    exact List.pairwise_reverse.mpr ((gLs_nd 200).imp (fun h => h.symm))
theorem rev_at {R : List Nat} {g : Nat → Int32} (h : ∀ j d, R[j]? = some d → g (R.length - 1 - j) = nI d) : ∀ j d, R.reverse[j]? = some d → g (0 + j) = nI d := fun j d q => by
  have hj : j < R.length := by
    have := (List.getElem?_eq_some_iff.mp q).1
    rwa [List.length_reverse] at this
  rw [List.getElem?_reverse hj] at q
  have := h _ d q
  rw [show R.length - 1 - (R.length - 1 - j) = 0 + j by omega] at this
  exact this
def aGo (to : Int64) : Nat → StV → StV
  | 0, T => T
  | m + 1, T => if (1125899906842624 : Int64) ≤ lt T 200 ∨ to < lt T 200 then aPass T to else if 300 < (s_rs T).toNatClampNeg + (gO T).length then aPass T (lt T 200 - 1) else aGo to m (aLets (aPass T (lt T 200)) (gO T))
theorem aGo_IT {to : Int64} (t1 : to < (1125899906842624 : Int64)) : ∀ m T, IT T → s_tm T ≤ to → IT (aGo to m T)
  | 0, T, h, _ => h
  | m + 1, T, h, t0 => by
    have tm0 : 0 ≤ to := Int64.le_trans h.1.1 t0
    rw [aGo]
    by_cases q : (1125899906842624 : Int64) ≤ lt T 200 ∨ to < lt T 200
    · rw [if_pos q]
      refine (h.pass (lo := fun _ => to) tm0 t1 (fun i z => ?_)).it
      have lb := h.ltb z
      have : to < lt T 200 := q.elim (fun w => by rw [y_le] at w; rw [y_lt] at t1 ⊢; omega) id
      rw [y_le] at lb
      rw [y_lt] at this ⊢
      omega
    · rw [if_neg q]
      have q1 : lt T 200 < (1125899906842624 : Int64) := Int64.not_le.mp (fun z => q (Or.inl z))
      have q2 : lt T 200 ≤ to := Int64.not_lt.mp (fun z => q (Or.inr z))
      obtain ⟨n1, n2⟩ := lt_ne h q1
      have a := h.ltm q1
      have b := h.1.1
      have c := tm_pred n2
      by_cases q3 : 300 < (s_rs T).toNatClampNeg + (gO T).length
      · rw [if_pos q3]
        rw [y_le, x_0] at b
        rw [y_lt] at a q1
        refine (h.pass (t := lt T 200 - 1) (lo := fun _ => lt T 200 - 1) (by rw [y_le, x_0]; omega) (by rw [y_lt]; omega) (fun i z => ?_)).it
        have lb := h.ltb z
        rw [y_le] at lb
        rw [y_lt]
        omega
      · rw [if_neg q3]
        exact aGo_IT t1 m _ (GI.start h q1).lets (by rw [aLets_tm, aPass_tm]; exact q2)
theorem cGo_loop {to : Int64} (t1 : to < (1125899906842624 : Int64)) {post : StV → LnV → Prop} :
    ∀ m x5 v w T n, x5 + m = 301 → CS v T → IT T → s_tm T ≤ to → n ≤ 300 → s_rs T = nI n → (∀ v' w', CS v' (aGo to m T) → post v' w') → LX0_goOn_11 to post (m + 1) 1 (nI x5) v w := by
  intro m
  induction m with
  | zero =>
    intro x5 v w T n hx h hI t0 hn en hp
    obtain rfl : x5 = 301 := by omega
    rw [LX0_goOn_11]
    exact ⟨fun _ => hp v w h, fun q => absurd (by decide) q⟩
  | succ m ih =>
    intro x5 v w T n hx h hI t0 hn en hp
    have tm0 : 0 ≤ to := Int64.le_trans hI.1.1 t0
    have tM : to ≤ (1125899906842624 : Int64) := Int64.le_of_lt t1
    have hth : ∀ i, s_du T 2 i ≠ (-2000000005 : Int64) → s_du T 0 i ≠ (-2000000005 : Int64) := fun i z => hI.there z
    rw [LX0_goOn_11]
    refine ⟨fun q => absurd q ?_, fun _ => ⟨fun q => absurd q (by decide), fun _ => ?_⟩⟩
    · rw [show (300 : Int32) = nI 300 from rfl, nI_ltI (by omega) (by omega)]; omega
    have stop : ∀ v' w', CS v' (aGo to (m + 1) T) → ∀ z : Int32, z = nI x5 + 1 → LX0_goOn_11 to post (m + 1) 0 z v' w' := fun v' w' hv' z hz => by
      rw [LX0_goOn_11]
      exact ⟨fun _ => hp v' w' hv', fun _ => ⟨fun _ => hp v' w' hv', fun y => absurd rfl y⟩⟩
    have fin : ((1125899906842624 : Int64) ≤ lt T 200 ∨ to < lt T 200) → PX0_moveTime v to (fun (v_3 : StV) => ∀ z : Int32, z = nI x5 + 1 → LX0_goOn_11 to post (m + 1) 0 z v_3 w) := fun q => cPass h hI.okP hth tm0 tM (fun v' hv' => stop v' w (by rw [aGo, if_pos q]; exact hv'))
    unfold PX0_passTick
    refine cLT h (fun q => ⟨fun _ => fin (Or.inl q), fun z => absurd rfl z⟩) (fun q => ?_)
    have q1 : lt T 200 < (1125899906842624 : Int64) := Int64.not_le.mp q
    obtain ⟨n1, n2⟩ := lt_ne hI q1
    refine ⟨fun z => absurd z n1, fun _ => ⟨fun q2 => cFind h n1 (fun w' hw' => ?_), fun q2 => fin (Or.inr (Int64.not_le.mp q2))⟩⟩
    have no : ¬ ((1125899906842624 : Int64) ≤ lt T 200 ∨ to < lt T 200) := fun z => z.elim q (fun z => Int64.not_lt.mpr q2 z)
    have hlen := gO_len T
    have hpos := gO_pos q1
    have hle : (gO T).length = (gL T (lt T 200) (fsN T (lt T 200) 200) 200).length := by unfold gO; rw [List.length_reverse]
    have ez : l_sz w' = nI (gO T).length := by rw [hle]; exact hw'.1
    have ern : (s_rs T).toNatClampNeg = n := by rw [en]; exact nI_clamp (by omega)
    rw [h.rs, en, ez, nI_add, show (300 : Int32) = nI 300 from rfl, nI_leI (by omega) (by omega)]
    refine ⟨fun q3 => cPass h hI.okP hth n2 (Int64.le_of_lt q1) (fun v1 hv1 => ?_), fun q3 => cPass h hI.okP hth ?_ ?_ (fun v1 hv1 => stop v1 w' ?_)⟩
    · refine ⟨_, cLets hlen ez (gO T) 0 n v1 (aPass T (lt T 200)) (by omega) q3 ((aPass_rs T _).trans en) (rev_at (fun j d z => (hw'.2 j d z).1)) hv1 (GI.start hI q1) (fun v2 hv2 => ?_)⟩
      rintro _ rfl
      rw [nI_1]
      refine ih (x5 + 1) v2 w' _ (n + (gO T).length) (by omega) hv2 (GI.start hI q1).lets (by rw [aLets_tm, aPass_tm]; exact q2) q3 (aLets_rs (n := n) _ _ n ((aPass_rs T _).trans en)) (fun v3 w3 hv3 => hp v3 w3 ?_)
      rw [aGo, if_neg no, if_neg (by rw [ern]; omega)]
      exact hv3
    · have a := hI.ltm q1
      have b := hI.1.1
      rw [y_le, x_0] at b ⊢
      rw [y_lt] at a
      rw [tm_pred n2]
      omega
    · rw [y_lt] at q1
      rw [y_le, tm_pred n2]
      omega
    · rw [aGo, if_neg no, if_pos (by rw [ern]; omega)]
      exact hv1
theorem mPass0 {r : MmV} {T : StV} (h : MS (m_s r) T) (hP : okP T) {t : Int64} (t0 : 0 ≤ t) (t1 : t ≤ (1125899906842624 : Int64)) {post : MmV → Prop} (hp : ∀ s', MS s' (aPass T t) → post (m_ws r s')) : PX7_pass r t post := by
  have := mPass (r := r) (s := m_s r) h hP t0 t1 hp
  rwa [m_ews] at this
theorem mGo_loop {to : Int64} (t1 : to < (1125899906842624 : Int64)) {r0 : MmV} {post : Int64 → MmV → Prop} :
    ∀ m r T n, 301 ≤ n + m → MS (m_s r) T → m_bf r = m_bf r0 → m_kp r = m_kp r0 → IT T → s_tm T ≤ to → n ≤ 300 → s_rs T = nI n → (∀ r', MS (m_s r') (aGo to m T) → m_bf r' = m_bf r0 → m_kp r' = m_kp r0 → post (s_tm (aGo to m T)) r') → LX7_go_37 to post (m + 1) 1 r := by
  intro m
  induction m with
  | zero =>
    intro r T n hx h hb hk hI t0 hn en hp
    exact absurd hx (by omega)
  | succ m ih =>
    intro r T n hx h hb hk hI t0 hn en hp
    have tm0 : 0 ≤ to := Int64.le_trans hI.1.1 t0
    have tM : to ≤ (1125899906842624 : Int64) := Int64.le_of_lt t1
    rw [LX7_go_37]
    refine ⟨fun q => absurd q (by decide), fun _ => mNT rfl h ⟨fun q => ?_, fun q => ?_⟩⟩
    · rw [LX7_go_37]
      refine ⟨fun _ => mPass0 h hI.okP tm0 tM (fun s' hs' => ?_), fun z => absurd rfl z⟩
      have e : aGo to (m + 1) T = aPass T to := by rw [aGo, if_pos (Or.inr q)]
      rw [e] at hp
      rw [m_ws_m_s, hs'.tm]
      exact hp _ (by rw [m_ws_m_s]; exact hs') hb hk
    · have q2 : lt T 200 ≤ to := Int64.not_lt.mp q
      have q1 : lt T 200 < (1125899906842624 : Int64) := by
        rw [y_le] at q2
        rw [y_lt] at t1 ⊢
        omega
      obtain ⟨n1, n2⟩ := lt_ne hI q1
      have no : ¬ ((1125899906842624 : Int64) ≤ lt T 200 ∨ to < lt T 200) := fun z => z.elim (fun z => Int64.not_lt.mpr z q1) q
      have hlen := gO_len T
      have hpos := gO_pos q1
      have hle : (gO T).length = (gL T (lt T 200) (fsN T (lt T 200) 200) 200).length := by unfold gO; rw [List.length_reverse]
      have ern : (s_rs T).toNatClampNeg = n := by rw [en]; exact nI_clamp (by omega)
      refine mFindAll h hI n1 (fun g' hg' => ?_)
      rw [← hle, mQ_s, mQ_gc, h.rn (by omega) en, nI_l (by omega), lN_add, show (300 : Int64) = lN 300 from rfl, lN_le (by omega) (by omega)]
      refine ⟨fun q3 => ?_, fun q3 => ?_⟩
      · refine mPass0 (r := mQ r g' (nI (gO T).length)) h hI.okP n2 (Int64.le_of_lt q1) (fun s1 hs1 => ?_)
        unfold PX7_goAll
        refine ⟨_, mLets (r := mQ r g' (nI (gO T).length)) hlen (mQ_gc r g' _) (gO T) 0 n s1 (aPass T (lt T 200)) (by omega) q3 ((aPass_rs T _).trans en) rfl (rev_at (fun j d z => by rw [mQ_gs]; exact hg' j d z)) hs1 (GI.start hI q1) (fun s2 hs2 => ?_)⟩
        refine ih _ _ (n + (gO T).length) (by omega) (by rw [m_ws_m_s]; exact hs2) hb hk (GI.start hI q1).lets (by rw [aLets_tm, aPass_tm]; exact q2) q3 (aLets_rs (n := n) _ _ n ((aPass_rs T _).trans en)) ?_
        have e : aGo to (m + 1) T = aGo to m (aLets (aPass T (lt T 200)) (gO T)) := by rw [aGo, if_neg no, if_neg (by rw [ern]; omega)]
        rw [e] at hp
        exact hp
      · have a := hI.ltm q1
        have b := hI.1.1
        have c := tm_pred n2
        rw [y_le, x_0] at b
        rw [y_lt] at a q1
        refine mPass0 (r := mQ r g' (nI (gO T).length)) h hI.okP (by rw [y_le, x_0]; omega) (by rw [y_le]; omega) (fun s1 hs1 => ?_)
        have e : aGo to (m + 1) T = aPass T (lt T 200 - 1) := by rw [aGo, if_neg no, if_pos (by rw [ern]; omega)]
        rw [e] at hp
        rw [m_ws_m_s, hs1.tm]
        exact hp _ (by rw [m_ws_m_s]; exact hs1) hb hk
def aClr (T : StV) : StV := s_wRO (s_wrs T 0) (fun _ _ => 0)
theorem cClr {v T : StV} (h : CS v T) : CS (s_wrs v 0) (aClr T) := by
  obtain ⟨e, n, he, hn, ee, en, hN⟩ := id h.1
  refine ⟨⟨e, 0, he, by omega, ee, rfl, hN⟩, ?_⟩
  refine st_ext h.tm h.pl h.go h.mv (by rw [← h.2]; rfl) rfl (fun f i => ?_) (fun f i => ?_)
  · show rC v i f = s_du T f i
    rw [h.du]
  · show rwN (s_ro v) (0 : Int32).toNatClampNeg f i = 0
    unfold rwN
    rw [if_neg (fun z => absurd z.2 (Nat.not_lt_zero _))]
theorem mClr {s : Nat → Int64} {T : StV} (h : MS s T) : MS (vp_updL s 3702 0) (aClr T) := by
  obtain ⟨-, h2⟩ := id h.1
  have lo : ∀ j, j ≠ 3702 → vp_updL s 3702 0 j = s j := fun j hj => updL_ne hj
  refine ⟨⟨⟨0, by omega, updL_at _ _ _⟩, fun i hi q => ?_⟩, vM_ext (s := s) ?_ ?_ ?_ ?_ h.en ?_ (fun f i => ?_) (fun f i => ?_)⟩
  · rw [lo _ (by omega)] at q ⊢
    exact h2 i hi q
  · rw [lo _ (by omega)]; exact h.tm
  · rw [lo _ (by omega)]; exact h.pl
  · rw [lo _ (by omega)]; exact h.go
  · rw [lo _ (by omega)]; exact h.mv
  · rw [updL_at]; rfl
  · show _ = s_du T f i
    rw [h.du]
    exact congrFun (rM_congr (fun c hc hi => lo _ (by omega))) f
  · show _ = (0 : Int64)
    rw [updL_at]
    rw [if_neg (fun z => absurd z.2 (Nat.not_lt_zero _))]
theorem IT.clr {T : StV} (h : IT T) : IT (aClr T) := (h.wi.congr (T' := aClr T) rfl rfl).it
def zGo (Z : Zt) (t : Int64) : Int64 × Zt := if t < s_tm Z.1 ∨ ¬ t ≤ (1125899906842623 : Int64) then ((-2000000001 : Int64), Z) else (s_tm (aGo t 301 (aClr Z.1)), (aGo t 301 (aClr Z.1), (zKeep Z).2))
theorem le_M1 {t : Int64} (h : t ≤ (1125899906842623 : Int64)) : t < (1125899906842624 : Int64) := by
  rw [y_le] at h
  rw [y_lt, x_M]
  have : ((1125899906842623 : Int64)).toInt = 1125899906842623 := by decide
  omega
theorem cGo {st : Nat → StV} {ln : Nat → LnV} {kv : KvV} {cu : Nat} {Z : Zt} (h : KI st kv cu Z) (hI : IT Z.1) {t : Int64} {post : Int64 → (Nat → StV) → (Nat → LnV) → KvV → Prop} (hp : ∀ st' ln' kv', KI st' kv' cu (zGo Z t).2 → post (zGo Z t).1 st' ln' kv') : PX6_go st ln kv cu t post := by
  unfold PX6_go
  rw [h.cs.tm]
  have bad : (t < s_tm Z.1 ∨ ¬ t ≤ (1125899906842623 : Int64)) → post (-2000000001 : Int64) st ln kv := fun q => by
    have e : zGo Z t = ((-2000000001 : Int64), Z) := by unfold zGo; rw [if_pos q]
    rw [e] at hp
    exact hp _ _ _ h
  refine ⟨fun q => bad (Or.inl q), fun q => ⟨fun q2 => ?_, fun q2 => bad (Or.inr q2)⟩⟩
  have e : zGo Z t = (s_tm (aGo t 301 (aClr Z.1)), (aGo t 301 (aClr Z.1), (zKeep Z).2)) := by unfold zGo; rw [if_neg (fun z => z.elim q (fun z => z q2))]
  rw [e] at hp
  refine cKeep h (fun st1 kv1 hk => ?_)
  unfold PX0_goOn
  rintro _ rfl
  refine ⟨302, cGo_loop (le_M1 q2) 301 0 _ _ (aClr Z.1) 0 (by omega) (cClr hk.cs) hI.clr (Int64.not_lt.mp q) (by omega) rfl (fun v' w' hv' => ?_)⟩
  rintro _ rfl _ rfl
  rw [va_up_self, hv'.tm]
  exact hp _ _ _ (hk.upd hv')
theorem mGo {r : MmV} {Z : Zt} (h : MK r Z) (hI : IT Z.1) {t : Int64} {post : Int64 → MmV → Prop} (hp : ∀ r', MK r' (zGo Z t).2 → post (zGo Z t).1 r') : PX7_go r t post := by
  unfold PX7_go
  rw [h.1.tm]
  refine mIsIn (fun q q2 => b1 (mKeep h (fun r1 hk es => ?_))) (fun q => b0 ?_)
  · have e : zGo Z t = (s_tm (aGo t 301 (aClr Z.1)), (aGo t 301 (aClr Z.1), (zKeep Z).2)) := by unfold zGo; rw [if_neg (fun z => z.elim (Int64.not_lt.mpr q) (fun z => z q2))]
    rw [e] at hp
    rintro _ rfl
    refine ⟨302, mGo_loop (le_M1 q2) (r0 := r1) 301 _ (aClr Z.1) 0 (by omega) (by rw [m_ws_m_s]; exact mClr hk.1) rfl rfl hI.clr q (by omega) rfl (fun r' hs hb hkp => hp r' (hk.upd hs hb hkp))⟩
  · have e : zGo Z t = ((-2000000001 : Int64), Z) := by
      unfold zGo
      rw [if_pos]
      by_cases z : t < s_tm Z.1
      · exact Or.inl z
      · exact Or.inr (fun y => q ⟨Int64.not_lt.mp z, y⟩)
    rw [e] at hp
    exact hp r h
