/-! the class's State: what its methods do, in the normalised state's words -/
def CS (v T : StV) : Prop := CI v ∧ vC v = T
theorem CS.ci {v T : StV} (h : CS v T) : CI v := h.1
theorem CS.du {v T : StV} (h : CS v T) (f i : Nat) : s_du T f i = rC v i f := by rw [← h.2]; rfl
theorem CS.tm {v T : StV} (h : CS v T) : s_tm v = s_tm T := by rw [← h.2]; rfl
theorem CS.pl {v T : StV} (h : CS v T) : s_pl v = s_pl T := by rw [← h.2]; rfl
theorem CS.go {v T : StV} (h : CS v T) : s_go v = s_go T := by rw [← h.2]; rfl
theorem CS.mv {v T : StV} (h : CS v T) : s_mv v = s_mv T := by rw [← h.2]; rfl
theorem CS.rs {v T : StV} (h : CS v T) : s_rs v = s_rs T := by rw [← h.2]; rfl
theorem CS.far {v T : StV} (h : CS v T) {k : Nat} (hk : 200 ≤ k) (f : Nat) : s_du T f k = (-2000000005 : Int64) := by
  obtain ⟨e, n, he, hn, ee, en, hN⟩ := h.1
  rw [h.du, rC_out ee he (by omega)]
/-- a due that is there: its number, its fields -/
theorem CS.k {v T : StV} (h : CS v T) {x : Int32} (d : dI T x) : ∃ k : Nat, k < 200 ∧ x = nI k ∧ x.toNatClampNeg = k ∧ vp_in x 200 ∧ s_du T 0 k ≠ (-2000000005 : Int64) := by
  obtain ⟨j, j1, j2, j3⟩ := i_nn d.1
  have hd := d.2
  rw [j3] at hd
  have hj : j < 200 := by
    rcases Nat.lt_or_ge j 200 with q | q
    · exact q
    · exact absurd (h.far q 0) hd
  exact ⟨j, hj, j2, j3, by rw [j2]; exact vp_in_nI hj (by omega), hd⟩
theorem CS.f {v T : StV} (h : CS v T) {k f : Nat} (hk : s_du T 0 k ≠ (-2000000005 : Int64)) (hf : f < 12) (h9 : f ≠ 9) (h10 : f ≠ 10) : s_du v f k = s_du T f k := by
  obtain ⟨e, n, he, hn, ee, en, hN⟩ := h.1
  rw [h.du] at hk
  obtain ⟨-, b, c⟩ := rC_there ee he hk
  rw [h.du, c, nrm_f b hf h9 h10]
theorem CS.f3 {v T : StV} (h : CS v T) {k f : Nat} (hk : s_du T 0 k = 3) (hf : f < 12) : s_du v f k = s_du T f k := by
  obtain ⟨e, n, he, hn, ee, en, hN⟩ := h.1
  have h0 : rC v k 0 ≠ (-2000000005 : Int64) := by rw [← h.du, hk]; decide
  obtain ⟨a, b, c⟩ := rC_there ee he h0
  have hk3 : s_du v 0 k = 3 := by
    rw [h.du, c, nrm_0] at hk
    exact hk
  rw [h.du, c, nrm_3 hk3 hf]
/-- one place of a due that is there is put anew -/
theorem CS.put {v T : StV} (h : CS v T) {k f : Nat} {x : Int64} (hk : s_du T 0 k ≠ (-2000000005 : Int64)) (hf : f < 12) (h0 : f ≠ 0) (h9 : f = 9 ∨ f = 10 → s_du T 0 k = 3) : CS (s_wdu v f k x) (s_wdu T f k x) := by
  obtain ⟨e, n, he, hn, ee, en, hN⟩ := h.1
  have hk2 := hk
  rw [h.du] at hk2
  obtain ⟨a, b, c⟩ := rC_there ee he hk2
  have hb : s_du T 0 k = s_du v 0 k := by rw [h.du, c, nrm_0]
  have e0 : ∀ i, s_du (s_wdu v f k x) 0 i = s_du v 0 i := fun i => by rw [du_wdu, if_neg (by omega)]
  refine ⟨⟨e, n, he, hn, ee, en, fun i hi q f' hf' => ?_⟩, ?_⟩
  · rw [e0] at q
    rw [du_wdu]
    by_cases hh : f' = f ∧ i = k
    · exact absurd (hh.2 ▸ q) b
    · rw [if_neg hh]; exact hN i hi q f' hf'
  · refine st_ext h.tm h.pl h.go h.mv (by rw [← h.2]; rfl) h.rs (fun a1 i => ?_) (fun _ _ => by rw [← h.2]; rfl)
    rw [vC_du, du_wdu, h.du]
    by_cases hi : i < e
    · rw [rC_in (v := s_wdu v f k x) ee he hi, rC_in ee he hi]
      by_cases hik : i = k
      · subst hik
        by_cases h12 : a1 < 12
        · by_cases haf : a1 = f
          · subst haf
            rw [if_pos ⟨rfl, rfl⟩]
            by_cases h910 : a1 = 9 ∨ a1 = 10
            · rw [nrm_3 (by rw [e0, ← hb]; exact h9 h910) h12, du_wdu, if_pos ⟨rfl, rfl⟩]
            · rw [nrm_f (by rw [e0]; exact b) h12 (by omega) (by omega), du_wdu, if_pos ⟨rfl, rfl⟩]
          · rw [if_neg (fun q => haf q.1)]
            by_cases h910 : a1 = 9 ∨ a1 = 10
            · by_cases k3 : s_du v 0 i = 3
              · rw [nrm_3 (by rw [e0]; exact k3) h12, nrm_3 k3 h12, du_wdu, if_neg (fun q => haf q.1)]
              · rw [nrm_n3 (by rw [e0]; exact k3) h910, nrm_n3 k3 h910]
            · rw [nrm_f (by rw [e0]; exact b) h12 (by omega) (by omega), nrm_f b h12 (by omega) (by omega), du_wdu, if_neg (fun q => haf q.1)]
        · rw [if_neg (by omega), nrm_big (by omega), nrm_big (by omega)]
      · rw [if_neg (fun q => hik q.2)]
        refine congrFun (nrm_congr (fun f' _ => ?_)) a1
        rw [du_wdu, if_neg (fun q => hik q.2)]
    · rw [rC_out (v := s_wdu v f k x) ee he (by omega), rC_out ee he (by omega), if_neg (by omega)]
def aTick (T : StV) (k : Nat) (t : Int64) : StV := s_wdu (s_wdu T 2 k t) 11 k 0
def mn (t : Int64) : Int64 := if (1125899906842624 : Int64) < t then (1125899906842624 : Int64) else t
theorem th_wdu {T : StV} {f k i : Nat} {x : Int64} (h0 : f ≠ 0) (h : s_du T 0 i ≠ (-2000000005 : Int64)) : s_du (s_wdu T f k x) 0 i ≠ (-2000000005 : Int64) := by rw [du_wdu, if_neg (by omega)]; exact h
theorem cSetTick {v T : StV} (h : CS v T) {k : Nat} {x : Int32} {t : Int64} (hx : x = nI k) (hk2 : k < 200) (hk : s_du T 0 k ≠ (-2000000005 : Int64)) {post : StV → Prop} (hp : ∀ v', CS v' (aTick T k (mn t)) → post v') : PX4_setTick v x t post := by
  subst hx
  unfold PX4_setTick
  simp only [forall_eq]
  rw [nI_clamp (by omega)]
  have hin : vp_in (nI k) 200 := vp_in_nI hk2 (by omega)
  exact ⟨hin, hin, hp _ ((h.put hk (by omega) (by omega) (by omega)).put (th_wdu (by omega) hk) (by omega) (by omega) (by omega))⟩
theorem CS.wpl {v T : StV} (h : CS v T) (x : Int64) : CS (s_wpl v x) (s_wpl T x) := by
  refine ⟨h.1, ?_⟩
  refine st_ext h.tm rfl h.go h.mv (by rw [← h.2]; rfl) h.rs (fun a i => ?_) (fun _ _ => by rw [← h.2]; rfl)
  rw [← h.2]; rfl
theorem CS.wgo {v T : StV} (h : CS v T) (x : Int64) : CS (s_wgo v x) (s_wgo T x) := by
  refine ⟨h.1, ?_⟩
  refine st_ext h.tm h.pl rfl h.mv (by rw [← h.2]; rfl) h.rs (fun a i => ?_) (fun _ _ => by rw [← h.2]; rfl)
  rw [← h.2]; rfl
theorem CS.wmv {v T : StV} (h : CS v T) (x : Int64) : CS (s_wmv v x) (s_wmv T x) := by
  refine ⟨h.1, ?_⟩
  refine st_ext h.tm h.pl h.go rfl (by rw [← h.2]; rfl) h.rs (fun a i => ?_) (fun _ _ => by rw [← h.2]; rfl)
  rw [← h.2]; rfl
theorem CS.wtm {v T : StV} (h : CS v T) (x : Int64) : CS (s_wtm v x) (s_wtm T x) := by
  refine ⟨h.1, ?_⟩
  refine st_ext rfl h.pl h.go h.mv (by rw [← h.2]; rfl) h.rs (fun a i => ?_) (fun _ _ => by rw [← h.2]; rfl)
  rw [← h.2]; rfl
def aPlace (T : StV) (k : Nat) : StV := s_wpl (s_wdu T 8 k (s_pl T)) (s_pl T + 1)
theorem cSetPlace {v T : StV} (h : CS v T) {k : Nat} {x : Int32} (hx : x = nI k) (hk2 : k < 200) (hk : s_du T 0 k ≠ (-2000000005 : Int64)) {post : StV → Prop} (hp : ∀ v', CS v' (aPlace T k) → post v') : PX4_setPlace v x post := by
  subst hx
  unfold PX4_setPlace
  simp only [forall_eq]
  rw [nI_clamp (by omega)]
  refine ⟨vp_in_nI hk2 (by omega), hp _ ?_⟩
  rw [show s_pl (s_wdu v 8 k (s_pl v)) = s_pl T from h.pl, h.pl]
  exact (h.put hk (by omega) (by omega) (by omega)).wpl _
theorem cFull {v T : StV} (h : CS v T) {post : Int32 → Prop} (h0 : fr T < 200 → post 0) (h1 : fr T = 200 → post 1) : PX4_isFull v post := by
  unfold PX4_isFull
  refine cLF h.1 ?_
  rw [h.2]
  have := fr_le T
  refine ⟨fun q => h0 ?_, fun q => h1 ?_⟩
  · rw [show (200 : Int32) = nI 200 from rfl, nI_ltI (by omega) (by omega)] at q; exact q
  · rw [show (200 : Int32) = nI 200 from rfl, nI_ltI (by omega) (by omega)] at q; omega
/-- clear: one due's column -/
def clr (v : StV) (k m : Nat) : StV := s_wDU v (fun f i => if i = k ∧ f < m then (-2000000005 : Int64) else s_du v f i)
theorem cClear_loop {v0 : StV} {k : Nat} (hk : k < 200) {post : StV → Prop} (hp : post (s_wdu (clr v0 k 12) 11 k 0)) :
    ∀ m f, f + m = 12 → LX4_clear_2 (nI k) post (m + 1) (nI f) (clr v0 k f) := by
  intro m
  induction m with
  | zero =>
    intro f hf
    rw [LX4_clear_2, nI_clamp (by omega)]
    obtain rfl : f = 12 := by omega
    refine ⟨fun _ => ⟨vp_in_nI hk (by omega), ?_⟩, fun q => absurd (by decide) q⟩
    rintro _ rfl
    exact hp
  | succ m ih =>
    intro f hf
    rw [LX4_clear_2, nI_clamp (by omega), nI_clamp (show f < 2 ^ 31 by omega)]
    refine ⟨fun q => absurd q ?_, fun _ => ⟨vp_in_nI (by omega) (by omega), vp_in_nI hk (by omega), ?_⟩⟩
    · rw [show (12 : Int32) = nI 12 from rfl, nI_leI (by omega) (by omega)]; omega
    · rintro _ rfl _ rfl
      rw [nI_1]
      have : s_wdu (clr v0 k f) f k (-2000000005 : Int64) = clr v0 k (f + 1) := by
        refine st_ext rfl rfl rfl rfl rfl rfl (fun a i => ?_) (fun _ _ => rfl)
        rw [du_wdu]
        show (if a = f ∧ i = k then (-2000000005 : Int64) else (if i = k ∧ a < f then (-2000000005 : Int64) else s_du v0 a i)) = (if i = k ∧ a < f + 1 then (-2000000005 : Int64) else s_du v0 a i)
        by_cases h1 : i = k
        · by_cases h2 : a = f
          · rw [if_pos ⟨h2, h1⟩, if_pos ⟨h1, by omega⟩]
          · rw [if_neg (fun q => h2 q.1)]
            by_cases h3 : a < f
            · rw [if_pos ⟨h1, h3⟩, if_pos ⟨h1, by omega⟩]
            · rw [if_neg (fun q => h3 q.2), if_neg (fun q => by have := q.2; omega)]
        · rw [if_neg (fun q => h1 q.2), if_neg (fun q => h1 q.1), if_neg (fun q => h1 q.1)]
      rw [this]
      exact ih (f + 1) (by omega)
theorem cClear {v : StV} {k : Nat} (hk : k < 200) {post : StV → Prop} (hp : post (s_wdu (clr v k 12) 11 k 0)) : PX4_clear v (nI k) post := by
  unfold PX4_clear
  refine ⟨13, ?_⟩
  have h := cClear_loop hk hp 12 0 (by omega)
  have e0 : clr v k 0 = v := by
    refine st_ext rfl rfl rfl rfl rfl rfl (fun a i => ?_) (fun _ _ => rfl)
    show (if i = k ∧ a < 0 then (-2000000005 : Int64) else s_du v a i) = _
    rw [if_neg (by omega)]
  rw [e0] at h
  exact h
def nrow (kind say pl : Int64) : Nat → Int64 := fun f => if f = 0 then kind else if f = 1 then say else if f = 8 then pl else if f = 11 then 0 else (-2000000005 : Int64)
def aOpen (T : StV) (kind say : Int64) : StV := s_row (s_wpl T (s_pl T + 1)) (fr T) (nrow kind say (s_pl T))
def opn (v : StV) (e9 k : Nat) (kd say : Int64) : StV := s_wpl (s_wdu (s_wdu (s_wdu (s_wdu (clr (s_wen v (nI e9)) k 12) 11 k 0) 0 k kd) 1 k say) 8 k (s_pl v)) (s_pl v + 1)
theorem opn_tm (v : StV) (e9 k : Nat) (kd say : Int64) : s_tm (opn v e9 k kd say) = s_tm v := rfl
theorem opn_pl (v : StV) (e9 k : Nat) (kd say : Int64) : s_pl (opn v e9 k kd say) = s_pl v + 1 := rfl
theorem opn_go (v : StV) (e9 k : Nat) (kd say : Int64) : s_go (opn v e9 k kd say) = s_go v := rfl
theorem opn_mv (v : StV) (e9 k : Nat) (kd say : Int64) : s_mv (opn v e9 k kd say) = s_mv v := rfl
theorem opn_en (v : StV) (e9 k : Nat) (kd say : Int64) : s_en (opn v e9 k kd say) = nI e9 := rfl
theorem opn_rs (v : StV) (e9 k : Nat) (kd say : Int64) : s_rs (opn v e9 k kd say) = s_rs v := rfl
theorem opn_ro (v : StV) (e9 k : Nat) (kd say : Int64) : s_ro (opn v e9 k kd say) = s_ro v := rfl
theorem opn_du0 (v : StV) (e9 k : Nat) (kd say : Int64) (a i : Nat) : s_du (opn v e9 k kd say) a i = if a = 8 ∧ i = k then s_pl v else if a = 1 ∧ i = k then say else if a = 0 ∧ i = k then kd else if a = 11 ∧ i = k then 0 else if i = k ∧ a < 12 then (-2000000005 : Int64) else s_du v a i := by
  unfold opn
  rw [s_wpl_s_du, du_wdu, du_wdu, du_wdu, du_wdu]
  rfl
theorem opn_du (v : StV) (e9 k : Nat) (kd say : Int64) (a i : Nat) : s_du (opn v e9 k kd say) a i = if i = k then (if a < 12 then nrow kd say (s_pl v) a else s_du v a i) else s_du v a i := by
  rw [opn_du0]
  unfold nrow
  by_cases h1 : i = k
  · simp only [h1, and_true, true_and, if_true]
    by_cases h12 : a < 12
    · rw [if_pos h12, if_pos h12]
      by_cases q8 : a = 8
      · rw [if_pos q8, if_neg (by omega), if_neg (by omega), if_pos q8]
      · by_cases q1 : a = 1
        · rw [if_neg q8, if_pos q1, if_neg (by omega), if_pos q1]
        · by_cases q0 : a = 0
          · rw [if_neg q8, if_neg q1, if_pos q0, if_pos q0]
          · by_cases q11 : a = 11
            · rw [if_neg q8, if_neg q1, if_neg q0, if_pos q11, if_neg q0, if_neg q1, if_neg q8]
            · rw [if_neg q8, if_neg q1, if_neg q0, if_neg q11, if_neg q0, if_neg q1, if_neg q8]
    · rw [if_neg h12, if_neg h12, if_neg (by omega), if_neg (by omega), if_neg (by omega), if_neg (by omega)]
  · simp only [h1, and_false, false_and, if_false]
theorem nrow_nrm {kd say pl : Int64} (hkd : kd ≠ (-2000000005 : Int64)) (a : Nat) : nrm (nrow kd say pl) a = nrow kd say pl a := by
  have h0 : nrow kd say pl 0 = kd := rfl
  by_cases h12 : a < 12
  · by_cases q : a = 9 ∨ a = 10
    · by_cases q3 : kd = 3
      · exact nrm_3 (h0.trans q3) h12
      · rw [nrm_n3 (by rw [h0]; exact q3) q]
        rcases q with rfl | rfl <;> rfl
    · exact nrm_f (by rw [h0]; exact hkd) h12 (by omega) (by omega)
  · rw [nrm_big (by omega)]
    unfold nrow
    rw [if_neg (by omega), if_neg (by omega), if_neg (by omega), if_neg (by omega)]
theorem opn_CS {v T : StV} (h : CS v T) {k e e9 : Nat} (hk : k < 200) (he9 : e9 ≤ 200) (hke : k < e9) (e0 : s_en v = nI e) (he : e ≤ 200) (hor : e9 = e ∨ (k = e ∧ e9 = e + 1)) (ek : fr T = k) (kd say : Int64) (hkd : kd ≠ (-2000000005 : Int64)) : CS (opn v e9 k kd say) (aOpen T kd say) := by
  obtain ⟨e', n, he', hn, ee, en, hN⟩ := h.1
  have hee : e' = e := by
    rw [ee] at e0
    exact (nI_eq (by omega) (by omega)).mp e0
  subst hee
  have hpl : s_pl v = s_pl T := h.pl
  refine ⟨⟨e9, n, he9, hn, opn_en v e9 k kd say, (opn_rs v e9 k kd say).trans en, fun i hi q f hf => ?_⟩, ?_⟩
  · rw [opn_du] at q ⊢
    by_cases h1 : i = k
    · rw [if_pos h1, if_pos (by omega)] at q
      exact absurd q hkd
    · rw [if_neg h1] at q ⊢
      exact hN i (by omega) q f hf
  · refine st_ext ((opn_tm v e9 k kd say).trans h.tm) ?_ ((opn_go v e9 k kd say).trans h.go) ((opn_mv v e9 k kd say).trans h.mv) (by rw [← h.2]; rfl) ((opn_rs v e9 k kd say).trans h.rs) (fun a i => ?_) (fun a i => ?_)
    · show s_pl (opn v e9 k kd say) = s_pl T + 1
      rw [opn_pl, hpl]
    · show rC (opn v e9 k kd say) i a = (if i = fr T then nrow kd say (s_pl T) a else s_du T a i)
      rw [ek, h.du]
      by_cases h1 : i = k
      · rw [if_pos h1, rC_in (opn_en v e9 k kd say) he9 (by omega)]
        have e1 : nrm (fun f => s_du (opn v e9 k kd say) f i) = nrm (nrow kd say (s_pl T)) := nrm_congr (fun f hf => by rw [opn_du, if_pos h1, if_pos hf, hpl])
        rw [e1]
        exact nrow_nrm hkd a
      · rw [if_neg h1]
        by_cases hi : i < e'
        · rw [rC_in (opn_en v e9 k kd say) he9 (by omega), rC_in ee he hi]
          exact congrFun (nrm_congr (fun f' _ => by rw [opn_du, if_neg h1])) a
        · rw [rC_out ee he (by omega), rC_out (opn_en v e9 k kd say) he9 (by omega)]
    · show rwN (s_ro (opn v e9 k kd say)) (s_rs (opn v e9 k kd say)).toNatClampNeg a i = s_ro T a i
      rw [opn_ro, opn_rs, ← h.2]
      rfl
theorem cOpen_in {v v9 T : StV} (h : CS v T) {k e e9 : Nat} (hk : k < 200) (he9 : e9 ≤ 200) (hke : k < e9) (e0 : s_en v = nI e) (he : e ≤ 200) (hor : e9 = e ∨ (k = e ∧ e9 = e + 1)) (ek : fr T = k) (h9 : v9 = s_wen v (nI e9)) (kd : Int32) (say : Int32) (hkd : kd.toInt64 ≠ (-2000000005 : Int64)) {post : StV → Prop} (hp : ∀ v', CS v' (aOpen T kd.toInt64 say.toInt64) → post v') :
    (PX4_clear v9 (nI k) (fun (v_3 : StV) => (vp_in (nI k) 200 ∧ (∀ v_5 : StV, v_5 = s_wdu v_3 0 ((nI k).toNatClampNeg) (kd.toInt64) → (vp_in (nI k) 200 ∧ (∀ v_7 : StV, v_7 = s_wdu v_5 1 ((nI k).toNatClampNeg) (say.toInt64) → (PX4_setPlace v_7 (nI k) (fun (v_8 : StV) => post v_8)))))))) := by
  subst h9
  refine cClear hk ?_
  simp only [forall_eq]
  rw [nI_clamp (by omega)]
  have hin : vp_in (nI k) 200 := vp_in_nI hk (by omega)
  refine ⟨hin, hin, ?_⟩
  unfold PX4_setPlace
  simp only [forall_eq]
  rw [nI_clamp (by omega)]
  exact ⟨hin, hp _ (opn_CS h hk he9 hke e0 he hor ek kd.toInt64 say.toInt64 hkd)⟩
theorem cOpen {v T : StV} (h : CS v T) (hf : fr T < 200) (kd say : Int32) (hkd : kd.toInt64 ≠ (-2000000005 : Int64)) {post : Int32 → StV → Prop} (hp : ∀ v', CS v' (aOpen T kd.toInt64 say.toInt64) → post (nI (fr T)) v') : PX4_open v kd say post := by
  unfold PX4_open
  refine cLF h.1 ?_
  rw [h.2]
  obtain ⟨e, n, he, hn, ee, en, hN⟩ := id h.1
  have hle : fr T ≤ e := by
    rcases Nat.lt_or_ge e (fr T) with q | q
    · exfalso
      have := (frst_spec (fun i => decide (s_du T 0 i = (-2000000005 : Int64))) 200 0).2.2.1 e (by omega) q
      rw [h.du, rC_out ee he (Nat.le_refl _)] at this
      simp at this
    · exact q
  refine ⟨fun q => ?_, fun q => ?_⟩
  · rw [ee, nI_eq (by omega) (by omega)] at q
    rintro _ rfl
    rw [ee, nI_1]
    exact cOpen_in h hf (by omega) (by omega) ee he (Or.inr ⟨q, rfl⟩) rfl rfl kd say hkd (fun v' hv => hp v' hv)
  · rw [ee, nI_eq (by omega) (by omega)] at q
    exact cOpen_in h hf he (by omega) ee he (Or.inl rfl) rfl (by rw [← ee]; rfl) kd say hkd (fun v' hv => hp v' hv)
