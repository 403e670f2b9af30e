/-! the class's State: close, tell, least tick, counts -/
def aClose (T : StV) (k : Nat) : StV := s_row T k (fun _ => (-2000000005 : Int64))
def clc (v : StV) (k : Nat) : StV := s_wdu (clr v k 12) 11 k 0
theorem clc_du (v : StV) (k a i : Nat) : s_du (clc v k) a i = if i = k ∧ a < 12 then (if a = 11 then 0 else (-2000000005 : Int64)) else s_du v a i := by
  unfold clc
  rw [du_wdu]
  show (if a = 11 ∧ i = k then 0 else if i = k ∧ a < 12 then (-2000000005 : Int64) else s_du v a i) = _
  by_cases h1 : i = k
  · by_cases h2 : a = 11
    · rw [if_pos ⟨h2, h1⟩, if_pos ⟨h1, by omega⟩, if_pos h2]
    · rw [if_neg (fun q => h2 q.1)]
      by_cases h3 : a < 12
      · rw [if_pos ⟨h1, h3⟩, if_pos ⟨h1, h3⟩, if_neg h2]
      · rw [if_neg (fun q => h3 q.2), if_neg (fun q => h3 q.2)]
  · rw [if_neg (fun q => h1 q.2), if_neg (fun q => h1 q.1), if_neg (fun q => h1 q.1)]
theorem clc_en (v : StV) (k : Nat) : s_en (clc v k) = s_en v := rfl
theorem vC_en (v : StV) : s_en (vC v) = 0 := rfl
theorem vC_tm (v : StV) : s_tm (vC v) = s_tm v := rfl
theorem vC_pl (v : StV) : s_pl (vC v) = s_pl v := rfl
theorem vC_go (v : StV) : s_go (vC v) = s_go v := rfl
theorem vC_mv (v : StV) : s_mv (vC v) = s_mv v := rfl
theorem vC_rs (v : StV) : s_rs (vC v) = s_rs v := rfl
theorem vC_ro (v : StV) (a i : Nat) : s_ro (vC v) a i = rwN (s_ro v) (s_rs v).toNatClampNeg a i := rfl
theorem wen_CS0 {v T : StV} (h : CS v T) {e m : Nat} {y : Int32} (hy : y = nI m) (e0 : s_en v = nI e) (he : e ≤ 200) (hm : m ≤ e) (hN : ∀ i, m ≤ i → i < e → s_du v 0 i = (-2000000005 : Int64)) : CS (s_wen v y) T := by
  obtain ⟨e', n, he', hn, ee, en, hN'⟩ := h.1
  have hee : e' = e := by
    rw [ee] at e0
    exact (nI_eq (by omega) (by omega)).mp e0
  subst hee
  have hye : s_en (s_wen v y) = nI m := (s_wen_s_en v y).trans hy
  refine ⟨⟨m, n, by omega, hn, hye, (s_wen_s_rs v y).trans en, fun i hi q f hf => by
    rw [s_wen_s_du] at q ⊢
    exact hN' i (by omega) q f hf⟩, ?_⟩
  have ht : s_tm (vC (s_wen v y)) = s_tm T := by rw [vC_tm, s_wen_s_tm]; exact h.tm
  refine st_ext ht (by rw [vC_pl, s_wen_s_pl]; exact h.pl) (by rw [vC_go, s_wen_s_go]; exact h.go) (by rw [vC_mv, s_wen_s_mv]; exact h.mv) (by rw [vC_en, ← h.2, vC_en]) (by rw [vC_rs, s_wen_s_rs]; exact h.rs) (fun a i => ?_) (fun a i => ?_)
  · rw [vC_du, h.du]
    by_cases hi : i < m
    · rw [rC_in hye (by omega) hi, rC_in ee he (by omega)]
      exact congrFun (nrm_congr (fun f' _ => by rw [s_wen_s_du])) a
    · rw [rC_out hye (by omega) (by omega)]
      by_cases hi2 : i < e'
      · rw [rC_in ee he hi2, nrm_N (hN i (by omega) hi2)]
      · rw [rC_out ee he (by omega)]
  · rw [vC_ro, s_wen_s_ro, s_wen_s_rs, ← h.2, vC_ro]
theorem wen_CS {v T : StV} (h : CS v T) {e m : Nat} (e0 : s_en v = nI e) (he : e ≤ 200) (hm : m ≤ e) (hN : ∀ i, m ≤ i → i < e → s_du v 0 i = (-2000000005 : Int64)) : CS (s_wen v (nI m)) T := wen_CS0 h rfl e0 he hm hN
theorem clc_CS {v T : StV} (h : CS v T) (k : Nat) : CS (clc v k) (aClose T k) := by
  obtain ⟨e, n, he, hn, ee, en, hN⟩ := h.1
  refine ⟨⟨e, n, he, hn, ee, en, fun i hi q f hf => ?_⟩, ?_⟩
  · rw [clc_du] at q ⊢
    by_cases h1 : i = k
    · rw [if_pos ⟨h1, by omega⟩, if_neg (by omega)]
    · rw [if_neg (fun z => h1 z.1)] at q ⊢
      exact hN i hi q f hf
  · refine st_ext h.tm h.pl h.go h.mv (by rw [← h.2]; rfl) h.rs (fun a i => ?_) (fun a i => by rw [← h.2]; rfl)
    show rC (clc v k) i a = (if i = k then (-2000000005 : Int64) else s_du T a i)
    rw [h.du]
    by_cases h1 : i = k
    · rw [if_pos h1]
      by_cases hi : i < e
      · rw [rC_in (v := clc v k) ee he hi]
        refine nrm_N ?_
        rw [clc_du, if_pos ⟨h1, by omega⟩, if_neg (by omega)]
      · rw [rC_out (v := clc v k) ee he (by omega)]
    · rw [if_neg h1]
      by_cases hi : i < e
      · rw [rC_in (v := clc v k) ee he hi, rC_in ee he hi]
        exact congrFun (nrm_congr (fun f' _ => by rw [clc_du, if_neg (fun z => h1 z.1)])) a
      · rw [rC_out (v := clc v k) ee he (by omega), rC_out ee he (by omega)]
theorem cClose_loop {vc T : StV} {e : Nat} (h : CS vc T) (e0 : s_en vc = nI e) (he : e ≤ 200) {post : StV → Prop} (hp : ∀ v', CS v' T → post v') :
    ∀ m, m ≤ e → (∀ i, m ≤ i → i < e → s_du vc 0 i = (-2000000005 : Int64)) → LX4_close_12 post (m + 1) (nI m - 1) (s_wen vc (nI m)) := by
  intro m
  induction m with
  | zero =>
    intro hm hN
    rw [LX4_close_12]
    exact ⟨fun _ => hp _ (wen_CS h e0 he hm hN), fun q => absurd (by decide) q⟩
  | succ m ih =>
    intro hm hN
    rw [LX4_close_12, nI_pred, nI_clamp (by omega)]
    refine ⟨fun _ => hp _ (wen_CS h e0 he hm hN), fun _ => ⟨vp_in_nI (by omega) (by omega), fun q => ?_, fun _ => hp _ (wen_CS h e0 he hm hN)⟩⟩
    rintro _ rfl _ rfl
    rw [← Int32.sub_eq_add_neg]
    exact ih (by omega) (fun i h1 h2 => by
      by_cases hi : i = m
      · subst hi; exact q
      · exact hN i (by omega) h2)
theorem cClose {v T : StV} (h : CS v T) {k : Nat} (hk : k < 200) {post : StV → Prop} (hp : ∀ v', CS v' (aClose T k) → post v') : PX4_close v (nI k) post := by
  unfold PX4_close
  refine cClear hk ?_
  rintro _ rfl
  obtain ⟨e, n, he, hn, ee, en, hN⟩ := id h.1
  have hl := cClose_loop (clc_CS h k) ee he hp e (Nat.le_refl _) (fun i h1 h2 => by omega)
  refine ⟨e + 1, ?_⟩
  have e1 : s_en (s_wdu (clr v k 12) 11 k 0) = nI e := ee
  have e2 : s_wen (clc v k) (nI e) = s_wdu (clr v k 12) 11 k 0 := by
    refine st_ext rfl rfl rfl rfl ?_ rfl (fun _ _ => rfl) (fun _ _ => rfl)
    exact ee.symm
  rw [e1, ← e2]
  exact hl
/-- those that wait behind one are told: their ticks are g -/
def aTell (T : StV) (a : Int64) (g : Nat → Int64) : StV := s_wDU T (fun f i => if s_du T 6 i = a then (if f = 6 then (-2000000005 : Int64) else if f = 2 then g i else if f = 11 then 0 else s_du T f i) else s_du T f i)
def tl (v : StV) (a : Int64) (k : Nat) (g : Nat → Int64) : StV := s_wDU v (fun f i => if i < k ∧ s_du v 6 i = a then (if f = 6 then (-2000000005 : Int64) else if f = 2 then g i else if f = 11 then 0 else s_du v f i) else s_du v f i)
theorem tl_du (v : StV) (a : Int64) (k : Nat) (g : Nat → Int64) (f i : Nat) : s_du (tl v a k g) f i = if i < k ∧ s_du v 6 i = a then (if f = 6 then (-2000000005 : Int64) else if f = 2 then g i else if f = 11 then 0 else s_du v f i) else s_du v f i := rfl
theorem tl_no {v : StV} {a : Int64} {k : Nat} {g : Nat → Int64} (h : ¬ s_du v 6 k = a) : tl v a k g = tl v a (k + 1) g := by
  refine st_ext rfl rfl rfl rfl rfl rfl (fun f i => ?_) (fun _ _ => rfl)
  rw [tl_du, tl_du]
  by_cases h1 : i < k ∧ s_du v 6 i = a
  · rw [if_pos h1, if_pos (show i < k + 1 ∧ s_du v 6 i = a from ⟨by omega, h1.2⟩)]
  · rw [if_neg h1]
    by_cases h2 : i < k + 1 ∧ s_du v 6 i = a
    · exfalso
      have : i = k := by
        rcases Nat.lt_or_ge i k with q | q
        · exact absurd ⟨q, h2.2⟩ h1
        · omega
      exact h (this ▸ h2.2)
    · rw [if_neg h2]
theorem tl_yes {v : StV} {a : Int64} {k : Nat} {g : Nat → Int64} (h : s_du v 6 k = a) : s_wdu (s_wdu (s_wdu (tl v a k g) 6 k (-2000000005 : Int64)) 2 k (g k)) 11 k 0 = tl v a (k + 1) g := by
  refine st_ext rfl rfl rfl rfl rfl rfl (fun f i => ?_) (fun _ _ => rfl)
  rw [du_wdu, du_wdu, du_wdu, tl_du, tl_du]
  by_cases hi : i = k
  · subst hi
    rw [if_pos (show i < i + 1 ∧ s_du v 6 i = a from ⟨by omega, h⟩), if_neg (show ¬ (i < i ∧ s_du v 6 i = a) by omega)]
    by_cases f6 : f = 6
    · rw [if_neg (by omega), if_neg (by omega), if_pos ⟨f6, rfl⟩, if_pos f6]
    · by_cases f2 : f = 2
      · rw [if_neg (by omega), if_pos ⟨f2, rfl⟩, if_neg f6, if_pos f2]
      · by_cases f11 : f = 11
        · rw [if_pos ⟨f11, rfl⟩, if_neg f6, if_neg f2, if_pos f11]
        · rw [if_neg (fun q => f11 q.1), if_neg (fun q => f2 q.1), if_neg (fun q => f6 q.1), if_neg f6, if_neg f2, if_neg f11]
  · rw [if_neg (fun q => hi q.2), if_neg (fun q => hi q.2), if_neg (fun q => hi q.2)]
    by_cases h1 : i < k ∧ s_du v 6 i = a
    · rw [if_pos h1, if_pos (show i < k + 1 ∧ s_du v 6 i = a from ⟨by omega, h1.2⟩)]
    · rw [if_neg h1, if_neg (fun q => h1 ⟨by omega, q.2⟩)]
theorem tl_CS {v T : StV} (h : CS v T) {a : Int64} (ha : a ≠ (-2000000005 : Int64)) {e : Nat} (e0 : s_en v = nI e) (he0 : e ≤ 200) (g g' : Nat → Int64) (hg : ∀ i, s_du T 6 i = a → g i = g' i) : CS (tl v a e g) (aTell T a g') := by
  obtain ⟨e', n, he, hn, ee, en, hN⟩ := h.1
  have hee : e' = e := by
    rw [ee] at e0
    exact (nI_eq (by omega) (by omega)).mp e0
  subst hee
  have key : ∀ i, i < e' → s_du v 6 i = a → s_du v 0 i ≠ (-2000000005 : Int64) := fun i hi q z => ha (by rw [← q]; exact hN i hi z 6 (by omega))
  have d0 : ∀ i, s_du (tl v a e' g) 0 i = s_du v 0 i := fun i => by
    rw [tl_du]
    by_cases h1 : i < e' ∧ s_du v 6 i = a
    · rw [if_pos h1, if_neg (by omega), if_neg (by omega), if_neg (by omega)]
    · rw [if_neg h1]
  refine ⟨⟨e', n, he, hn, ee, en, fun i hi q f hf => ?_⟩, ?_⟩
  · rw [d0] at q
    rw [tl_du, if_neg (fun z => key i hi z.2 q)]
    exact hN i hi q f hf
  · refine st_ext h.tm h.pl h.go h.mv (by rw [← h.2]; rfl) h.rs (fun f i => ?_) (fun _ _ => by rw [← h.2]; rfl)
    show rC (tl v a e' g) i f = (if s_du T 6 i = a then (if f = 6 then (-2000000005 : Int64) else if f = 2 then g' i else if f = 11 then 0 else s_du T f i) else s_du T f i)
    rw [h.du, h.du]
    by_cases hi : i < e'
    · rw [rC_in (v := tl v a e' g) ee he hi, rC_f ee he hN hi (by omega)]
      by_cases h6 : s_du v 6 i = a
      · rw [if_pos h6]
        have hk := key i hi h6
        by_cases h12 : f < 12
        · by_cases h910 : f = 9 ∨ f = 10
          · rw [if_neg (by omega), if_neg (by omega), if_neg (by omega), rC_in ee he hi]
            by_cases k3 : s_du v 0 i = 3
            · rw [nrm_3 (by rw [d0]; exact k3) h12, nrm_3 k3 h12, tl_du, if_pos ⟨hi, h6⟩, if_neg (by omega), if_neg (by omega), if_neg (by omega)]
            · rw [nrm_n3 (by rw [d0]; exact k3) h910, nrm_n3 k3 h910]
          · rw [nrm_f (by rw [d0]; exact hk) h12 (by omega) (by omega), tl_du, if_pos ⟨hi, h6⟩, rC_in ee he hi, nrm_f hk h12 (by omega) (by omega), hg i (by rw [h.du, rC_f ee he hN hi (by omega)]; exact h6)]
        · rw [nrm_big (by omega), if_neg (by omega), if_neg (by omega), if_neg (by omega), rC_in ee he hi, nrm_big (by omega)]
      · rw [if_neg h6, rC_in ee he hi]
        exact congrFun (nrm_congr (fun f' _ => by rw [tl_du, if_neg (fun z => h6 z.2)])) f
    · rw [rC_out (v := tl v a e' g) ee he (by omega), rC_out ee he (by omega), if_neg (fun z => ha z.symm)]
theorem cTellGone_loop {v0 : StV} {e : Nat} (he : e ≤ 200) (ee : s_en v0 = nI e) (x : Int32) {post : StV → Prop} (hp : post (tl v0 x.toInt64 e (fun i => mn (s_tm v0 + s_du v0 9 i)))) :
    ∀ m k, k + m = e → LX4_tellGone_2 x post (m + 1) (nI k) (tl v0 x.toInt64 k (fun i => mn (s_tm v0 + s_du v0 9 i))) := by
  intro m
  induction m with
  | zero =>
    intro k hk
    obtain rfl : k = e := by omega
    rw [LX4_tellGone_2, show s_en (tl v0 x.toInt64 k (fun i => mn (s_tm v0 + s_du v0 9 i))) = nI k from ee]
    exact ⟨fun _ => hp, fun q => absurd (nI_le (Nat.le_refl _) (by omega)) q⟩
  | succ m ih =>
    intro k hk
    rw [LX4_tellGone_2, show s_en (tl v0 x.toInt64 k (fun i => mn (s_tm v0 + s_du v0 9 i))) = nI e from ee, nI_clamp (by omega)]
    have hin : vp_in (nI k) 200 := vp_in_nI (by omega) (by omega)
    have d6 : s_du (tl v0 x.toInt64 k (fun i => mn (s_tm v0 + s_du v0 9 i))) 6 k = s_du v0 6 k := by rw [tl_du, if_neg (by omega)]
    refine ⟨fun q => absurd ((nI_leI (by omega) (by omega)).mp q) (by omega), fun _ => ⟨hin, fun q => ?_, fun q => ?_⟩⟩
    · refine ⟨hin, ?_⟩
      rintro _ rfl
      refine ⟨hin, ?_⟩
      unfold PX4_setTick
      simp only [forall_eq]
      rw [nI_clamp (by omega), nI_1]
      refine ⟨hin, hin, ?_⟩
      rw [d6] at q
      have h9 : s_du (s_wdu (tl v0 x.toInt64 k (fun i => mn (s_tm v0 + s_du v0 9 i))) 6 k (-2000000005 : Int64)) 9 k = s_du v0 9 k := by rw [du_wdu, if_neg (by omega), tl_du, if_neg (by omega)]
      have e1 := tl_yes (g := fun i => mn (s_tm v0 + s_du v0 9 i)) q
      rw [h9, tm_wdu]
      have ht : s_tm (tl v0 x.toInt64 k (fun i => mn (s_tm v0 + s_du v0 9 i))) = s_tm v0 := rfl
      rw [ht]
      have e2 : s_wdu (s_wdu (s_wdu (tl v0 x.toInt64 k (fun i => mn (s_tm v0 + s_du v0 9 i))) 6 k (-2000000005 : Int64)) 2 k (if (1125899906842624 : Int64) < s_tm v0 + s_du v0 9 k then (1125899906842624 : Int64) else s_tm v0 + s_du v0 9 k)) 11 k 0 = tl v0 x.toInt64 (k + 1) (fun i => mn (s_tm v0 + s_du v0 9 i)) := e1
      rw [e2]
      exact ih (k + 1) (by omega)
    · rw [d6] at q
      rintro _ rfl
      rw [nI_1, tl_no q]
      exact ih (k + 1) (by omega)
theorem tl_0 (v : StV) (a : Int64) (g : Nat → Int64) : tl v a 0 g = v := by
  refine st_ext rfl rfl rfl rfl rfl rfl (fun f i => ?_) (fun _ _ => rfl)
  rw [tl_du, if_neg (by omega)]
theorem cTellGone {v T : StV} (h : CS v T) {x : Int32} (hx : x.toInt64 ≠ (-2000000005 : Int64)) (hA : ∀ i, s_du T 6 i ≠ (-2000000005 : Int64) → s_du T 0 i = 3) {post : StV → Prop} (hp : ∀ v', CS v' (aTell T x.toInt64 (fun i => mn (s_tm T + s_du T 9 i))) → post v') : PX4_tellGone v x post := by
  obtain ⟨e, n, he, hn, ee, en, hN⟩ := id h.1
  unfold PX4_tellGone
  refine ⟨e + 1, ?_⟩
  have hl := cTellGone_loop he ee x (post := post) (hp _ (tl_CS h hx ee he _ _ (fun i q => by
    rw [h.tm, h.f3 (hA i (by rw [q]; exact hx)) (by omega)]))) e 0 (by omega)
  rw [tl_0] at hl
  exact hl
def dropTo (tm r : Int64) : Int64 := if tm + 1 < r then r else tm + 1
theorem cTellDropped_loop {v0 : StV} {e : Nat} (he : e ≤ 200) (ee : s_en v0 = nI e) (x : Int32) {post : StV → Prop} (hp : post (tl v0 x.toInt64 e (fun i => mn (dropTo (s_tm v0) (s_du v0 10 i))))) :
    ∀ m k, k + m = e → LX4_tellDropped_2 x post (m + 1) (nI k) (tl v0 x.toInt64 k (fun i => mn (dropTo (s_tm v0) (s_du v0 10 i)))) := by
  intro m
  induction m with
  | zero =>
    intro k hk
    obtain rfl : k = e := by omega
    rw [LX4_tellDropped_2, show s_en (tl v0 x.toInt64 k (fun i => mn (dropTo (s_tm v0) (s_du v0 10 i)))) = nI k from ee]
    exact ⟨fun _ => hp, fun q => absurd (nI_le (Nat.le_refl _) (by omega)) q⟩
  | succ m ih =>
    intro k hk
    rw [LX4_tellDropped_2, show s_en (tl v0 x.toInt64 k (fun i => mn (dropTo (s_tm v0) (s_du v0 10 i)))) = nI e from ee, nI_clamp (by omega)]
    have hin : vp_in (nI k) 200 := vp_in_nI (by omega) (by omega)
    have d6 : s_du (tl v0 x.toInt64 k (fun i => mn (dropTo (s_tm v0) (s_du v0 10 i)))) 6 k = s_du v0 6 k := by rw [tl_du, if_neg (by omega)]
    refine ⟨fun q => absurd ((nI_leI (by omega) (by omega)).mp q) (by omega), fun _ => ⟨hin, fun q => ?_, fun q => ?_⟩⟩
    · refine ⟨hin, ?_⟩
      rintro _ rfl
      refine ⟨hin, ?_⟩
      unfold PX4_setTick
      simp only [forall_eq]
      rw [nI_clamp (by omega), nI_1]
      refine ⟨hin, hin, ?_⟩
      rw [d6] at q
      have h9 : s_du (s_wdu (tl v0 x.toInt64 k (fun i => mn (dropTo (s_tm v0) (s_du v0 10 i)))) 6 k (-2000000005 : Int64)) 10 k = s_du v0 10 k := by rw [du_wdu, if_neg (by omega), tl_du, if_neg (by omega)]
      have e1 := tl_yes (g := fun i => mn (dropTo (s_tm v0) (s_du v0 10 i))) q
      rw [h9, tm_wdu]
      have ht : s_tm (tl v0 x.toInt64 k (fun i => mn (dropTo (s_tm v0) (s_du v0 10 i)))) = s_tm v0 := rfl
      rw [ht]
      have e2 : s_wdu (s_wdu (s_wdu (tl v0 x.toInt64 k (fun i => mn (dropTo (s_tm v0) (s_du v0 10 i)))) 6 k (-2000000005 : Int64)) 2 k (if (1125899906842624 : Int64) < (if s_tm v0 + 1 < s_du v0 10 k then s_du v0 10 k else s_tm v0 + 1) then (1125899906842624 : Int64) else (if s_tm v0 + 1 < s_du v0 10 k then s_du v0 10 k else s_tm v0 + 1))) 11 k 0 = tl v0 x.toInt64 (k + 1) (fun i => mn (dropTo (s_tm v0) (s_du v0 10 i))) := e1
      rw [e2]
      exact ih (k + 1) (by omega)
    · rw [d6] at q
      rintro _ rfl
      rw [nI_1, tl_no q]
      exact ih (k + 1) (by omega)
theorem cTellDropped {v T : StV} (h : CS v T) {x : Int32} (hx : x.toInt64 ≠ (-2000000005 : Int64)) (hA : ∀ i, s_du T 6 i ≠ (-2000000005 : Int64) → s_du T 0 i = 3) {post : StV → Prop} (hp : ∀ v', CS v' (aTell T x.toInt64 (fun i => mn (dropTo (s_tm T) (s_du T 10 i)))) → post v') : PX4_tellDropped v x post := by
  obtain ⟨e, n, he, hn, ee, en, hN⟩ := id h.1
  unfold PX4_tellDropped
  refine ⟨e + 1, ?_⟩
  have hl := cTellDropped_loop he ee x (post := post) (hp _ (tl_CS h hx ee he _ _ (fun i q => by
    rw [h.tm, h.f3 (hA i (by rw [q]; exact hx)) (by omega)]))) e 0 (by omega)
  rw [tl_0] at hl
  exact hl
/-- the least tick of all below n, or MOST -/
def lt (T : StV) : Nat → Int64
  | 0 => (1125899906842624 : Int64)
  | n + 1 => if s_du T 2 n = (-2000000005 : Int64) then lt T n else if lt T n ≤ s_du T 2 n then lt T n else s_du T 2 n
theorem lt_out {T : StV} {e : Nat} (h : ∀ i, e ≤ i → s_du T 2 i = (-2000000005 : Int64)) : ∀ m, lt T (e + m) = lt T e
  | 0 => rfl
  | m + 1 => by
    show (if s_du T 2 (e + m) = (-2000000005 : Int64) then lt T (e + m) else _) = _
    rw [if_pos (h _ (by omega)), lt_out h m]
theorem cLT_loop {v T : StV} (h : CS v T) {e : Nat} (he : e ≤ 200) (ee : s_en v = nI e) (hN : ∀ i, i < e → s_du v 0 i = (-2000000005 : Int64) → ∀ f, f < 11 → s_du v f i = (-2000000005 : Int64)) {post : Int64 → Prop} (hp : ((1125899906842624 : Int64) ≤ lt T e → post (-2000000005 : Int64)) ∧ (¬ (1125899906842624 : Int64) ≤ lt T e → post (lt T e))) :
    ∀ m k, k + m = e → LX4_leastTick_6 v post (m + 1) (lt T k) (nI k) := by
  intro m
  induction m with
  | zero =>
    intro k hk
    obtain rfl : k = e := by omega
    rw [LX4_leastTick_6, ee]
    exact ⟨fun _ => hp, fun q => absurd (nI_le (Nat.le_refl _) (by omega)) q⟩
  | succ m ih =>
    intro k hk
    rw [LX4_leastTick_6, ee, nI_clamp (by omega)]
    have d2 : s_du v 2 k = s_du T 2 k := by rw [h.du, rC_f ee he hN (by omega) (by omega)]
    refine ⟨fun q => absurd ((nI_leI (by omega) (by omega)).mp q) (by omega), fun _ => ⟨vp_in_nI (by omega) (by omega), ?_⟩⟩
    rintro _ rfl
    rw [d2]
    have step := ih (k + 1) (by omega)
    rw [lt] at step
    refine ⟨fun q => ?_, fun q => ⟨fun q2 => ?_, fun q2 => ?_⟩⟩
    · rintro _ rfl
      rw [nI_1]
      rw [if_pos q] at step
      exact step
    · rintro _ rfl
      rw [nI_1]
      rw [if_neg q, if_pos q2] at step
      exact step
    · rintro _ rfl
      rw [nI_1]
      rw [if_neg q, if_neg q2] at step
      exact step
theorem CS.noT {v T : StV} (h : CS v T) {e : Nat} (ee : s_en v = nI e) (he : e ≤ 200) (f : Nat) : ∀ i, e ≤ i → s_du T f i = (-2000000005 : Int64) := fun i hi => by rw [h.du, rC_out ee he hi]
theorem cLT {v T : StV} (h : CS v T) {post : Int64 → Prop} (h1 : (1125899906842624 : Int64) ≤ lt T 200 → post (-2000000005 : Int64)) (h2 : ¬ (1125899906842624 : Int64) ≤ lt T 200 → post (lt T 200)) : PX4_leastTick v post := by
  obtain ⟨e, n, he, hn, ee, en, hN⟩ := id h.1
  unfold PX4_leastTick
  have hl : lt T 200 = lt T e := by
    have := lt_out (h.noT ee he 2) (200 - e)
    rwa [show e + (200 - e) = 200 by omega] at this
  rw [hl] at h1 h2
  exact ⟨e + 1, cLT_loop h he ee hN ⟨h1, h2⟩ e 0 (by omega)⟩
/-- how many below n have a field -/
def cnt (T : StV) (f : Nat) : Nat → Nat
  | 0 => 0
  | n + 1 => if s_du T f n = (-2000000005 : Int64) then cnt T f n else cnt T f n + 1
theorem cnt_le (T : StV) (f : Nat) : ∀ n, cnt T f n ≤ n
  | 0 => Nat.le_refl _
  | n + 1 => by
    have := cnt_le T f n
    unfold cnt
    split <;> omega
theorem cnt_out {T : StV} {e f : Nat} (h : ∀ i, e ≤ i → s_du T f i = (-2000000005 : Int64)) : ∀ m, cnt T f (e + m) = cnt T f e
  | 0 => rfl
  | m + 1 => by
    show (if s_du T f (e + m) = (-2000000005 : Int64) then cnt T f (e + m) else _) = _
    rw [if_pos (h _ (by omega)), cnt_out h m]
theorem cDW_loop {v T : StV} (h : CS v T) {e f : Nat} (hf : f < 9) (he : e ≤ 200) (ee : s_en v = nI e) (hN : ∀ i, i < e → s_du v 0 i = (-2000000005 : Int64) → ∀ f, f < 11 → s_du v f i = (-2000000005 : Int64)) {post : Int64 → Prop} (hp : post (lN (cnt T f e))) :
    ∀ m k, k + m = e → LX4_duesWith_5 v (nI f) post (m + 1) (lN (cnt T f k)) (nI k) := by
  intro m
  induction m with
  | zero =>
    intro k hk
    obtain rfl : k = e := by omega
    rw [LX4_duesWith_5, ee]
    exact ⟨fun _ => hp, fun q => absurd (nI_le (Nat.le_refl _) (by omega)) q⟩
  | succ m ih =>
    intro k hk
    rw [LX4_duesWith_5, ee, nI_clamp (show f < 2 ^ 31 by omega), nI_clamp (show k < 2 ^ 31 by omega)]
    have d2 : s_du v f k = s_du T f k := by rw [h.du, rC_f ee he hN (by omega) hf]
    refine ⟨fun q => absurd ((nI_leI (by omega) (by omega)).mp q) (by omega), fun _ => ⟨vp_in_nI (by omega) (by omega), vp_in_nI (by omega) (by omega), ?_⟩⟩
    rw [d2]
    have step := ih (k + 1) (by omega)
    rw [cnt] at step
    refine ⟨fun q => ?_, fun q => ?_⟩
    · rintro _ rfl
      rw [nI_1]
      rw [if_pos q] at step
      exact step
    · rintro _ rfl _ rfl
      rw [nI_1, lN_1]
      rw [if_neg q] at step
      exact step
theorem cDW {v T : StV} (h : CS v T) (f : Nat) (hf : f < 9) {post : Int64 → Prop} (hp : post (lN (cnt T f 200))) : PX4_duesWith v (nI f) post := by
  obtain ⟨e, n, he, hn, ee, en, hN⟩ := id h.1
  unfold PX4_duesWith
  have hl : cnt T f 200 = cnt T f e := by
    have := cnt_out (h.noT ee he f) (200 - e)
    rwa [show e + (200 - e) = 200 by omega] at this
  rw [hl] at hp
  exact ⟨e + 1, cDW_loop h hf he ee hN hp e 0 (by omega)⟩
