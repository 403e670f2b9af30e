/-! what always holds, row by row; how it is kept -/
def WI (lo : Nat → Int64) (T : StV) : Prop := (0 ≤ s_tm T ∧ s_tm T < (1125899906842624 : Int64)) ∧ (∀ i, s_du T 0 i ≠ (-2000000005 : Int64) → RI (lo i) (fun f => s_du T f i)) ∧ (∀ i f, s_du T 0 i = (-2000000005 : Int64) → s_du T f i = (-2000000005 : Int64)) ∧ (∀ i, 200 ≤ i → s_du T 0 i = (-2000000005 : Int64)) ∧ (∀ i, s_du T 6 i ≠ (-2000000005 : Int64) → ∃ k, k < 200 ∧ s_du T 6 i = lN k ∧ s_du T 0 k ≠ (-2000000005 : Int64)) ∧ AC T
theorem IT.wi {T : StV} (h : IT T) : WI (fun _ => s_tm T) T := h
theorem WI.it {T : StV} (h : WI (fun _ => s_tm T) T) : IT T := h
theorem WI.there {lo : Nat → Int64} {T : StV} (h : WI lo T) {i f : Nat} (hi : s_du T f i ≠ (-2000000005 : Int64)) : s_du T 0 i ≠ (-2000000005 : Int64) := fun q => hi (h.2.2.1 i f q)
theorem WI.lt {lo : Nat → Int64} {T : StV} (h : WI lo T) {i f : Nat} (hi : s_du T f i ≠ (-2000000005 : Int64)) : i < 200 := by
  rcases Nat.lt_or_ge i 200 with q | q
  · exact q
  · exact absurd (h.2.2.2.1 i q) (h.there hi)
theorem WI.ri {lo : Nat → Int64} {T : StV} (h : WI lo T) {i : Nat} (hi : s_du T 0 i ≠ (-2000000005 : Int64)) : RI (lo i) (fun f => s_du T f i) := h.2.1 i hi
theorem WI.ah3 {lo : Nat → Int64} {T : StV} (h : WI lo T) : ∀ i, s_du T 6 i ≠ (-2000000005 : Int64) → s_du T 0 i = 3 := fun i hi => ((h.ri (h.there hi)).2.2.2.2.2.2.1 hi).1
theorem WI.congr {lo : Nat → Int64} {T T' : StV} (h : WI lo T) (h1 : s_tm T' = s_tm T) (h2 : s_du T' = s_du T) : WI lo T' := by
  unfold WI AC at h ⊢
  rw [h1, h2]
  exact h
theorem RI.b {lo : Int64} {T : StV} {i : Nat} (h : RI lo (fun f => s_du T f i)) : (s_du T 0 i = 0 ∨ s_du T 0 i = 1 ∨ s_du T 0 i = 2 ∨ s_du T 0 i = 3 ∨ s_du T 0 i = 4) ∧ (s_du T 2 i ≠ (-2000000005 : Int64) → lo < s_du T 2 i ∧ s_du T 2 i ≤ (1125899906842624 : Int64)) ∧ (s_du T 0 i = 2 → 0 ≤ s_du T 3 i ∧ s_du T 2 i ≠ (-2000000005 : Int64)) ∧ (s_du T 0 i ≠ 2 → s_du T 3 i = (-2000000005 : Int64)) ∧ (s_du T 0 i = 1 ∨ s_du T 0 i = 4 → 1 ≤ s_du T 4 i ∧ s_du T 4 i ≤ (1125899906842624 : Int64) ∧ 0 ≤ s_du T 5 i ∧ s_du T 5 i ≤ 1000000) ∧ (¬ (s_du T 0 i = 1 ∨ s_du T 0 i = 4) → s_du T 4 i = (-2000000005 : Int64) ∧ s_du T 5 i = (-2000000005 : Int64)) ∧ (s_du T 6 i ≠ (-2000000005 : Int64) → s_du T 0 i = 3 ∧ s_du T 2 i = (-2000000005 : Int64)) ∧ (s_du T 0 i = 3 → 1 ≤ s_du T 9 i ∧ s_du T 9 i ≤ (1125899906842624 : Int64) ∧ 0 ≤ s_du T 10 i ∧ s_du T 10 i ≤ (1125899906842624 : Int64)) ∧ (s_du T 7 i ≠ (-2000000005 : Int64) → s_du T 0 i = 4 ∧ s_du T 2 i = (-2000000005 : Int64) ∧ 1 ≤ s_du T 7 i ∧ s_du T 7 i ≤ (1125899906842624 : Int64)) ∧ (s_du T 2 i = (-2000000005 : Int64) → (s_du T 6 i ≠ (-2000000005 : Int64) ∨ s_du T 7 i ≠ (-2000000005 : Int64)) ∧ s_du T 11 i = 0) := h
theorem RI_mk {lo : Int64} {g : Nat → Int64} {a0 a2 a3 a4 a5 a6 a7 a9 a10 a11 : Int64} (e0 : g 0 = a0) (e2 : g 2 = a2) (e3 : g 3 = a3) (e4 : g 4 = a4) (e5 : g 5 = a5) (e6 : g 6 = a6) (e7 : g 7 = a7) (e9 : g 9 = a9) (e10 : g 10 = a10) (e11 : g 11 = a11)
    (h : (a0 = 0 ∨ a0 = 1 ∨ a0 = 2 ∨ a0 = 3 ∨ a0 = 4) ∧ (a2 ≠ (-2000000005 : Int64) → lo < a2 ∧ a2 ≤ (1125899906842624 : Int64)) ∧ (a0 = 2 → 0 ≤ a3 ∧ a2 ≠ (-2000000005 : Int64)) ∧ (a0 ≠ 2 → a3 = (-2000000005 : Int64)) ∧ (a0 = 1 ∨ a0 = 4 → 1 ≤ a4 ∧ a4 ≤ (1125899906842624 : Int64) ∧ 0 ≤ a5 ∧ a5 ≤ 1000000) ∧ (¬ (a0 = 1 ∨ a0 = 4) → a4 = (-2000000005 : Int64) ∧ a5 = (-2000000005 : Int64)) ∧ (a6 ≠ (-2000000005 : Int64) → a0 = 3 ∧ a2 = (-2000000005 : Int64)) ∧ (a0 = 3 → 1 ≤ a9 ∧ a9 ≤ (1125899906842624 : Int64) ∧ 0 ≤ a10 ∧ a10 ≤ (1125899906842624 : Int64)) ∧ (a7 ≠ (-2000000005 : Int64) → a0 = 4 ∧ a2 = (-2000000005 : Int64) ∧ 1 ≤ a7 ∧ a7 ≤ (1125899906842624 : Int64)) ∧ (a2 = (-2000000005 : Int64) → (a6 ≠ (-2000000005 : Int64) ∨ a7 ≠ (-2000000005 : Int64)) ∧ a11 = 0)) : RI lo g := by
  subst e0; subst e2; subst e3; subst e4; subst e5; subst e6; subst e7; subst e9; subst e10; subst e11
  exact h
theorem WI.row0 {lo lo' : Nat → Int64} {T T' : StV} {k : Nat} (h : WI lo T) (htm : 0 ≤ s_tm T' ∧ s_tm T' < (1125899906842624 : Int64)) (hk : k < 200) (ho : ∀ i f, i ≠ k → s_du T' f i = s_du T f i) (hlo : ∀ i, i ≠ k → lo' i = lo i) (hk0 : s_du T' 0 k ≠ (-2000000005 : Int64)) (hr : RI (lo' k) (fun f => s_du T' f k)) (h6 : s_du T' 6 k ≠ (-2000000005 : Int64) → ∃ q, q < 200 ∧ s_du T' 6 k = lN q ∧ s_du T 0 q ≠ (-2000000005 : Int64)) (hac : AC T') : WI lo' T' := by
  refine ⟨htm, fun i hi => ?_, fun i f hi => ?_, fun i hi => ?_, fun i hi => ?_, hac⟩
  · by_cases q : i = k
    · subst q; exact hr
    · rw [ho i 0 q] at hi
      rw [hlo i q]
      have e : (fun f => s_du T' f i) = (fun f => s_du T f i) := funext (fun f => ho i f q)
      rw [e]
      exact h.2.1 i hi
  · by_cases q : i = k
    · subst q; exact absurd hi hk0
    · rw [ho i 0 q] at hi
      rw [ho i f q]
      exact h.2.2.1 i f hi
  · rw [ho i 0 (by omega)]
    exact h.2.2.2.1 i hi
  · have th : ∀ q, s_du T 0 q ≠ (-2000000005 : Int64) → s_du T' 0 q ≠ (-2000000005 : Int64) := fun q hq => by
      by_cases z : q = k
      · subst z; exact hk0
      · rw [ho q 0 z]; exact hq
    by_cases q : i = k
    · subst q
      obtain ⟨q, h1, h2, h3⟩ := h6 hi
      exact ⟨q, h1, h2, th q h3⟩
    · rw [ho i 6 q] at hi ⊢
      obtain ⟨j, h1, h2, h3⟩ := h.2.2.2.2.1 i hi
      exact ⟨j, h1, h2, th j h3⟩
theorem WI.row {lo lo' : Nat → Int64} {T T' : StV} {k : Nat} (h : WI lo T) (htm : 0 ≤ s_tm T' ∧ s_tm T' < (1125899906842624 : Int64)) (hk : k < 200) (ho : ∀ i f, i ≠ k → s_du T' f i = s_du T f i) (hlo : ∀ i, i ≠ k → lo' i = lo i) (hk0 : s_du T' 0 k ≠ (-2000000005 : Int64)) (hr : RI (lo' k) (fun f => s_du T' f k)) (h6 : s_du T' 6 k = (-2000000005 : Int64) ∨ s_du T' 6 k = s_du T 6 k) : WI lo' T' := by
  refine h.row0 htm hk ho hlo hk0 hr (fun q => ?_) ?_
  · rcases h6 with z | z
    · exact absurd z q
    · rw [z] at q ⊢
      exact h.2.2.2.2.1 k q
  · obtain ⟨r, hr2⟩ := h.2.2.2.2.2
    refine ⟨r, fun i j e hj => ?_⟩
    by_cases q : i = k
    · subst q
      rcases h6 with z | z
      · rw [z] at e
        exact absurd e.symm (lN_ne (by omega))
      · rw [z] at e; exact hr2 i j e hj
    · rw [ho i 6 q] at e; exact hr2 i j e hj
abbrev okT (lo t : Int64) : Prop := lo < t ∧ t ≤ (1125899906842624 : Int64) ∧ t ≠ (-2000000005 : Int64)
theorem aTell_du (T : StV) (a : Int64) (g : Nat → Int64) (f i : Nat) : s_du (aTell T a g) f i = if s_du T 6 i = a then (if f = 6 then (-2000000005 : Int64) else if f = 2 then g i else if f = 11 then 0 else s_du T f i) else s_du T f i := rfl
theorem aTell_f {T : StV} {a : Int64} {g : Nat → Int64} {f i : Nat} (h6 : f ≠ 6) (h2 : f ≠ 2) (h11 : f ≠ 11) : s_du (aTell T a g) f i = s_du T f i := by
  rw [aTell_du]
  by_cases q : s_du T 6 i = a
  · rw [if_pos q, if_neg h6, if_neg h2, if_neg h11]
  · rw [if_neg q]
theorem aTell_ne {T : StV} {a : Int64} {g : Nat → Int64} {f i : Nat} (h : s_du T 6 i ≠ a) : s_du (aTell T a g) f i = s_du T f i := by rw [aTell_du, if_neg h]
theorem aTell_6 {T : StV} {a : Int64} {g : Nat → Int64} (ha : a ≠ (-2000000005 : Int64)) (i : Nat) : s_du (aTell T a g) 6 i ≠ a := by
  rw [aTell_du]
  by_cases q : s_du T 6 i = a
  · rw [if_pos q, if_pos rfl]; exact ha.symm
  · rw [if_neg q]; exact q
theorem WI.tell {lo : Nat → Int64} {T : StV} (h : WI lo T) {a : Int64} (ha : a ≠ (-2000000005 : Int64)) {g : Nat → Int64} (hg : ∀ i, s_du T 6 i = a → okT (lo i) (g i)) : WI lo (aTell T a g) := by
  have d0 : ∀ i, s_du (aTell T a g) 0 i = s_du T 0 i := fun i => aTell_f (by omega) (by omega) (by omega)
  refine ⟨h.1, fun i hi => ?_, fun i f hi => ?_, fun i hi => ?_, fun i hi => ?_, ?_⟩
  · rw [d0] at hi
    by_cases q : s_du T 6 i = a
    · obtain ⟨r1, r2, r3, r4, r5, r6, r7, r8, r9, r10⟩ := (h.ri hi).b
      have k3 : s_du T 0 i = 3 ∧ s_du T 2 i = (-2000000005 : Int64) := r7 (by rw [q]; exact ha)
      have n2 : s_du T 0 i ≠ 2 := by rw [k3.1]; decide
      have n14 : ¬ (s_du T 0 i = 1 ∨ s_du T 0 i = 4) := by rw [k3.1]; decide
      have e7 : s_du T 7 i = (-2000000005 : Int64) := by
        by_cases z : s_du T 7 i = (-2000000005 : Int64)
        · exact z
        · have := (r9 z).1
          rw [k3.1] at this
          exact absurd this (by decide)
      have v : ∀ f, f ≠ 6 → f ≠ 2 → f ≠ 11 → s_du (aTell T a g) f i = s_du T f i := fun f a1 a2 a3 => aTell_f a1 a2 a3
      refine RI_mk (a0 := 3) (a2 := g i) (a3 := (-2000000005 : Int64)) (a4 := (-2000000005 : Int64)) (a5 := (-2000000005 : Int64)) (a6 := (-2000000005 : Int64)) (a7 := (-2000000005 : Int64)) (a9 := s_du T 9 i) (a10 := s_du T 10 i) (a11 := 0) ?_ ?_ ?_ ?_ ?_ ?_ ?_ ?_ ?_ ?_ ?_
      · rw [d0]; exact k3.1
      · rw [aTell_du, if_pos q, if_neg (by omega), if_pos rfl]
      · rw [v 3 (by omega) (by omega) (by omega)]; exact r4 n2
      · rw [v 4 (by omega) (by omega) (by omega)]; exact (r6 n14).1
      · rw [v 5 (by omega) (by omega) (by omega)]; exact (r6 n14).2
      · rw [aTell_du, if_pos q, if_pos rfl]
      · rw [v 7 (by omega) (by omega) (by omega)]; exact e7
      · exact v 9 (by omega) (by omega) (by omega)
      · exact v 10 (by omega) (by omega) (by omega)
      · rw [aTell_du, if_pos q, if_neg (by omega), if_neg (by omega), if_pos rfl]
      · have ok := hg i q
        exact ⟨by decide, fun _ => ⟨ok.1, ok.2.1⟩, fun z => absurd z (by decide), fun _ => rfl, fun z => absurd z (by decide), fun _ => ⟨rfl, rfl⟩, fun z => absurd rfl z, fun _ => r8 k3.1, fun z => absurd rfl z, fun z => absurd z ok.2.2⟩
    · have e : (fun f => s_du (aTell T a g) f i) = (fun f => s_du T f i) := funext (fun f => aTell_ne q)
      rw [e]
      exact h.ri hi
  · rw [d0] at hi
    have q : s_du T 6 i ≠ a := fun z => ha (by rw [← z]; exact h.2.2.1 i 6 hi)
    rw [aTell_ne q]
    exact h.2.2.1 i f hi
  · rw [d0]; exact h.2.2.2.1 i hi
  · have q : s_du T 6 i ≠ a := fun z => hi (by rw [aTell_du, if_pos z, if_pos rfl])
    rw [aTell_ne q] at hi ⊢
    obtain ⟨j, h1, h2, h3⟩ := h.2.2.2.2.1 i hi
    exact ⟨j, h1, h2, by rw [d0]; exact h3⟩
  · obtain ⟨r, hr⟩ := h.2.2.2.2.2
    refine ⟨r, fun i j e hj => ?_⟩
    by_cases q : s_du T 6 i = a
    · rw [aTell_du, if_pos q, if_pos rfl] at e
      exact absurd e.symm (lN_ne (by omega))
    · rw [aTell_ne q] at e; exact hr i j e hj
theorem WI.close {lo lo' : Nat → Int64} {T : StV} (h : WI lo T) {k : Nat} (hk : ∀ i, s_du T 6 i ≠ lN k) (hlo : ∀ i, i ≠ k → lo' i = lo i) : WI lo' (aClose T k) := by
  refine ⟨h.1, fun i hi => ?_, fun i f hi => ?_, fun i hi => ?_, fun i hi => ?_, ?_⟩
  · rw [aClose_du] at hi
    by_cases q : i = k
    · rw [if_pos q] at hi; exact absurd rfl hi
    · rw [if_neg q] at hi
      rw [hlo i q]
      have e : (fun f => s_du (aClose T k) f i) = (fun f => s_du T f i) := funext (fun f => by rw [aClose_du, if_neg q])
      rw [e]
      exact h.ri hi
  · rw [aClose_du] at hi ⊢
    by_cases q : i = k
    · rw [if_pos q]
    · rw [if_neg q] at hi ⊢
      exact h.2.2.1 i f hi
  · rw [aClose_du]
    by_cases q : i = k
    · rw [if_pos q]
    · rw [if_neg q]; exact h.2.2.2.1 i hi
  · rw [aClose_du] at hi ⊢
    by_cases q : i = k
    · rw [if_pos q] at hi; exact absurd rfl hi
    · rw [if_neg q] at hi ⊢
      obtain ⟨j, h1, h2, h3⟩ := h.2.2.2.2.1 i hi
      refine ⟨j, h1, h2, ?_⟩
      rw [aClose_du, if_neg (fun z => hk i (by rw [h2, z]))]
      exact h3
  · obtain ⟨r, hr⟩ := h.2.2.2.2.2
    refine ⟨r, fun i j e hj => ?_⟩
    rw [aClose_du] at e
    by_cases q : i = k
    · rw [if_pos q] at e
      exact absurd e.symm (lN_ne (by omega))
    · rw [if_neg q] at e; exact hr i j e hj
theorem RI.lo {lo lo' : Int64} {g : Nat → Int64} (h : RI lo g) (hl : g 2 ≠ (-2000000005 : Int64) → lo' < g 2) : RI lo' g := by
  obtain ⟨r1, r2, r3⟩ := h
  exact ⟨r1, fun z => ⟨hl z, (r2 z).2⟩, r3⟩
/-- numbers -/
theorem okT_add {tm b lo : Int64} (h0 : 0 ≤ tm) (h1 : tm < (1125899906842624 : Int64)) (b0 : 1 ≤ b) (b1 : b ≤ (1125899906842624 : Int64)) (hl : lo ≤ tm) : okT lo (mn (tm + b)) ∧ (tm + b).toInt = tm.toInt + b.toInt := by
  rw [y_le, x_0] at h0
  rw [y_lt, x_M] at h1
  rw [y_le, x_1] at b0
  rw [y_le, x_M] at b1
  rw [y_le] at hl
  have e : (tm + b).toInt = tm.toInt + b.toInt := x_addL (by omega) (by omega)
  refine ⟨?_, e⟩
  unfold mn
  by_cases q : (1125899906842624 : Int64) < tm + b
  · rw [if_pos q]
    exact ⟨by rw [y_lt, x_M]; omega, by rw [y_le]; omega, by decide⟩
  · rw [if_neg q]
    rw [y_lt, x_M, e] at q
    exact ⟨by rw [y_lt, e]; omega, by rw [y_le, x_M, e]; omega, fun z => by rw [y_eq, x_N, e] at z; omega⟩
