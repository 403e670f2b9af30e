/-! what always holds is kept by every call -/
def IZ (Z : Zt) : Prop := IT Z.1 ∧ ∀ T, T ∈ Z.2 → IT T
theorem IZ.keep {Z : Zt} (h : IZ Z) {T : StV} (hT : IT T) : IZ (T, (zKeep Z).2) := by
  refine ⟨hT, fun T' hm => ?_⟩
  have hm : T' ∈ (Z.1 :: Z.2).take 6 := hm
  rcases List.mem_cons.mp (List.mem_of_mem_take hm) with q | q
  · rw [q]; exact h.1
  · exact h.2 T' q
theorem IZ.undo {Z : Zt} (h : IZ Z) : IZ (zUndo Z).2 := by
  obtain ⟨T, L⟩ := Z
  cases L with
  | nil => exact h
  | cons T1 L => exact ⟨h.2 T1 List.mem_cons_self, fun T' hm => h.2 T' (List.mem_cons_of_mem _ hm)⟩
theorem tm_ne {T : StV} (h : IT T) {t : Int64} (q : s_tm T < t) : t ≠ (-2000000005 : Int64) := fun z => by
  have a := h.1.1
  rw [z, y_lt, x_N] at q
  rw [y_le, x_0] at a
  omega
theorem tOk {T : StV} (h : IT T) {t : Int64} (q : ¬ tBad T t) : okT (s_tm T) t := by
  have a : s_tm T < t := Int64.not_le.mp (fun z => q (Or.inl z))
  exact ⟨a, Int64.not_lt.mp (fun z => q (Or.inr z)), tm_ne h a⟩
theorem zOnce_I {Z : Zt} (h : IZ Z) (t : Int64) (say : Int32) : IZ (zOnce Z t say).2 := by
  unfold zOnce
  by_cases q : tBad Z.1 t
  · rw [if_pos q]; exact h
  · rw [if_neg q]
    by_cases f : fr Z.1 = 200
    · rw [if_pos f]; exact h
    · rw [if_neg f]
      have hk : fr Z.1 < 200 := by have := fr_le Z.1; omega
      have ok := tOk h.1 q
      refine h.keep (T := aTick (aOpen Z.1 0 say.toInt64) (fr Z.1) t) (WI.it ?_)
      refine h.1.wi.row (k := fr Z.1) h.1.1 hk (fun i f hi => ?_) (fun _ _ => rfl) ?_ ?_ (Or.inl ?_)
      · simp [aTick, du_wdu, aOpen_du, hi]
      · simp [aTick, du_wdu, aOpen_du, nrow]
      · exact RI_mk (a0 := 0) (a2 := t) (a3 := (-2000000005 : Int64)) (a4 := (-2000000005 : Int64)) (a5 := (-2000000005 : Int64)) (a6 := (-2000000005 : Int64)) (a7 := (-2000000005 : Int64)) (a9 := (-2000000005 : Int64)) (a10 := (-2000000005 : Int64)) (a11 := 0) (by simp [aTick, du_wdu, aOpen_du, nrow]) (by simp [aTick, du_wdu, aOpen_du, nrow]) (by simp [aTick, du_wdu, aOpen_du, nrow]) (by simp [aTick, du_wdu, aOpen_du, nrow]) (by simp [aTick, du_wdu, aOpen_du, nrow]) (by simp [aTick, du_wdu, aOpen_du, nrow]) (by simp [aTick, du_wdu, aOpen_du, nrow]) (by simp [aTick, du_wdu, aOpen_du, nrow]) (by simp [aTick, du_wdu, aOpen_du, nrow]) (by simp [aTick, du_wdu, aOpen_du, nrow]) ⟨Or.inl rfl, fun _ => ⟨ok.1, ok.2.1⟩, fun z => absurd z (by decide), fun _ => rfl, fun z => absurd z (by decide), fun _ => ⟨rfl, rfl⟩, fun z => absurd rfl z, fun z => absurd z (by decide), fun z => absurd rfl z, fun z => absurd z ok.2.2⟩
      · simp [aTick, du_wdu, aOpen_du, nrow]
theorem zRep_I {Z : Zt} (h : IZ Z) {kd : Int32} (hkd : kd.toInt64 = 1 ∨ kd.toInt64 = 4) (t ev : Int64) (n say : Int32) : IZ (zRep Z kd t ev n say).2 := by
  unfold zRep
  by_cases q : rBad Z.1 t ev n
  · rw [if_pos q]; exact h
  · rw [if_neg q]
    by_cases f : fr Z.1 = 200
    · rw [if_pos f]; exact h
    · rw [if_neg f]
      have hk : fr Z.1 < 200 := by have := fr_le Z.1; omega
      have ok := tOk h.1 (fun z => q (Or.inl z))
      have q1 : 1 ≤ ev := Int64.not_lt.mp (fun z => q (Or.inr (Or.inl z)))
      have q2 : ev ≤ (1125899906842624 : Int64) := Int64.not_lt.mp (fun z => q (Or.inr (Or.inr (Or.inl z))))
      have q3 : ¬ n < 0 := fun z => q (Or.inr (Or.inr (Or.inr (Or.inl z))))
      have q4 : ¬ 1000000 < n := fun z => q (Or.inr (Or.inr (Or.inr (Or.inr z))))
      have n1 : (0 : Int64) ≤ n.toInt64 := by
        rw [Int64.le_iff_toInt_le, i64_of32]
        rw [Int32.lt_iff_toInt_lt] at q3
        simp at q3 ⊢
        omega
      have n2 : n.toInt64 ≤ (1000000 : Int64) := by
        rw [Int64.le_iff_toInt_le, i64_of32]
        rw [Int32.lt_iff_toInt_lt] at q4
        simp at q4 ⊢
        omega
      have kn : kd.toInt64 ≠ (-2000000005 : Int64) := by rcases hkd with z | z <;> (rw [z]; decide)
      refine h.keep (T := aRep Z.1 kd.toInt64 say.toInt64 t ev n.toInt64) (WI.it ?_)
      refine h.1.wi.row (k := fr Z.1) h.1.1 hk (fun i f hi => ?_) (fun _ _ => rfl) ?_ ?_ (Or.inl ?_)
      · simp [aRep, aTick, du_wdu, aOpen_du, hi]
      · simp [aRep, aTick, du_wdu, aOpen_du, nrow]; exact kn
      · refine RI_mk (a0 := kd.toInt64) (a2 := t) (a3 := (-2000000005 : Int64)) (a4 := ev) (a5 := n.toInt64) (a6 := (-2000000005 : Int64)) (a7 := (-2000000005 : Int64)) (a9 := (-2000000005 : Int64)) (a10 := (-2000000005 : Int64)) (a11 := 0) (by simp [aRep, aTick, du_wdu, aOpen_du, nrow]) (by simp [aRep, aTick, du_wdu, aOpen_du, nrow]) (by simp [aRep, aTick, du_wdu, aOpen_du, nrow]) (by simp [aRep, aTick, du_wdu, aOpen_du, nrow]) (by simp [aRep, aTick, du_wdu, aOpen_du, nrow]) (by simp [aRep, aTick, du_wdu, aOpen_du, nrow]) (by simp [aRep, aTick, du_wdu, aOpen_du, nrow]) (by simp [aRep, aTick, du_wdu, aOpen_du, nrow]) (by simp [aRep, aTick, du_wdu, aOpen_du, nrow]) (by simp [aRep, aTick, du_wdu, aOpen_du, nrow]) ⟨?_, fun _ => ⟨ok.1, ok.2.1⟩, fun z => ?_, fun _ => rfl, fun _ => ⟨q1, q2, n1, n2⟩, fun z => absurd hkd z, fun z => absurd rfl z, fun z => ?_, fun z => absurd rfl z, fun z => absurd z ok.2.2⟩
        · rcases hkd with z | z <;> (rw [z]; decide)
        · rw [z] at hkd; exact absurd hkd (by decide)
        · rw [z] at hkd; exact absurd hkd (by decide)
      · simp [aRep, aTick, du_wdu, aOpen_du, nrow]
theorem zLoose_I {Z : Zt} (h : IZ Z) (a b : Int64) (say : Int32) : IZ (zLoose Z a b say).2 := by
  unfold zLoose
  by_cases q : tBad Z.1 b ∨ a < 0 ∨ b < a
  · rw [if_pos q]; exact h
  · rw [if_neg q]
    by_cases f : fr Z.1 = 200
    · rw [if_pos f]; exact h
    · rw [if_neg f]
      have hk : fr Z.1 < 200 := by have := fr_le Z.1; omega
      have ok := tOk h.1 (fun z => q (Or.inl z))
      have q1 : 0 ≤ a := Int64.not_lt.mp (fun z => q (Or.inr (Or.inl z)))
      refine h.keep (T := s_wdu (aTick (aOpen Z.1 2 say.toInt64) (fr Z.1) b) 3 (fr Z.1) a) (WI.it ?_)
      refine h.1.wi.row (k := fr Z.1) h.1.1 hk (fun i f hi => ?_) (fun _ _ => rfl) ?_ ?_ (Or.inl ?_)
      · simp [aTick, du_wdu, aOpen_du, hi]
      · simp [aTick, du_wdu, aOpen_du, nrow]
      · exact RI_mk (a0 := 2) (a2 := b) (a3 := a) (a4 := (-2000000005 : Int64)) (a5 := (-2000000005 : Int64)) (a6 := (-2000000005 : Int64)) (a7 := (-2000000005 : Int64)) (a9 := (-2000000005 : Int64)) (a10 := (-2000000005 : Int64)) (a11 := 0) (by simp [aTick, du_wdu, aOpen_du, nrow]) (by simp [aTick, du_wdu, aOpen_du, nrow]) (by simp [aTick, du_wdu, aOpen_du, nrow]) (by simp [aTick, du_wdu, aOpen_du, nrow]) (by simp [aTick, du_wdu, aOpen_du, nrow]) (by simp [aTick, du_wdu, aOpen_du, nrow]) (by simp [aTick, du_wdu, aOpen_du, nrow]) (by simp [aTick, du_wdu, aOpen_du, nrow]) (by simp [aTick, du_wdu, aOpen_du, nrow]) (by simp [aTick, du_wdu, aOpen_du, nrow]) ⟨by decide, fun _ => ⟨ok.1, ok.2.1⟩, fun _ => ⟨q1, ok.2.2⟩, fun z => absurd rfl z, fun z => absurd z (by decide), fun _ => ⟨rfl, rfl⟩, fun z => absurd rfl z, fun z => absurd z (by decide), fun z => absurd rfl z, fun z => absurd z ok.2.2⟩
      · simp [aTick, du_wdu, aOpen_du, nrow]
theorem IT.k {T : StV} (h : IT T) {x : Int32} (d : dI T x) : ∃ k : Nat, k < 200 ∧ x = nI k ∧ x.toNatClampNeg = k ∧ s_du T 0 k ≠ (-2000000005 : Int64) := by
  obtain ⟨j, j1, j2, j3⟩ := i_nn d.1
  have hd := d.2
  rw [j3] at hd
  exact ⟨j, h.wi.lt hd, j2, j3, hd⟩
theorem zCh_I {Z : Zt} (h : IZ Z) (x : Int32) (be re : Int64) (say : Int32) : IZ (zCh Z x be re say).2 := by
  unfold zCh
  by_cases q : chBad Z.1 x be re
  · rw [if_pos q]; exact h
  · rw [if_neg q]
    by_cases f : fr Z.1 = 200
    · rw [if_pos f]; exact h
    · rw [if_neg f]
      have hk : fr Z.1 < 200 := by have := fr_le Z.1; omega
      have d : dI Z.1 x := by
        by_cases z : dI Z.1 x
        · exact z
        · exact absurd (Or.inl z) q
      obtain ⟨j, j1, j2, j3, j4⟩ := h.1.k d
      have q1 : 1 ≤ be := Int64.not_lt.mp (fun z => q (Or.inr (Or.inl z)))
      have q2 : be ≤ (1125899906842624 : Int64) := Int64.not_lt.mp (fun z => q (Or.inr (Or.inr (Or.inl z))))
      have q3 : 0 ≤ re := Int64.not_lt.mp (fun z => q (Or.inr (Or.inr (Or.inr (Or.inl z)))))
      have q4 : re ≤ (1125899906842624 : Int64) := Int64.not_lt.mp (fun z => q (Or.inr (Or.inr (Or.inr (Or.inr z)))))
      have ex : x.toInt64 = lN j := by rw [j2]; exact nI_l (by omega)
      have jn : lN j ≠ (-2000000005 : Int64) := lN_ne (by omega)
      have ne : j ≠ fr Z.1 := fun z => j4 (by rw [z]; exact fr_none hk)
      rw [ex]
      refine h.keep (T := aCh Z.1 say.toInt64 (lN j) be re) (WI.it ?_)
      have ho : ∀ i f, i ≠ fr Z.1 → s_du (aCh Z.1 say.toInt64 (lN j) be re) f i = s_du Z.1 f i := fun i f hi => by simp [aCh, du_wdu, aOpen_du, hi]
      have e6 : s_du (aCh Z.1 say.toInt64 (lN j) be re) 6 (fr Z.1) = lN j := by simp [aCh, du_wdu, aOpen_du]
      refine h.1.wi.row0 (k := fr Z.1) h.1.1 hk ho (fun _ _ => rfl) ?_ ?_ (fun _ => ⟨j, j1, e6, j4⟩) ?_
      · simp [aCh, du_wdu, aOpen_du, nrow]
      · exact RI_mk (a0 := 3) (a2 := (-2000000005 : Int64)) (a3 := (-2000000005 : Int64)) (a4 := (-2000000005 : Int64)) (a5 := (-2000000005 : Int64)) (a6 := lN j) (a7 := (-2000000005 : Int64)) (a9 := be) (a10 := re) (a11 := 0) (by simp [aCh, du_wdu, aOpen_du, nrow]) (by simp [aCh, du_wdu, aOpen_du, nrow]) (by simp [aCh, du_wdu, aOpen_du, nrow]) (by simp [aCh, du_wdu, aOpen_du, nrow]) (by simp [aCh, du_wdu, aOpen_du, nrow]) e6 (by simp [aCh, du_wdu, aOpen_du, nrow]) (by simp [aCh, du_wdu, aOpen_du, nrow]) (by simp [aCh, du_wdu, aOpen_du, nrow]) (by simp [aCh, du_wdu, aOpen_du, nrow]) ⟨by decide, fun z => absurd rfl z, fun z => absurd z (by decide), fun _ => rfl, fun z => absurd z (by decide), fun _ => ⟨rfl, rfl⟩, fun _ => ⟨rfl, rfl⟩, fun _ => ⟨q1, q2, q3, q4⟩, fun z => absurd rfl z, fun _ => ⟨Or.inl jn, rfl⟩⟩
      · obtain ⟨r, hr⟩ := h.1.2.2.2.2.2
        refine ⟨fun i => if i = fr Z.1 then r j + 1 else r i, fun i k e hk2 => ?_⟩
        by_cases z : i = fr Z.1
        · rw [z, e6, lN_eq (by omega) (by omega)] at e
          show (if k = fr Z.1 then r j + 1 else r k) < (if i = fr Z.1 then r j + 1 else r i)
          rw [if_pos z, if_neg (by rw [← e]; exact ne), ← e]
          omega
        · rw [ho i 6 z] at e
          have i6 : s_du Z.1 6 i ≠ (-2000000005 : Int64) := by rw [e]; exact lN_ne (by omega)
          obtain ⟨k', a1, a2, a3⟩ := h.1.2.2.2.2.1 i i6
          rw [e, lN_eq (by omega) (by omega)] at a2
          have kn : k ≠ fr Z.1 := fun w => a3 (by rw [← a2, w]; exact fr_none hk)
          show (if k = fr Z.1 then r j + 1 else r k) < (if i = fr Z.1 then r j + 1 else r i)
          rw [if_neg z, if_neg kn]
          exact hr i k e hk2
theorem zDrop_I {Z : Zt} (h : IZ Z) (x : Int32) : IZ (zDrop Z x).2 := by
  unfold zDrop
  by_cases q : ¬ dI Z.1 x
  · rw [if_pos q]; exact h
  · rw [if_neg q]
    obtain ⟨j, j1, j2, j3, j4⟩ := h.1.k (Decidable.not_not.mp q)
    have ex : x.toInt64 = lN j := by rw [j2]; exact nI_l (by omega)
    have jn : lN j ≠ (-2000000005 : Int64) := lN_ne (by omega)
    rw [j3, ex]
    refine h.keep (T := aClose (aTell Z.1 (lN j) (fun i => dropTo (s_tm Z.1) (s_du Z.1 10 i))) j) (WI.it ?_)
    refine (h.1.wi.tell jn (fun i hi => ?_)).close (aTell_6 jn) (fun _ _ => rfl)
    have i6 : s_du Z.1 6 i ≠ (-2000000005 : Int64) := by rw [hi]; exact jn
    have r8 := (h.1.ri (h.1.there i6)).b.2.2.2.2.2.2.2.1 (h.1.ah3 i i6)
    have e1 := x_p1 h.1
    have a := h.1.1
    have t1 : s_tm Z.1 < dropTo (s_tm Z.1) (s_du Z.1 10 i) := by
      unfold dropTo
      split
      · rename_i w
        rw [y_lt] at w ⊢
        omega
      · rw [y_lt]; omega
    have t2 : dropTo (s_tm Z.1) (s_du Z.1 10 i) ≤ (1125899906842624 : Int64) := by
      unfold dropTo
      split
      · exact r8.2.2.2
      · have a2 := a.2
        rw [y_lt, x_M] at a2
        rw [y_le, x_M]; omega
    exact ⟨t1, t2, tm_ne h.1 t1⟩
theorem bh_step {T : StV} (hI : IT T) {o k q : Nat} (hk : k < 200) (hne : k ≠ o) (hq : s_du T 6 k = lN q) (hq2 : q < 200) : bh T o 200 k = bh T o 200 q := by
  have hn : s_du T 6 k ≠ (-2000000005 : Int64) := by rw [hq]; exact lN_ne (by omega)
  obtain ⟨k', a1, a2, a3, -⟩ := nx_some hI hn
  rw [hq, lN_eq (by omega) (by omega)] at a2
  subst a2
  have p := pth_200 hI hk
  have e1 : pth T 200 k = pth T 199 q := by rw [show (200 : Nat) = 199 + 1 from rfl, pth, a3]
  rw [e1] at p
  have e2 := pth_stab (o := o) (m := 1) 199 q p
  have e3 : bh T o 200 k = bh T o 199 q := by rw [show (200 : Nat) = 199 + 1 from rfl, bh, if_neg hne, a3]
  rw [e3, ← e2]
theorem zChain_I {Z : Zt} (h : IZ Z) (x y : Int32) : IZ (zChain Z x y).2 := by
  unfold zChain
  by_cases q : ¬ dI Z.1 x ∨ ¬ dI Z.1 y
  · rw [if_pos q]; exact h
  · rw [if_neg q]
    have dx : dI Z.1 x := Decidable.not_not.mp (fun z => q (Or.inl z))
    have dy : dI Z.1 y := Decidable.not_not.mp (fun z => q (Or.inr z))
    obtain ⟨k, k1, k2, k3, k4⟩ := h.1.k dx
    obtain ⟨j, j1, j2, j3, j4⟩ := h.1.k dy
    rw [k3, j3]
    by_cases q2 : s_du Z.1 6 k = (-2000000005 : Int64)
    · rw [if_pos q2]; exact h
    · rw [if_neg q2]
      by_cases q3 : bh Z.1 k 200 j = true
      · rw [if_pos q3]; exact h
      · rw [if_neg q3]
        have ey : y.toInt64 = lN j := by rw [j2]; exact nI_l (by omega)
        have jn : lN j ≠ (-2000000005 : Int64) := lN_ne (by omega)
        rw [ey]
        refine h.keep (T := s_wdu Z.1 6 k (lN j)) (WI.it ?_)
        have ho : ∀ i f, i ≠ k → s_du (s_wdu Z.1 6 k (lN j)) f i = s_du Z.1 f i := fun i f hi => by rw [du_wdu, if_neg (fun z => hi z.2)]
        have hf : ∀ f, f ≠ 6 → s_du (s_wdu Z.1 6 k (lN j)) f k = s_du Z.1 f k := fun f hf => by rw [du_wdu, if_neg (fun z => hf z.1)]
        have e6 : s_du (s_wdu Z.1 6 k (lN j)) 6 k = lN j := by rw [du_wdu, if_pos ⟨rfl, rfl⟩]
        obtain ⟨r1, r2, r3, r4, r5, r6, r7, r8, r9, r10⟩ := (h.1.ri k4).b
        have k3 := r7 q2
        refine h.1.wi.row0 (k := k) h.1.1 k1 ho (fun _ _ => rfl) (by rw [hf 0 (by omega)]; exact k4) ?_ (fun _ => ⟨j, j1, e6, j4⟩) ?_
        · exact RI_mk (hf 0 (by omega)) (hf 2 (by omega)) (hf 3 (by omega)) (hf 4 (by omega)) (hf 5 (by omega)) e6 (hf 7 (by omega)) (hf 9 (by omega)) (hf 10 (by omega)) (hf 11 (by omega)) ⟨r1, r2, r3, r4, r5, r6, fun _ => k3, r8, r9, fun z => ⟨Or.inl jn, (r10 z).2⟩⟩
        · obtain ⟨r, hr⟩ := h.1.2.2.2.2.2
          refine ⟨fun i => if bh Z.1 k 200 i = true then r i + (r j + 1) else r i, fun i m e hm => ?_⟩
          show (if bh Z.1 k 200 m = true then r m + (r j + 1) else r m) < (if bh Z.1 k 200 i = true then r i + (r j + 1) else r i)
          by_cases z : i = k
          · rw [z, e6, lN_eq (by omega) (by omega)] at e
            have bk : bh Z.1 k 200 i = true := by rw [z, show (200 : Nat) = 199 + 1 from rfl, bh, if_pos rfl]
            rw [if_pos bk, ← e, if_neg q3]
            omega
          · rw [ho i 6 z] at e
            have i6 : s_du Z.1 6 i ≠ (-2000000005 : Int64) := by rw [e]; exact lN_ne (by omega)
            have := hr i m e hm
            rw [bh_step h.1 (h.1.wi.lt i6) z e hm]
            split <;> omega
theorem zRest_I {Z : Zt} (h : IZ Z) (x : Int32) : IZ (zRest Z x).2 := by
  unfold zRest
  by_cases q : ¬ dI Z.1 x
  · rw [if_pos q]; exact h
  · rw [if_neg q]
    obtain ⟨k, k1, k2, k3, k4⟩ := h.1.k (Decidable.not_not.mp q)
    rw [k3]
    by_cases q2 : s_du Z.1 0 k ≠ 4 ∨ s_du Z.1 7 k ≠ (-2000000005 : Int64)
    · rw [if_pos q2]; exact h
    · rw [if_neg q2]
      have a4 : s_du Z.1 0 k = 4 := Decidable.not_not.mp (fun z => q2 (Or.inl z))
      have a7 : s_du Z.1 7 k = (-2000000005 : Int64) := Decidable.not_not.mp (fun z => q2 (Or.inr z))
      obtain ⟨r1, r2, r3, r4, r5, r6, r7, r8, r9, r10⟩ := (h.1.ri k4).b
      have a6 : s_du Z.1 6 k = (-2000000005 : Int64) := by
        by_cases z : s_du Z.1 6 k = (-2000000005 : Int64)
        · exact z
        · have := (r7 z).1
          rw [a4] at this
          exact absurd this (by decide)
      have a2 : s_du Z.1 2 k ≠ (-2000000005 : Int64) := fun z => (r10 z).1.elim (fun w => w a6) (fun w => w a7)
      have t := r2 a2
      have b := h.1.1
      have e : (s_du Z.1 2 k - s_tm Z.1).toInt = (s_du Z.1 2 k).toInt - (s_tm Z.1).toInt := by
        rw [y_lt, y_le, x_M] at t
        rw [y_le, x_0] at b
        exact x_subL (by omega) (by omega)
      have u1 : 1 ≤ s_du Z.1 2 k - s_tm Z.1 := by
        rw [y_lt] at t
        rw [y_le, x_1, e]; omega
      have u2 : s_du Z.1 2 k - s_tm Z.1 ≤ (1125899906842624 : Int64) := by
        have t2 := t.2
        have b1 := b.1
        rw [y_le, x_M] at t2
        rw [y_le, x_0] at b1
        rw [y_le, x_M, e]; omega
      have un : s_du Z.1 2 k - s_tm Z.1 ≠ (-2000000005 : Int64) := fun z => by rw [z] at u1; exact absurd u1 (by decide)
      refine h.keep (T := s_wdu (s_wdu (s_wdu Z.1 7 k (s_du Z.1 2 k - s_tm Z.1)) 2 k (-2000000005 : Int64)) 11 k 0) (WI.it ?_)
      have hf : ∀ f, f ≠ 7 → f ≠ 2 → f ≠ 11 → s_du (s_wdu (s_wdu (s_wdu Z.1 7 k (s_du Z.1 2 k - s_tm Z.1)) 2 k (-2000000005 : Int64)) 11 k 0) f k = s_du Z.1 f k := fun f b1 b2 b3 => by rw [du_wdu, if_neg (by omega), du_wdu, if_neg (by omega), du_wdu, if_neg (by omega)]
      refine h.1.wi.row (k := k) h.1.1 k1 (fun i f hi => ?_) (fun _ _ => rfl) (by rw [hf 0 (by omega) (by omega) (by omega)]; exact k4) ?_ (Or.inr (hf 6 (by omega) (by omega) (by omega)))
      · rw [du_wdu, if_neg (fun z => hi z.2), du_wdu, if_neg (fun z => hi z.2), du_wdu, if_neg (fun z => hi z.2)]
      · exact RI_mk (a2 := (-2000000005 : Int64)) (a7 := s_du Z.1 2 k - s_tm Z.1) (a11 := 0) (hf 0 (by omega) (by omega) (by omega)) (by simp [du_wdu]) (hf 3 (by omega) (by omega) (by omega)) (hf 4 (by omega) (by omega) (by omega)) (hf 5 (by omega) (by omega) (by omega)) (hf 6 (by omega) (by omega) (by omega)) (by simp [du_wdu]) (hf 9 (by omega) (by omega) (by omega)) (hf 10 (by omega) (by omega) (by omega)) (by simp [du_wdu]) ⟨r1, fun z => absurd rfl z, fun z => by rw [a4] at z; exact absurd z (by decide), r4, r5, r6, fun z => absurd a6 z, r8, fun _ => ⟨a4, rfl, u1, u2⟩, fun _ => ⟨Or.inr un, rfl⟩⟩
theorem zWake_I {Z : Zt} (h : IZ Z) (x : Int32) : IZ (zWake Z x).2 := by
  unfold zWake
  by_cases q : ¬ dI Z.1 x
  · rw [if_pos q]; exact h
  · rw [if_neg q]
    obtain ⟨k, k1, k2, k3, k4⟩ := h.1.k (Decidable.not_not.mp q)
    rw [k3]
    by_cases q2 : s_du Z.1 7 k = (-2000000005 : Int64)
    · rw [if_pos q2]; exact h
    · rw [if_neg q2]
      obtain ⟨r1, r2, r3, r4, r5, r6, r7, r8, r9, r10⟩ := (h.1.ri k4).b
      obtain ⟨a4, a2, u1, u2⟩ := r9 q2
      have a6 : s_du Z.1 6 k = (-2000000005 : Int64) := by
        by_cases z : s_du Z.1 6 k = (-2000000005 : Int64)
        · exact z
        · have := (r7 z).1
          rw [a4] at this
          exact absurd this (by decide)
      have ok := (okT_add (lo := s_tm Z.1) h.1.1.1 h.1.1.2 u1 u2 (Int64.le_refl _)).1
      obtain ⟨t, et⟩ : ∃ t, t = mn (s_tm Z.1 + s_du Z.1 7 k) := ⟨_, rfl⟩
      rw [← et] at ok ⊢
      refine h.keep (T := aPlace (aTick (s_wdu Z.1 7 k (-2000000005 : Int64)) k t) k) (WI.it ?_)
      have hf : ∀ f, f ≠ 7 → f ≠ 2 → f ≠ 11 → f ≠ 8 → s_du (aPlace (aTick (s_wdu Z.1 7 k (-2000000005 : Int64)) k t) k) f k = s_du Z.1 f k := fun f b1 b2 b3 b4 => by
        rw [aPlace_du, if_neg (by omega)]
        unfold aTick
        rw [du_wdu, if_neg (by omega), du_wdu, if_neg (by omega), du_wdu, if_neg (by omega)]
      refine h.1.wi.row (k := k) h.1.1 k1 (fun i f hi => ?_) (fun _ _ => rfl) (by rw [hf 0 (by omega) (by omega) (by omega) (by omega)]; exact k4) ?_ (Or.inr (hf 6 (by omega) (by omega) (by omega) (by omega)))
      · rw [aPlace_du, if_neg (fun z => hi z.2)]
        unfold aTick
        rw [du_wdu, if_neg (fun z => hi z.2), du_wdu, if_neg (fun z => hi z.2), du_wdu, if_neg (fun z => hi z.2)]
      · exact RI_mk (a2 := t) (a7 := (-2000000005 : Int64)) (a11 := 0) (hf 0 (by omega) (by omega) (by omega) (by omega)) (by simp [aPlace_du, aTick, du_wdu]) (hf 3 (by omega) (by omega) (by omega) (by omega)) (hf 4 (by omega) (by omega) (by omega) (by omega)) (hf 5 (by omega) (by omega) (by omega) (by omega)) (hf 6 (by omega) (by omega) (by omega) (by omega)) (by simp [aPlace_du, aTick, du_wdu]) (hf 9 (by omega) (by omega) (by omega) (by omega)) (hf 10 (by omega) (by omega) (by omega) (by omega)) (by simp [aPlace_du, aTick, du_wdu]) ⟨r1, fun _ => ⟨ok.1, ok.2.1⟩, fun z => by rw [a4] at z; exact absurd z (by decide), r4, r5, r6, fun z => absurd a6 z, r8, fun z => absurd rfl z, fun z => absurd z ok.2.2⟩
theorem mx0_nn (z : Int64) : 0 ≤ mx0 z := by
  unfold mx0
  split
  · rename_i q; exact Int64.le_of_lt q
  · exact Int64.le_refl _
theorem zShift_I {Z : Zt} (h : IZ Z) (x : Int32) (d : Int64) : IZ (zShift Z x d).2 := by
  unfold zShift
  by_cases q : shBad Z.1 x d
  · rw [if_pos q]; exact h
  · rw [if_neg q]
    obtain ⟨k, k1, k2, k3, k4⟩ := h.1.k (Decidable.not_not.mp (fun z => q (Or.inl z)))
    rw [k3]
    by_cases q2 : s_du Z.1 2 k = (-2000000005 : Int64)
    · rw [if_pos q2]; exact h
    · rw [if_neg q2]
      by_cases q3 : tBad Z.1 (s_du Z.1 2 k + d)
      · rw [if_pos q3]; exact h
      · rw [if_neg q3]
        have ok := tOk h.1 q3
        obtain ⟨r1, r2, r3, r4, r5, r6, r7, r8, r9, r10⟩ := (h.1.ri k4).b
        have a6 : s_du Z.1 6 k = (-2000000005 : Int64) := by
          by_cases z : s_du Z.1 6 k = (-2000000005 : Int64)
          · exact z
          · exact absurd (r7 z).2 q2
        have a7 : s_du Z.1 7 k = (-2000000005 : Int64) := by
          by_cases z : s_du Z.1 7 k = (-2000000005 : Int64)
          · exact z
          · exact absurd (r9 z).2.1 q2
        refine h.keep (T := aShift Z.1 k d) (WI.it ?_)
        have hf : ∀ f, f ≠ 3 → f ≠ 2 → f ≠ 11 → f ≠ 8 → s_du (aShift Z.1 k d) f k = s_du Z.1 f k := fun f b1 b2 b3 b4 => by
          unfold aShift
          rw [aPlace_du, if_neg (by omega)]
          split
          · rw [du_wdu, if_neg (by omega)]
            unfold aTick
            rw [du_wdu, if_neg (by omega), du_wdu, if_neg (by omega)]
          · unfold aTick
            rw [du_wdu, if_neg (by omega), du_wdu, if_neg (by omega)]
        have f2 : s_du (aShift Z.1 k d) 2 k = s_du Z.1 2 k + d := by
          unfold aShift
          rw [aPlace_du, if_neg (by omega)]
          split
          · rw [du_wdu, if_neg (by omega), aTick_2]
          · rw [aTick_2]
        have f3 : (s_du Z.1 0 k = 2 → 0 ≤ s_du (aShift Z.1 k d) 3 k) ∧ (s_du Z.1 0 k ≠ 2 → s_du (aShift Z.1 k d) 3 k = (-2000000005 : Int64)) := by
          unfold aShift
          rw [aPlace_du, if_neg (by omega)]
          split
          · rename_i w
            rw [du_wdu, if_pos ⟨rfl, rfl⟩]
            exact ⟨fun _ => mx0_nn _, fun z => absurd w z⟩
          · rename_i w
            refine ⟨fun z => absurd z w, fun z => ?_⟩
            unfold aTick
            rw [du_wdu, if_neg (by omega), du_wdu, if_neg (by omega)]
            exact r4 z
        have etm : s_tm (aShift Z.1 k d) = s_tm Z.1 := by
          unfold aShift aPlace
          rw [s_wpl_s_tm, tm_wdu]
          split
          · rfl
          · rfl
        have w : WI (fun _ => s_tm Z.1) (aShift Z.1 k d) := by
          refine h.1.wi.row (k := k) (by rw [etm]; exact h.1.1) k1 (fun i f hi => ?_) (fun _ _ => rfl) (by rw [hf 0 (by omega) (by omega) (by omega) (by omega)]; exact k4) ?_ (Or.inr (hf 6 (by omega) (by omega) (by omega) (by omega)))
          · unfold aShift
            rw [aPlace_du, if_neg (fun z => hi z.2)]
            split
            · rw [du_wdu, if_neg (fun z => hi z.2)]
              unfold aTick
              rw [du_wdu, if_neg (fun z => hi z.2), du_wdu, if_neg (fun z => hi z.2)]
            · unfold aTick
              rw [du_wdu, if_neg (fun z => hi z.2), du_wdu, if_neg (fun z => hi z.2)]
          · exact RI_mk (a2 := s_du Z.1 2 k + d) (a3 := s_du (aShift Z.1 k d) 3 k) (a11 := s_du (aShift Z.1 k d) 11 k) (hf 0 (by omega) (by omega) (by omega) (by omega)) f2 rfl (hf 4 (by omega) (by omega) (by omega) (by omega)) (hf 5 (by omega) (by omega) (by omega) (by omega)) (hf 6 (by omega) (by omega) (by omega) (by omega)) (hf 7 (by omega) (by omega) (by omega) (by omega)) (hf 9 (by omega) (by omega) (by omega) (by omega)) (hf 10 (by omega) (by omega) (by omega) (by omega)) rfl ⟨r1, fun _ => ⟨ok.1, ok.2.1⟩, fun z => ⟨f3.1 z, ok.2.2⟩, f3.2, r5, r6, fun z => absurd a6 z, r8, fun z => absurd a7 z, fun z => absurd z ok.2.2⟩
        rw [← etm] at w
        exact w.it
theorem zGo_I {Z : Zt} (h : IZ Z) (t : Int64) : IZ (zGo Z t).2 := by
  unfold zGo
  by_cases q : t < s_tm Z.1 ∨ ¬ t ≤ (1125899906842623 : Int64)
  · rw [if_pos q]; exact h
  · rw [if_neg q]
    refine h.keep (T := aGo t 301 (aClr Z.1)) (aGo_IT (le_M1 (Decidable.not_not.mp (fun z => q (Or.inr z)))) 301 _ h.1.clr ?_)
    exact Int64.not_lt.mp (fun z => q (Or.inl z))
theorem zSet_I {Z : Zt} (h : IZ Z) : IZ (zSet Z).2 := h.keep (T := aCo Z.1 (sP Z.1)) (aCo_IT _ _ h.1 (sP_ok h.1))
