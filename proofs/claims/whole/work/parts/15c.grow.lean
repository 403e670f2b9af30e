/-! the world grows by one state -/
theorem xw_app {n m : Nat} {a b c : Nat → Nat} {f g k : Nat → va_E} (h1 : ∀ i, i < n → c i = a i ∧ k i = f i) (h2 : ∀ i, i < m → c (n + i) = b i ∧ k (n + i) = g i) : xw n a f ++ xw m b g = xw (n + m) c k := by
  have ln : ∀ (n : Nat) (a : Nat → Nat) (f : Nat → va_E), (xw n a f).length = n := fun n a f => by simp [xw]
  apply List.ext_getElem?
  intro i
  rcases Nat.lt_or_ge i n with q | q
  · rw [List.getElem?_append_left (by rw [ln]; exact q), xw_at q, xw_at (by omega), (h1 i q).1, (h1 i q).2]
  · rw [List.getElem?_append_right (by rw [ln]; exact q), ln]
    rcases Nat.lt_or_ge i (n + m) with q2 | q2
    · rw [xw_at (by omega), xw_at q2]
      have := h2 (i - n) (by omega)
      rw [show n + (i - n) = i by omega] at this
      rw [this.1, this.2]
    · rw [List.getElem?_eq_none (by rw [ln]; omega), List.getElem?_eq_none (by rw [ln]; omega)]
theorem A_sub {A : Nat → Prop} {W : va_W} {q : Nat} {e : va_E} {H0 H : Heap} {locs : List Loc} (hD : va_D A (W ++ [(q, e)])) (hS : va_S A H0 H locs) (hA : ∀ x, H0.size ≤ x → A x) : ∀ x, va_A [(q, e)] H.size x → A x := fun x hx => by
  rcases A_of hx with z | z
  · rw [z]
    exact hD.2 W.length (q, e) (by rw [List.getElem?_append_right (Nat.le_refl _), Nat.sub_self]; rfl)
  · exact hA x (Nat.le_trans hS.1 z)
theorem last_P {D : va_G} {W : va_W} {q : Nat} {e : va_E} {H : Heap} (hP : va_P D vwCl (W ++ [(q, e)]) H) : va_P D vwCl [(q, e)] H := fun k x hk => by
  have h1 := (List.getElem?_eq_some_iff.mp hk).1
  simp at h1
  subst h1
  cases hk
  exact hP W.length (q, e) (by rw [List.getElem?_append_right (Nat.le_refl _), Nat.sub_self]; rfl)
theorem at_q {D : va_G} {cl : List vw_C} {a N : Nat} {c : ClassId} {g g' : Nat → Option Nat} {H : Heap} (h : ∀ i, i < N → g i = g' i) (hq : va_at D cl (a, .inl (c, N, x_q g)) H) : va_at D cl (a, .inl (c, N, x_q g')) H := by
  have e : vp_cell c (N, x_q g) = vp_cell c (N, x_q g') := by
    rw [vp_cell_q, vp_cell_q]
    unfold arrV
    congr 2
    funext j
    show va_rf (g j.val) = va_rf (g' j.val)
    rw [h j.val j.isLt]
  have hq : H[a]? = some (vp_cell c (N, x_q g)) := hq
  show H[a]? = some (vp_cell c (N, x_q g'))
  rw [← e]
  exact hq
def st0 : Nat → StV := fun _ => (0, 0, 0, 0, 0, 0, fun _ _ => 0, fun _ _ => 0)
theorem at_s {D : va_G} {ad b : Nat → Nat} {ci : Nat → ClassId} {j p o : Nat} {H : Heap} (ho : o < 18) (h : ∀ o, o < 18 → ad (15 + 18 * j + o) = b (p + o)) (hq : va_at D vwCl (b (p + o), sB b ci p o) H) : va_at D vwCl (ad (15 + 18 * j + o), xs ad ci j (st0 j) o) H := by
  rw [h o ho]
  by_cases h0 : o = 0
  · subst h0
    have e : xs ad ci j (st0 j) 0 = sB b ci p 0 := by
      show (Sum.inr (4, [Value.long 0, .long 0, .long 0, .long 0, .int 0, .int 0, .ref (ad (15 + 18 * j + 1)), .ref (ad (15 + 18 * j + 14))]) : va_E) = _
      rw [h 1 (by omega), h 14 (by omega)]
      rfl
    rw [e]; exact hq
  · by_cases h1 : o = 1
    · subst h1
      refine at_q (g := fun i => if i < 12 then some (b (p + 2 + i)) else none) (fun i hi => ?_) hq
      show (if i < 12 then some (b (p + 2 + i)) else none) = some (ad (15 + 18 * j + (2 + i)))
      rw [if_pos hi, h (2 + i) (by omega), show p + 2 + i = p + (2 + i) by omega]
    · by_cases h14 : o = 14
      · subst h14
        refine at_q (g := fun i => if i < 3 then some (b (p + 15 + i)) else none) (fun i hi => ?_) hq
        show (if i < 3 then some (b (p + 15 + i)) else none) = some (ad (15 + 18 * j + (15 + i)))
        rw [if_pos hi, h (15 + i) (by omega), show p + 15 + i = p + (15 + i) by omega]
      · unfold sB at hq
        unfold xs
        rw [if_neg h0, if_neg h1, if_neg h14] at hq ⊢
        exact hq
theorem at_xs {D : va_G} {ad ad' : Nat → Nat} {ci : Nat → ClassId} {j o x : Nat} {v : StV} {H : Heap} (h : ∀ o, o < 18 → ad' (15 + 18 * j + o) = ad (15 + 18 * j + o)) (hq : va_at D vwCl (x, xs ad ci j v o) H) : va_at D vwCl (x, xs ad' ci j v o) H := by
  by_cases h0 : o = 0
  · subst h0
    have e : xs ad' ci j v 0 = xs ad ci j v 0 := by
      show (Sum.inr (4, [Value.long (s_tm v), .long (s_pl v), .long (s_go v), .long (s_mv v), .int (s_en v), .int (s_rs v), .ref (ad' (15 + 18 * j + 1)), .ref (ad' (15 + 18 * j + 14))]) : va_E) = _
      rw [h 1 (by omega), h 14 (by omega)]
      rfl
    rw [e]; exact hq
  · by_cases h1 : o = 1
    · subst h1
      refine at_q (g := fun i => some (ad (xaD j i))) (fun i hi => ?_) hq
      show some (ad (15 + 18 * j + (2 + i))) = some (ad' (15 + 18 * j + (2 + i)))
      rw [h (2 + i) (by omega)]
    · by_cases h14 : o = 14
      · subst h14
        refine at_q (g := fun i => some (ad (xaR j i))) (fun i hi => ?_) hq
        show some (ad (15 + 18 * j + (15 + i))) = some (ad' (15 + 18 * j + (15 + i)))
        rw [h (15 + i) (by omega)]
      · unfold xs at hq ⊢
        rw [if_neg h0, if_neg h1, if_neg h14] at hq ⊢
        exact hq
theorem xl_congr {ad ad' : Nat → Nat} {ci : Nat → ClassId} {g o : Nat} {w : LnV} (h : ∀ o, o < 4 → ad' (4 + 5 * g + o) = ad (4 + 5 * g + o)) : xl ad' ci g w o = xl ad ci g w o := by
  unfold xl
  have e1 : ad' (xaLd g) = ad (xaLd g) := h 1 (by omega)
  have e2 : ad' (xaLf g) = ad (xaLf g) := h 2 (by omega)
  have e3 : ad' (xaLs g) = ad (xaLs g) := h 3 (by omega)
  rw [e1, e2, e3]
/-- the world at other addresses that are the same below n -/
theorem at_xc {D : va_G} {ns k x : Nat} {ad ad' : Nat → Nat} {ci : Nat → ClassId} {st : Nat → StV} {ln : Nat → LnV} {sv : SvV} {kv : KvV} {cu : Nat} {H : Heap} (hk : k < xn ns) (hag : ∀ k, k < xn ns → ad' k = ad k) (hcu : cu < ns) (hr : ∀ i, i < 6 → k_rg kv i < 7 → k_rg kv i < ns) (hq : va_at D vwCl (x, xc ad ci st ln sv kv cu k) H) : va_at D vwCl (x, xc ad' ci st ln sv kv cu k) H := by
  have a1 : ad' 1 = ad 1 := hag 1 (xq_c (by decide))
  have a2 : ad' 2 = ad 2 := hag 2 (xq_c (by decide))
  have a3 : ad' 3 = ad 3 := hag 3 (xq_c (by decide))
  have a8 : ad' 8 = ad 8 := hag 8 (xq_c (by decide))
  have a13 : ad' 13 = ad 13 := hag 13 (xq_c (by decide))
  have a14 : ad' 14 = ad 14 := hag 14 (xq_c (by decide))
  rcases (show k = 0 ∨ k = 1 ∨ k = 2 ∨ k = 3 ∨ (4 ≤ k ∧ k < 8) ∨ k = 8 ∨ (9 ≤ k ∧ k < 13) ∨ k = 13 ∨ k = 14 ∨ 15 ≤ k by omega) with rfl | rfl | rfl | rfl | z | rfl | z | rfl | rfl | z
  · have e : xc ad' ci st ln sv kv cu 0 = xc ad ci st ln sv kv cu 0 := by
      show (Sum.inr (5, [Value.ref (ad' 1), .ref (ad' 3), .ref (ad' 8), .ref (ad' (xaS cu))]) : va_E) = _
      rw [a1, a3, a8, hag _ (xq_S hcu)]
      rfl
    rw [e]; exact hq
  · have e : xc ad' ci st ln sv kv cu 1 = xc ad ci st ln sv kv cu 1 := by
      show (Sum.inr (1, [Value.ref (ad' 2), .int (k_la kv), .int (k_sz kv)]) : va_E) = _
      rw [a2]
      rfl
    rw [e]; exact hq
  · refine at_q (g := xrg ad kv) (fun i hi => ?_) hq
    unfold xrg
    by_cases h7 : k_rg kv i < 7
    · rw [if_pos h7, if_pos h7, hag _ (xq_S (hr i hi h7))]
    · rw [if_neg h7, if_neg h7]
  · have e : xc ad' ci st ln sv kv cu 3 = xc ad ci st ln sv kv cu 3 := by
      show (Sum.inr (0, [Value.ref (ad' (xaL 0))]) : va_E) = _
      rw [hag _ (xq_L (by decide))]
      rfl
    rw [e]; exact hq
  · obtain ⟨o, rfl⟩ : ∃ o, k = 4 + 5 * 0 + o := ⟨k - 4, by omega⟩
    rw [xc_ln o (by omega) (by omega)] at hq ⊢
    rw [xl_congr (fun o ho => hag _ (xq_c (by omega)))]
    exact hq
  · have e : xc ad' ci st ln sv kv cu 8 = xc ad ci st ln sv kv cu 8 := by
      show (Sum.inr (3, [Value.ref (ad' (xaL 1)), .ref (ad' 13), .ref (ad' 14), .int (t_fz sv)]) : va_E) = _
      rw [hag _ (xq_L (by decide)), a13, a14]
      rfl
    rw [e]; exact hq
  · obtain ⟨o, rfl⟩ : ∃ o, k = 4 + 5 * 1 + o := ⟨k - 9, by omega⟩
    rw [xc_ln o (by omega) (by omega)] at hq ⊢
    rw [xl_congr (fun o ho => hag _ (xq_c (by omega)))]
    exact hq
  · exact hq
  · exact hq
  · obtain ⟨j, o, ho, rfl⟩ : ∃ j o, o < 18 ∧ k = 15 + 18 * j + o := ⟨(k - 15) / 18, (k - 15) % 18, by omega, by omega⟩
    have hj : j < ns := by unfold xn at hk; omega
    rw [xc_st o ho] at hq ⊢
    exact at_xs (fun o ho => hag _ (by unfold xn; omega)) hq
theorem x_grow {D : va_G} {A : Nat → Prop} {ns : Nat} {ad a : Nat → Nat} {ci : Nat → ClassId} {st : Nat → StV} {ln : Nat → LnV} {sv : SvV} {kv : KvV} {cu : Nat} {H : Heap} (hP : va_P D vwCl (xw (xn ns) ad (xc ad ci st ln sv kv cu) ++ xw 18 a (sB a ci 0)) H) (hD : va_D A (xw (xn ns) ad (xc ad ci st ln sv kv cu) ++ xw 18 a (sB a ci 0))) (hcu : cu < ns) (hr : ∀ i, i < 6 → k_rg kv i < 7 → k_rg kv i < ns) :
    ∃ ad' : Nat → Nat, (∀ k, k < xn ns → ad' k = ad k) ∧ ad' (xaS ns) = a 0 ∧ xw_D (xn (ns + 1)) ad' A ∧ va_P D vwCl (xw (xn (ns + 1)) ad' (xc ad' ci (va_up st ns (st0 ns)) ln sv kv cu)) H := by
  obtain ⟨ad', ea⟩ : ∃ z : Nat → Nat, z = fun k => if k < xn ns then ad k else a (k - xn ns) := ⟨_, rfl⟩
  have hag : ∀ k, k < xn ns → ad' k = ad k := fun k hk => by rw [ea]; exact if_pos hk
  have hnw : ∀ o, ad' (xn ns + o) = a o := fun o => by
    rw [ea]
    show (if xn ns + o < xn ns then ad (xn ns + o) else a (xn ns + o - xn ns)) = a o
    rw [if_neg (by omega), show xn ns + o - xn ns = o by omega]
  have en : xn (ns + 1) = xn ns + 18 := by unfold xn; omega
  obtain ⟨g, eg⟩ : ∃ z : Nat → va_E, z = fun k => if k < xn ns then xc ad ci st ln sv kv cu k else sB a ci 0 (k - xn ns) := ⟨_, rfl⟩
  have g1 : ∀ k, k < xn ns → g k = xc ad ci st ln sv kv cu k := fun k hk => by rw [eg]; exact if_pos hk
  have g2 : ∀ o, g (xn ns + o) = sB a ci 0 o := fun o => by
    rw [eg]
    show (if xn ns + o < xn ns then xc ad ci st ln sv kv cu (xn ns + o) else sB a ci 0 (xn ns + o - xn ns)) = _
    rw [if_neg (by omega), show xn ns + o - xn ns = o by omega]
  have eW : xw (xn ns) ad (xc ad ci st ln sv kv cu) ++ xw 18 a (sB a ci 0) = xw (xn (ns + 1)) ad' g := by
    rw [en]
    exact xw_app (fun i hi => ⟨hag i hi, g1 i hi⟩) (fun i _ => ⟨hnw i, g2 i⟩)
  rw [eW] at hP hD
  refine ⟨ad', hag, ?_, ⟨fun i j hi hj e => hD.1 i j _ _ (xw_at hi) (xw_at hj) e, fun i hi => hD.2 i _ (xw_at hi)⟩, fun k x hk => ?_⟩
  · rw [show xaS ns = xn ns + 0 from rfl]
    exact hnw 0
  · obtain ⟨hk1, rfl⟩ := xw_of hk
    have at9 := hP k _ (xw_at hk1)
    by_cases hk2 : k < xn ns
    · rw [g1 k hk2] at at9
      have at8 := at_xc hk2 hag hcu hr at9
      have e : xc ad' ci (va_up st ns (st0 ns)) ln sv kv cu k = xc ad' ci st ln sv kv cu k := by
        by_cases hi : k < 15
        · unfold xc
          repeat' split
          all_goals first | rfl | omega
        · obtain ⟨j, o, ho, rfl⟩ : ∃ j o, o < 18 ∧ k = 15 + 18 * j + o := ⟨(k - 15) / 18, (k - 15) % 18, by omega, by omega⟩
          have hj : j < ns := by unfold xn at hk2; omega
          rw [xc_st o ho, xc_st o ho, va_up_ne _ _ (by omega)]
      rw [e]
      exact at8
    · obtain ⟨o, ho, rfl⟩ : ∃ o, o < 18 ∧ k = xn ns + o := ⟨k - xn ns, by omega, by omega⟩
      rw [g2 o, hnw o] at at9
      have e : xc ad' ci (va_up st ns (st0 ns)) ln sv kv cu (xn ns + o) = xs ad' ci ns (st0 ns) o := by
        have := xc_st (ad := ad') (ci := ci) (st := va_up st ns (st0 ns)) (ln := ln) (sv := sv) (kv := kv) (cu := cu) (j := ns) o ho
        rw [va_up_self] at this
        exact this
      rw [e]
      exact at_s (b := a) (p := 0) ho (fun o _ => by rw [Nat.zero_add]; exact hnw o) (by rw [Nat.zero_add]; exact at9)
