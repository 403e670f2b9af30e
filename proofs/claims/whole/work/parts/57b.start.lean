theorem KI0 : KI st0 kv0 0 (T0, []) := by
  have n7 : ∀ i, ¬ k_rg kv0 i < 7 := fun i => by
    show ¬ (7 : Nat) < 7
    omega
  refine ⟨0, 0, by omega, by omega, rfl, rfl, ⟨?_, rfl, fun i _ q => absurd q (n7 i), fun i j _ _ q => absurd q (n7 i), fun j _ => (st0_CS j).1⟩, st0_CS 0, rfl, fun i hi => absurd hi (Nat.not_lt_zero _)⟩
  show 0 < 1
  omega
theorem MK0 : MK r0M (T0, []) := by
  refine ⟨⟨⟨⟨0, by omega, rfl⟩, fun k hk q => absurd q (by show ¬ (0 : Int64) = 1; decide)⟩, ?_⟩, 0, by omega, rfl, rfl, fun i hi => absurd hi (Nat.not_lt_zero _)⟩
  refine st_ext rfl rfl rfl rfl rfl rfl (fun f i => ?_) (fun f i => ?_)
  · rw [vM_du, rM_out (fun z => absurd z.2 (by show ¬ (0 : Int64) = 1; decide))]
    rfl
  · rw [vM_ro]
    show (if f < 3 ∧ i < ((0 : Int64).toInt32).toNatClampNeg then _ else (0 : Int64)) = 0
    rw [if_neg (fun z => absurd z.2 (Nat.not_lt_zero _))]
theorem IZ0 : IZ (T0, []) := by
  refine ⟨⟨⟨by decide, by decide⟩, fun i hi => absurd rfl hi, fun i f _ => rfl, fun i _ => rfl, fun i hi => absurd rfl hi, ⟨fun _ => 0, fun i k e hk => ?_⟩⟩, fun T hT => by simp at hT⟩
  have e : (-2000000005 : Int64) = lN k := e
  exact absurd e.symm (lN_ne (by omega))
theorem arr_K {s : State} {args : Array Value} {ty : FieldType} (h : (Cond.arrayClass ty).before args s = true) : ∃ cA : ClassId, ArrOfT s cA ty ∧ s.vm.findClass ("[" ++ ty.toString) = some cA := by
  obtain ⟨cA, kA, comp, h1, h2, h3⟩ := Cond.arrayClass_spec h
  exact ⟨cA, fun n z => ⟨fun k h => (by cases h), kA, h2, comp, h3⟩, h1⟩
