/-- nothing has been done yet -/
def T0 : StV := (0, 0, 0, 0, 0, 0, fun _ _ => (-2000000005 : Int64), fun _ _ => 0)
theorem st0_CS (j : Nat) : CS (st0 j) T0 := by
  refine ⟨⟨0, 0, by omega, by omega, rfl, rfl, fun i hi => absurd hi (Nat.not_lt_zero _)⟩, ?_⟩
  refine st_ext rfl rfl rfl rfl rfl rfl (fun f i => ?_) (fun f i => ?_)
  · rw [vC_du, rC_out (e := 0) rfl (by omega) (Nat.zero_le _)]
    rfl
  · show rwN _ (0 : Int32).toNatClampNeg f i = 0
    unfold rwN
    rw [if_neg (fun z => absurd z.2 (Nat.not_lt_zero _))]
theorem KI0 : KI st0 kv0 6 (T0, []) := by
  refine ⟨0, 0, by omega, by omega, rfl, rfl, by omega, fun i hi => ⟨?_, ?_⟩, fun i j _ _ h => h, fun j _ => (st0_CS j).1, st0_CS 6, rfl, fun i hi => absurd hi (Nat.not_lt_zero _)⟩
  · show i < 7
    omega
  · show i ≠ 6
    omega
theorem MK0 : MK r0M (T0, []) := by
  refine ⟨⟨⟨⟨0, by omega, rfl⟩, fun k hk q => absurd q (by show ¬ (0 : Int64) = 1; decide)⟩, ?_⟩, 0, by omega, rfl, rfl, fun i hi => absurd hi (Nat.not_lt_zero _)⟩
  refine st_ext rfl rfl rfl rfl rfl rfl (fun f i => ?_) (fun f i => ?_)
  · rw [vM_du, rM_out (fun z => absurd z.2 (by show ¬ (0 : Int64) = 1; decide))]
    rfl
  · rw [vM_ro]
    show (if f < 3 ∧ i < ((0 : Int64).toInt32).toNatClampNeg then _ else (0 : Int64)) = 0
    rw [if_neg (fun z => absurd z.2 (Nat.not_lt_zero _))]
theorem IZ0 : IZ (T0, []) := by
  refine ⟨⟨⟨by decide, by decide⟩, fun i hi => absurd rfl hi, fun i f _ => rfl, fun i _ => rfl, fun i hi => absurd rfl hi, ⟨fun _ => 0, fun i k e hk => ?_⟩⟩, fun T hT => by simp at hT⟩
  have e : (-2000000005 : Int64) = lN k := e
  exact absurd e.symm (lN_ne (by omega))
theorem arr_K {s : State} {args : Array Value} {ty : FieldType} (h : (Cond.arrayClass ty).before args s = true) : ∃ cA : ClassId, ArrOfT s cA ty ∧ s.vm.findClass ("[" ++ ty.toString) = some cA := by
  obtain ⟨cA, kA, comp, h1, h2, h3⟩ := Cond.arrayClass_spec h
  exact ⟨cA, fun n z => ⟨fun k h => (by cases h), kA, h2, comp, h3⟩, h1⟩
