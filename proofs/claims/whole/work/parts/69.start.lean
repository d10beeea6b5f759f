/-! the start, both sides -/
def zf : Nat → Int32 := fun _ => 0
def S0 : JS := (0, gE 0 0 0 1, 0, fun _ => 0, fun _ => 0, M0, false, K0)
def T0 : MS := (R0m, fun _ => 0, fun _ => 0, fun _ => 0, fun _ => 0, fun _ => 0)
theorem rIn_0 : rIn 0 := by unfold rIn jin; decide
theorem lw_start : lwR 1 S0 (jfill 49 (-128) (fun _ => 0)) (jfill 49 127 (fun _ => 0)) (fun _ => 0) (fun _ => 0) (fun _ => 0) (fun _ => 0) (fun _ => 0) (fun _ => 0) 0 0 T0 (fun _ => 0) (fun _ => 0) (fun _ => 0) 0 := by
  refine ⟨⟨4, 8, 0, ?_, ?_, ?_, rfl, fun q => (Bool.noConfusion q), fun i hi => absurd hi (Nat.not_lt_zero _), fun j hj => ?_, fun z => ⟨rIn_0, rIn_0⟩, fun z hz => absurd hz (Nat.not_lt_zero _)⟩, expR_0 _ _ _ _ _ _, rfl, rfl, Nat.zero_le _, by decide⟩
  · exact ⟨rfl, rfl, rfl, rfl, rfl, rfl, rfl, rfl, rfl, rfl, fun q => absurd rfl q, rfl, by decide, by decide, by decide, fun q => absurd rfl q, 0, Nat.le_refl _, rfl, rfl, ⟨fun _ => rfl, fun _ => rfl⟩, fun q => absurd q (Nat.lt_irrefl _)⟩
  · exact ⟨Or.inr rfl, Or.inl rfl, Or.inl rfl, Or.inl rfl, Or.inl rfl, Or.inl rfl, Or.inl rfl, Or.inl rfl, Or.inl rfl⟩
  · exact Or.inl ⟨rfl, rfl, rfl, rfl, rfl, rfl, rfl, Or.inr rfl, Or.inl rfl⟩
  · refine Or.inl ⟨rfl, ?_, ?_⟩
    · show jfill 49 (-128) _ j = -128; unfold jfill; rw [if_pos hj]
    · show jfill 49 127 _ j = 127; unfold jfill; rw [if_pos hj]
theorem lw_and63 (x : Int32) : ∃ j : Nat, j < 64 ∧ x &&& 63 = nI j := by
  refine ⟨(x.toBitVec &&& 63#32).toNat, ?_, ?_⟩
  · rw [BitVec.toNat_and]
    exact Nat.lt_of_le_of_lt Nat.and_le_right (by decide)
  · apply Int32.toBitVec_inj.mp
    rw [Int32.toBitVec_and]
    show x.toBitVec &&& 63#32 = BitVec.ofNat 32 (x.toBitVec &&& 63#32).toNat
    rw [BitVec.ofNat_toNat, BitVec.setWidth_eq]
