/-! ===== the start ===== -/
theorem rel_init : Rel SC0 VC0 SR0 VR0 (fun _ => 0) := by
  refine ⟨⟨0, by decide, rfl, rfl, fun i hi => absurd hi (Nat.not_lt_zero _)⟩, rfl, ⟨rfl, rfl, rfl⟩, ⟨fun q => ([30, 0, 7, 200, 0, 0, 0] : List Nat).getD q 0, fun _ _ => 0, fun _ => [], ⟨?_, fun i hi => absurd hi (Nat.not_lt_zero _), fun i hi => absurd hi (Nat.not_lt_zero _), ⟨rfl, rfl, rfl, rfl, rfl, rfl, rfl⟩, fun i hi => absurd hi (Nat.not_lt_zero _), ⟨fun _ => 0, rfl, fun i hi => absurd hi (Nat.not_lt_zero _)⟩, ⟨rfl, rfl, rfl, rfl, rfl, rfl, rfl⟩, fun i hi => absurd hi (Nat.not_lt_zero _), fun i hi => absurd hi (Nat.not_lt_zero _)⟩, ⟨0, fun _ _ => 0, ⟨by decide, fun i hi => absurd hi (Nat.not_lt_zero _), fun i j hr _ hj => absurd hj (Nat.not_lt_zero _)⟩, fun m hm k hr hk => absurd hk (by omega), ⟨rfl, fun i hi => absurd hi (Nat.not_lt_zero _), ?_⟩, rfl, fun i hi => absurd hi (Nat.not_lt_zero _)⟩, Or.inl ⟨rfl, rfl⟩⟩, ⟨0, fun _ _ => 0, ⟨by decide, fun i hi => absurd hi (Nat.not_lt_zero _)⟩, ⟨rfl, fun i hi => absurd hi (Nat.not_lt_zero _)⟩, rfl, fun i hi => absurd hi (Nat.not_lt_zero _)⟩, Or.inl ⟨rfl, rfl⟩, Or.inl ⟨rfl, rfl⟩⟩
  · exact ⟨by decide, by decide, by decide, by decide, by decide, by decide, by decide⟩
  · intro x hr hx hh
    show (if 24 * x + hr < 72 then (-1 : Int32) else 0) = -1
    rw [if_pos (by omega)]
