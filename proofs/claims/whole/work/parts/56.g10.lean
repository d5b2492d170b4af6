section ST
variable {l : Launch} {dC : Nat → ClassId} {dI : Nat → Nat → Nat} {cI cZ cS cG : ClassId} {ad bd : Nat → Nat}
theorem rel0 : Rel S0 M0 := by
  refine ⟨rfl, rfl, fun k hk => ?_, fun k i hk hi => ?_, 0, 0, 0, 0, ⟨rfl, rfl, rfl, rfl, rfl, rfl, Or.inl ⟨rfl, rfl, rfl⟩⟩, fun c y hc _ => absurd hc (Nat.not_lt_zero c), fun s hs => absurd hs (Nat.not_lt_zero s), fun s hs => absurd hs (Nat.not_lt_zero s), fun s _ hs => ?_, rfl, rfl, by omega, fun q hq => absurd hq (Nat.not_lt_zero q)⟩
  · rcases (show k = 0 ∨ k = 1 ∨ k = 2 ∨ k = 3 by omega) with rfl | rfl | rfl | rfl
    · exact ⟨⟨0, by decide, rfl⟩, ⟨0, by decide, rfl⟩, Or.inl ⟨rfl, rfl⟩⟩
    · exact ⟨⟨0, by decide, rfl⟩, ⟨0, by decide, rfl⟩, Or.inl ⟨rfl, rfl⟩⟩
    · exact ⟨⟨0, by decide, rfl⟩, ⟨0, by decide, rfl⟩, Or.inl ⟨rfl, rfl⟩⟩
    · exact ⟨⟨0, by decide, rfl⟩, ⟨0, by decide, rfl⟩, Or.inl ⟨rfl, rfl⟩⟩
  · rcases (show k = 0 ∨ k = 1 ∨ k = 2 ∨ k = 3 by omega) with rfl | rfl | rfl | rfl <;> rfl
  · show frG 0 (fun _ => 0) s = 6
    have : frG 0 (fun _ => 0) s = (if (0 : Int32) >>> (nI s &&& 31) &&& 1 = 1 then 0 else 6) := fil_in hs
    rw [this]
    exact if_neg ((by decide +kernel : ∀ s, s < 5 → ¬ (0 : Int32) >>> (nI s &&& 31) &&& 1 = 1) s hs)
end ST
