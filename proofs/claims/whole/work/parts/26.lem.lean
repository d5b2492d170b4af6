/-! ===== digits of the head; stores beside each other ===== -/
theorem hd_C {x : Int32} (h : wit x 50 52 = true) : 2 + (x - 50) = nI (nN x - 48) ∧ x - 48 = nI (nN x - 48) ∧ 2 ≤ nN x - 48 ∧ nN x - 48 ≤ 4 ∧ ¬ x - 50 = -9 ∧ ¬ x - 48 = -9 := by
  obtain ⟨j, h1, h2, rfl⟩ := wit_ex (a := 50) (b := 52) (by decide) (by decide) h
  rcases (show j = 50 ∨ j = 51 ∨ j = 52 by omega) with rfl | rfl | rfl <;> decide +kernel
theorem hd_Y {x : Int32} (h : wit x 49 54 = true) : 1 + (x - 49) = nI (nN x - 48) ∧ x - 48 = nI (nN x - 48) ∧ 1 ≤ nN x - 48 ∧ nN x - 48 ≤ 6 ∧ ¬ x - 49 = -9 ∧ ¬ x - 48 = -9 := by
  obtain ⟨j, h1, h2, rfl⟩ := wit_ex (a := 49) (b := 54) (by decide) (by decide) h
  rcases (show j = 49 ∨ j = 50 ∨ j = 51 ∨ j = 52 ∨ j = 53 ∨ j = 54 by omega) with rfl | rfl | rfl | rfl | rfl | rfl <;> decide +kernel
theorem su_as {S : xSt} {k j : Nat} {v : Int32} (h : S k j = v) : su S k j v = S := by rw [← h, su_same]
theorem tat0 (cd : Nat → Int32) (q : Nat) : tAt cd q 0 (0, 0, 0) := ⟨fun u h => absurd h (Nat.not_lt_zero u), rfl⟩
/-- the draft and the TEXT's place alone differ -/
def frm (S S' : xSt) : Prop := ∀ k, k ≠ 10 → ¬ (22 ≤ k ∧ k ≤ 31) → S' k = S k
