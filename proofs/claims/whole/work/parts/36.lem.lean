/-! ===== the reference's TEXT ===== -/
theorem wit_eq (x a : Int32) : wit x a a = decide (x = a) := by
  by_cases h : x = a
  · rw [h, decide_eq_true (rfl : a = a)]
    exact decide_eq_true ⟨Int32.lt_irrefl, Int32.lt_irrefl⟩
  · rw [decide_eq_false h]
    exact Bool.eq_false_iff.mpr (fun z => h (wit_same z))
/-- rows and scalars that reading leaves alone -/
def frmM (S T : xSt) : Prop := (∀ k, k ≠ 0 → k ≠ 11 → k ≠ 12 → T k = S k) ∧ ∀ j, j ≠ 15 → j ≠ 16 → j ≠ 17 → j ≠ 18 → T 0 j = S 0 j
theorem frmM.rf {S : xSt} : frmM S S := ⟨fun _ _ _ _ => rfl, fun _ _ _ _ _ => rfl⟩
theorem frmM.tr {S T U : xSt} (h : frmM S T) (g : frmM T U) : frmM S U := ⟨fun k a b c => (g.1 k a b c).trans (h.1 k a b c), fun j a b c d => (g.2 j a b c d).trans (h.2 j a b c d)⟩
theorem frmM.at {S T : xSt} (h : frmM S T) (j : Nat) (v : Int32) (hj : j = 15 ∨ j = 16 ∨ j = 17 ∨ j = 18) : frmM S (su T 0 j v) := ⟨fun k a b c => (su_ne a).trans (h.1 k a b c), fun i a b c d => by rw [su_self, upd_off (by omega)]; exact h.2 i a b c d⟩
theorem frmM.row {S T : xSt} (h : frmM S T) (k j : Nat) (v : Int32) (hk : k = 11 ∨ k = 12) : frmM S (su T k j v) := ⟨fun i a b c => (su_ne (by omega)).trans (h.1 i a b c), fun i a b c d => by rw [su_ne (by omega)]; exact h.2 i a b c d⟩
/-- GAINS read so far: of the COURTS below c, and of c below y -/
def gnM (cd : Nat → Int32) (r : Nat → Int32) (Y c : Nat) : Prop := ∀ c' y', c' < c → y' < Y → r (6 * c' + y') = nI (dg cd (gnP Y c' y')) ∧ dg cd (gnP Y c' y') ≤ 9
theorem fat_hiM (C : Nat) (h : 2 ≤ C) : 48 + (nI C - 1) = nI (47 + C) := by
  rw [show (48 : Int32) = nI 48 from rfl, show (1 : Int32) = nI 1 from rfl, pk_sub (by omega), nI_add]
  congr 1
  omega
