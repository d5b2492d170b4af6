/-! ===== the reference reads a TEXT whole, and takes it ===== -/
def sonM (cd r : Nat → Int32) (C Y n : Nat) : Prop := sonR cd (fun s => r (4 * s)) (fun s => r (4 * s + 1)) (fun s => r (4 * s + 2)) (fun s => r (4 * s + 3)) C Y n
theorem sonM_ext {cd r r2 : Nat → Int32} {C Y n : Nat} (h : sonM cd r C Y n) (e : r2 = upd (upd (upd (upd r (4 * n) (kdv (cd (snP C Y n + 1)))) (4 * n + 1) (nI (dg cd (snP C Y n + 1 + 1)))) (4 * n + 2) (nI (dg cd (snP C Y n + 1 + 2)))) (4 * n + 3) (nI (dg cd (snP C Y n + 1 + 3)))) (b2 : dg cd (snP C Y n + 1 + 1) < C) (b3 : dg cd (snP C Y n + 1 + 2) ≤ 9) (b4 : dg cd (snP C Y n + 1 + 3) ≤ 3) : sonM cd r2 C Y (n + 1) := by
  subst e
  intro s' hs
  rcases Nat.lt_or_ge s' n with z | z
  · have g := h s' z
    refine ⟨?_, ?_, ?_, ?_, g.2.2.2.2⟩
    · show upd _ _ _ (4 * s') = _
      rw [upd_off (by omega), upd_off (by omega), upd_off (by omega), upd_off (by omega)]; exact g.1
    · show upd _ _ _ (4 * s' + 1) = _
      rw [upd_off (by omega), upd_off (by omega), upd_off (by omega), upd_off (by omega)]; exact g.2.1
    · show upd _ _ _ (4 * s' + 2) = _
      rw [upd_off (by omega), upd_off (by omega), upd_off (by omega), upd_off (by omega)]; exact g.2.2.1
    · show upd _ _ _ (4 * s' + 3) = _
      rw [upd_off (by omega), upd_off (by omega), upd_off (by omega), upd_off (by omega)]; exact g.2.2.2.1
  · rw [show s' = n by omega]
    refine ⟨?_, ?_, ?_, ?_, b2, b3, b4⟩
    · show upd _ _ _ (4 * n) = _
      rw [upd_off (by omega), upd_off (by omega), upd_off (by omega), upd_at]
    · show upd _ _ _ (4 * n + 1) = _
      rw [upd_off (by omega), upd_off (by omega), upd_at]
    · show upd _ _ _ (4 * n + 2) = _
      rw [upd_off (by omega), upd_at]
    · show upd _ _ _ (4 * n + 3) = _
      rw [upd_at]
/-- what taking leaves -/
def takM (S : xSt) (N : Nat) (T : xSt) : Prop := T 0 5 = S 0 16 ∧ T 0 6 = S 0 17 ∧ T 0 7 = nI N ∧ T 0 22 = 0 ∧ (∀ j, j ≠ 5 → j ≠ 6 → j ≠ 7 → j ≠ 22 → T 0 j = S 0 j) ∧ (∀ j, j < 24 → T 4 j = S 11 j) ∧ (∀ s, s < N → T 5 s = S 12 (4 * s) ∧ T 6 s = S 12 (4 * s + 1) ∧ T 7 s = S 12 (4 * s + 2) ∧ T 8 s = S 12 (4 * s + 3) ∧ T 9 s = -9 ∧ T 10 s = -9) ∧ ∀ k, k ≠ 0 → ¬ (4 ≤ k ∧ k ≤ 10) → T k = S k
def trOkM (cd : Nat → Int32) (q N : Nat) (T U : xSt) : Prop := tGood cd q N ∧ (2 ≤ cC cd ∧ cC cd ≤ 4 ∧ 1 ≤ cY cd ∧ cY cd ≤ 6) ∧ U 0 16 = nI (cC cd) ∧ U 0 17 = nI (cY cd) ∧ U 0 18 = nI N ∧ gnM cd (U 11) (cY cd) (cC cd) ∧ sonM cd (U 12) (cC cd) (cY cd) N ∧ frmM T U
