/-! ===== GAINS read, SONS read: what a store leaves ===== -/
theorem g_10 {S U : xSt} {t c y : Nat} {v : Int32} (hc : c < 4) (h : U 10 = upd (S 10) 2 (nI t)) : (su (su U 10 2 (nI (t + 1))) (24 + c) y v) 10 = upd (S 10) 2 (nI (t + 1)) := by
  rw [su_ne (by omega), su_self, h, upd_upd]
theorem g_frm {S U : xSt} {c y : Nat} {x v : Int32} (hc : c < 4) (h : ∀ k, k ≠ 10 → ¬ (24 ≤ k ∧ k ≤ 27) → U k = S k) : ∀ k, k ≠ 10 → ¬ (24 ≤ k ∧ k ≤ 27) → (su (su U 10 2 x) (24 + c) y v) k = S k := by
  intro k h1 h2
  rw [su_ne (by omega), su_ne h1]
  exact h k h1 h2
theorem g_old {U : xSt} {c c' y : Nat} {x v : Int32} (h : c' ≠ c) : (su (su U 10 2 x) (24 + c) y v) (24 + c') = U (24 + c') := by
  rw [su_ne (by omega), su_ne (by omega)]
theorem g_new {U : xSt} {c y : Nat} {x v : Int32} : (su (su U 10 2 x) (24 + c) y v) (24 + c) = upd (U (24 + c)) y v := by
  rw [su_self, su_ne (by omega)]
theorem upd_at (f : Nat → Int32) (j : Nat) (v : Int32) : upd f j v j = v := if_pos rfl
theorem upd_off {f : Nat → Int32} {j i : Nat} {v : Int32} (h : i ≠ j) : upd f j v i = f i := if_neg h
def nxp (C c : Nat) : Nat × Nat × Nat := if c < C then (3, c, 0) else (5, 0, 0)
theorem nxp_in {C c : Nat} (h : c < C) : nxp C c = (3, c, 0) := if_pos h
theorem nxp_out {C c : Nat} (h : ¬ c < C) : nxp C c = (5, 0, 0) := if_neg h
def nyp (C Y c y : Nat) : Nat × Nat × Nat := if y < Y then (4, c, y) else nxp C (c + 1)
theorem nyp_in {C Y c y : Nat} (h : y < Y) : nyp C Y c y = (4, c, y) := if_pos h
theorem nyp_out {C Y c y : Nat} (h : ¬ y < Y) : nyp C Y c y = nxp C (c + 1) := if_neg h
theorem nx_nyp {C Y c y : Nat} : nxt C Y (4, c, y) = nyp C Y c (y + 1) := by
  by_cases h : y + 1 < Y
  · rw [nx4 h, nyp_in h]
  · rw [nyp_out h]
    by_cases h2 : c + 1 < C
    · rw [nx4c h h2, nxp_in h2]
    · rw [nx4s h h2, nxp_out h2]
theorem pos_nx (c Y : Nat) : 4 + c * (Y + 1) + Y = 3 + (c + 1) * (Y + 1) := by
  rw [Nat.add_mul]
  omega
