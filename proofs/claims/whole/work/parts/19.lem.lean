/-! ===== ODDS of the reference ===== -/
def pw (k : Nat) : Nat := 2 ^ (pcL 6 k 0).toNatClampNeg
theorem pw_ok : ∀ k, k < 32 → (1 : Int64) <<< ((pcL 6 k 0).toInt64 &&& 63) = lN (pw k) ∧ 0 < pw k ∧ pw k ≤ 32 := by decide +kernel
def oA (S : xSt) (N : Nat) : xSt := sr (sr S 13 (askF S N)) 17 (fil (S 5) (S 17) N)
def oK (S : xSt) (N i : Nat) : Nat → Int32 := fil (kpg (nI i) (S 5)) (S 5) N
def oBm (S : xSt) (N C Y i : Nat) : Int32 := mBrk (sr (oA S N) 5 (oK S N i)) N C Y
def oddM (sb br : Nat → Bool) : Nat → Nat → Nat → Nat
  | 0, _, u => u
  | n + 1, i, u => if sb i = true then oddM sb br n (i + 1) (u + (if br i = true then 1 else 0)) else oddM sb br n (i + 1) u
theorem fil_eq {h f g : Nat → Int32} {n : Nat} (e : ∀ s, n ≤ s → f s = g s) : fil h f n = fil h g n := by
  funext s
  by_cases q : s < n
  · simp [fil, q]
  · simp [fil, q, e s (by omega)]
theorem fil_self {f g : Nat → Int32} {n : Nat} (e : ∀ s, n ≤ s → g s = f s) : fil f g n = f := by
  funext s
  by_cases q : s < n
  · simp [fil, q]
  · simp [fil, q, e s (by omega)]
theorem fil_out {h f : Nat → Int32} {n s : Nat} (q : n ≤ s) : fil h f n s = f s := if_neg (by omega)
theorem lN_ne0 {n : Nat} (h0 : 0 < n) (h : n < 2 ^ 31) : ¬ lN n = 0 := fun e => by
  have := (lN_eq (a := n) (b := 0) h (by decide)).mp e
  omega
theorem oddM_le {sb br : Nat → Bool} : ∀ (n i u : Nat), u ≤ i → oddM sb br n i u ≤ i + n
  | 0, _, _, h => h
  | n + 1, i, u, h => by
    rw [oddM]
    split
    · refine Nat.le_trans (oddM_le n (i + 1) _ ?_) (by omega)
      split <;> omega
    · exact Nat.le_trans (oddM_le n (i + 1) u (by omega)) (by omega)
/-- a copy of cells of one long row: forward, backward -/
theorem cpy_f {f : Nat → Int32} {A B q : Nat} (h : ¬ (B ≤ A + q ∧ A + q < B + q)) : upd (va_cpy f f A B q) (B + q) (va_cpy f f A B q (A + q)) = va_cpy f f A B (q + 1) := by
  funext k
  have e1 : va_cpy f f A B q (A + q) = f (A + q) := if_neg h
  rw [e1]
  by_cases e : k = B + q
  · subst e
    simp [upd, va_cpy, show B + q - B = q by omega]
  · by_cases z : B ≤ k ∧ k < B + q
    · rw [upd, if_neg e, va_cpy, if_pos z, va_cpy, if_pos (by omega)]
    · rw [upd, if_neg e, va_cpy, if_neg z, va_cpy, if_neg (by omega)]
theorem cpy_b {f : Nat → Int32} {A B n q : Nat} (hq : q < n) (h : ¬ (B + (n - q) ≤ A + (n - 1 - q) ∧ A + (n - 1 - q) < B + n)) : upd (va_cpy f f (A + (n - q)) (B + (n - q)) q) (B + (n - 1 - q)) (va_cpy f f (A + (n - q)) (B + (n - q)) q (A + (n - 1 - q))) = va_cpy f f (A + (n - (q + 1))) (B + (n - (q + 1))) (q + 1) := by
  funext k
  have e1 : va_cpy f f (A + (n - q)) (B + (n - q)) q (A + (n - 1 - q)) = f (A + (n - 1 - q)) := if_neg (by omega)
  rw [e1]
  by_cases e : k = B + (n - 1 - q)
  · subst e
    rw [upd, if_pos rfl, va_cpy, if_pos (by omega)]
    congr 1
    omega
  · by_cases z : B + (n - q) ≤ k ∧ k < B + (n - q) + q
    · rw [upd, if_neg e, va_cpy, if_pos z, va_cpy, if_pos (by omega)]
      congr 1
      omega
    · rw [upd, if_neg e, va_cpy, if_neg z, va_cpy, if_neg (by omega)]
theorem cpy_0 (f : Nat → Int32) (A B : Nat) : va_cpy f f A B 0 = f := by
  funext k
  exact if_neg (by omega)
