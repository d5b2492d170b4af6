/-! ===== more words: SHEETS beside a store, ODDS, PLANS ===== -/
theorem su2 (S : xSt) (j : Nat) (v : Int32) (k : Nat) : su S 0 j v (2 + k) = S (2 + k) := su_ne (by omega)
theorem su6 (S : xSt) (j : Nat) (v : Int32) (k : Nat) : su S 0 j v (6 + k) = S (6 + k) := su_ne (by omega)
/-- the ODDS' two numbers, set by set -/
def oddL (sb br : Nat → Bool) : Nat → Nat → Int32 → Int32 → Int32 × Int32
  | 0, _, u, d => (u, d)
  | n + 1, i, u, d => if sb i = true then oddL sb br n (i + 1) (u + (if br i = true then 1 else 0)) (d + 1) else oddL sb br n (i + 1) u d
def hlv : Nat → Int32 → Int32 → Int32 × Int32
  | 0, u, d => (u, d)
  | n + 1, u, d => if u - u / 2 * 2 = 0 ∧ d - d / 2 * 2 = 0 then hlv n (u / 2) (d / 2) else (u, d)
def ofP (w : Int32) : Bool := decide ((¬ w < 0 ∧ ¬ 2 < w) ∨ (¬ w < 10 ∧ ¬ 14 ≤ w))
/-- trial, told by cells -/
def plF (S : xSt) (k a N : Nat) : Nat → Int32 := fil (fun s => S (6 + k) (a + s)) (frG 0 (S 37)) N
def plOk (S : xSt) (k a N : Nat) : Bool := allL (fun s => wit (S (6 + k) (a + s)) 0 (S 12 1)) N 0
