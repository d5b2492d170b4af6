/-! ===== PLANS of the reference, copies ===== -/
def agF (S : xSt) (k : Nat) (ln i n : Int32) : Int32 := if ¬ S 1 k = -9 ∧ ¬ S 1 k = ln then 2 else if S 1 k = -9 then 1 else if n < 0 then 4 else if hCs i n (S 2 k) = true then 0 else 3
def plM (S : xSt) (A N : Nat) : Nat → Int32 := fil (fun s => S 3 (A + s)) (S 13) N
def plOkM (S : xSt) (A N : Nat) : Bool := allL (fun s => wit (S 3 (A + s)) 0 (S 0 6)) N 0
theorem ix60b (k a s : Nat) : 60 * nI k + nI a + nI s = nI (60 * k + a + s) := by rw [ix60, nI_add]
