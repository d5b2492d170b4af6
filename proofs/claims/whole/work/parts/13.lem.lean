/-! ===== more words: stores twice, ones of a number, sets tried one by one, YEARS from the last down ===== -/
theorem upd_upd (f : Nat → Int32) (j : Nat) (a b : Int32) : upd (upd f j a) j b = upd f j b := by
  funext i
  by_cases h : i = j <;> simp [upd, h]
theorem upd_same (f : Nat → Int32) (j : Nat) : upd f j (f j) = f := by
  funext i
  by_cases h : i = j
  · rw [h]; simp [upd]
  · simp [upd, h]
theorem su_su (S : xSt) (k j : Nat) (a b : Int32) : su (su S k j a) k j b = su S k j b := by
  rw [su, su_self, upd_upd, su, sr_sr, su]
theorem su_same (S : xSt) (k j : Nat) : su S k j (S k j) = S := by
  rw [su, upd_same, sr_same]
/-- Integer.bitCount, as it reckons -/
def bc1 (x : Int32) : Int32 := x - ((x.toUInt32 >>> ((1 : Int32).toUInt32 &&& Int32.toUInt32 31)).toInt32 &&& 1431655765)
def bc2 (x : Int32) : Int32 := (x &&& 858993459) + ((x.toUInt32 >>> ((2 : Int32).toUInt32 &&& Int32.toUInt32 31)).toInt32 &&& 858993459)
def bc3 (x : Int32) : Int32 := (x + (x.toUInt32 >>> ((4 : Int32).toUInt32 &&& Int32.toUInt32 31)).toInt32) &&& 252645135
def bc4 (x : Int32) : Int32 := x + (x.toUInt32 >>> ((8 : Int32).toUInt32 &&& Int32.toUInt32 31)).toInt32
def bc5 (x : Int32) : Int32 := x + (x.toUInt32 >>> ((16 : Int32).toUInt32 &&& Int32.toUInt32 31)).toInt32
def bcI (x : Int32) : Int32 := bc5 (bc4 (bc3 (bc2 (bc1 x)))) &&& 63
theorem bcI_pcL : ∀ k, k < 32 → bcI (nI k) = pcL 6 k 0 := by decide +kernel
theorem shl1 : ∀ n, n < 6 → (1 : Int32) <<< (nI n &&& 31) = nI (2 ^ n) := by decide +kernel
/-- LEAST, set by set -/
def lstL (pc : Int32 → Int32) (ok : Nat → Bool) : Nat → Nat → Int32 → Int32
  | 0, _, a => a
  | n + 1, i, a => lstL pc ok n (i + 1) (if a = -9 ∨ pc (nI i) < pc a then (if ok i = true then nI i else a) else a)
/-- from n down -/
def dsc (p : Nat → Bool) : Nat → Int32
  | 0 => -9
  | n + 1 => if p n = true then nI n else dsc p n
theorem frG_eq {v : Int32} {f g : Nat → Int32} (h : ∀ s, 5 ≤ s → f s = g s) : frG v f = frG v g := by
  funext s
  by_cases q : s < 5
  · simp [frG, fil, q]
  · simp [frG, fil, q, h s (by omega)]
theorem frG_out {v : Int32} {f : Nat → Int32} {s : Nat} (h : 5 ≤ s) : frG v f s = f s := if_neg (by omega)
