/-! ===== a TEXT, code by code: what is waited for at each place ===== -/
def nxt (C Y : Nat) (p : Nat × Nat × Nat) : Nat × Nat × Nat :=
  if p.1 = 0 then (1, 0, 0) else if p.1 = 1 then (2, 0, 0) else if p.1 = 2 then (3, 0, 0) else if p.1 = 3 then (4, p.2.1, 0)
  else if p.1 = 4 then (if p.2.2 + 1 < Y then (4, p.2.1, p.2.2 + 1) else if p.2.1 + 1 < C then (3, p.2.1 + 1, 0) else (5, 0, 0))
  else (if p.2.2 < 4 then (5, p.2.1, p.2.2 + 1) else (5, p.2.1 + 1, 0))
def cC (cd : Nat → Int32) : Nat := nN (cd 1) - 48
def cY (cd : Nat → Int32) : Nat := nN (cd 2) - 48
def ph (cd : Nat → Int32) : Nat → Nat × Nat × Nat
  | 0 => (0, 0, 0)
  | t + 1 => nxt (cC cd) (cY cd) (ph cd t)
def okp (C : Nat) (p : Nat × Nat × Nat) (x : Int32) : Bool :=
  if p.1 = 0 then wit x 120 120 else if p.1 = 1 then wit x 50 52 else if p.1 = 2 then wit x 49 54 else if p.1 = 3 then wit x 47 47 else if p.1 = 4 then wit x 48 57
  else if p.2.1 < 5 then (if p.2.2 = 0 then wit x 44 44 else if p.2.2 = 1 then decide (x = 115 ∨ x = 104 ∨ x = 112) else if p.2.2 = 2 then wit x 48 (nI (47 + C)) else if p.2.2 = 3 then wit x 48 57 else wit x 48 51) else false
def tPfx (cd : Nat → Int32) (q t : Nat) : Prop := ∀ u, u < t → u < q ∧ okp (cC cd) (ph cd u) (cd u) = true
def tAt (cd : Nat → Int32) (q t : Nat) (p : Nat × Nat × Nat) : Prop := tPfx cd q t ∧ ph cd t = p
def tStop (cd : Nat → Int32) (q t : Nat) : Prop := ¬ (t < q ∧ okp (cC cd) (ph cd t) (cd t) = true)
def tBad (cd : Nat → Int32) (q t : Nat) : Prop := tPfx cd q t ∧ tStop cd q t ∧ ¬ (t = q ∧ ∃ s, 1 ≤ s ∧ ph cd t = (5, s, 0))
def tGood (cd : Nat → Int32) (q s : Nat) : Prop := tPfx cd q q ∧ ph cd q = (5, s, 0) ∧ 1 ≤ s ∧ s ≤ 5
theorem tAt.step {cd : Nat → Int32} {q t : Nat} {p : Nat × Nat × Nat} (h : tAt cd q t p) (hq : t < q) (ho : okp (cC cd) p (cd t) = true) : tAt cd q (t + 1) (nxt (cC cd) (cY cd) p) := by
  refine ⟨fun u hu => ?_, ?_⟩
  · rcases Nat.lt_or_ge u t with z | z
    · exact h.1 u z
    · rw [show u = t by omega]
      exact ⟨hq, by rw [h.2]; exact ho⟩
  · rw [ph, h.2]
theorem tAt.bad {cd : Nat → Int32} {q t : Nat} {p : Nat × Nat × Nat} (h : tAt cd q t p) (hs : ¬ (t < q ∧ okp (cC cd) p (cd t) = true)) (hn : t = q → ∀ s, 1 ≤ s → p ≠ (5, s, 0)) : tBad cd q t :=
  ⟨h.1, by rw [tStop, h.2]; exact hs, fun z => by obtain ⟨z1, s, z2, z3⟩ := z; exact hn z1 s z2 (h.2.symm.trans z3)⟩
theorem stp_le {cd : Nat → Int32} {q t u : Nat} (h1 : tStop cd q t) (h2 : tPfx cd q u) : u ≤ t := by
  rcases Nat.lt_or_ge t u with z | z
  · exact absurd (h2 t z) h1
  · exact z
theorem bad_bad {cd : Nat → Int32} {q t u : Nat} (h1 : tBad cd q t) (h2 : tBad cd q u) : t = u := Nat.le_antisymm (stp_le h2.2.1 h1.1) (stp_le h1.2.1 h2.1)
theorem bad_good {cd : Nat → Int32} {q t s : Nat} (h1 : tBad cd q t) (h2 : tGood cd q s) : False := by
  have e : t = q := Nat.le_antisymm (stp_le (fun z => Nat.lt_irrefl q z.1) h1.1) (stp_le h1.2.1 h2.1)
  exact h1.2.2 ⟨e, s, h2.2.2.1, by rw [e]; exact h2.2.1⟩
theorem good_good {cd : Nat → Int32} {q s u : Nat} (h1 : tGood cd q s) (h2 : tGood cd q u) : s = u := by
  have e := h1.2.1.symm.trans h2.2.1
  exact congrArg (fun z : Nat × Nat × Nat => z.2.1) e
theorem tPfx.le {cd : Nat → Int32} {q t : Nat} (h : tPfx cd q t) : t ≤ q := by
  rcases Nat.lt_or_ge q t with z | z
  · exact absurd (h q z).1 (Nat.lt_irrefl q)
  · exact z
/-- a digit's number -/
def dg (cd : Nat → Int32) (t : Nat) : Nat := nN (cd t) - 48
theorem wit_ex {x : Int32} {a b : Nat} (ha : a < 2 ^ 31) (hb : b < 2 ^ 31) (h : wit x (nI a) (nI b) = true) : ∃ j, a ≤ j ∧ j ≤ b ∧ x = nI j := by
  obtain ⟨h1, h2⟩ := of_decide_eq_true h
  have h1 : nI a ≤ x := Int32.not_lt.mp h1
  have h2 : x ≤ nI b := Int32.not_lt.mp h2
  have h0 : ¬ x < 0 := fun z => by
    have z1 := Int32.lt_iff_toInt_lt.mp z
    have z2 := Int32.le_iff_toInt_le.mp h1
    rw [nI_toInt ha] at z2
    have z3 : (0 : Int32).toInt = 0 := by decide +kernel
    omega
  obtain ⟨j, hj, rfl⟩ := nI_of h0
  exact ⟨j, (nI_leI ha hj).mp h1, (nI_leI hj hb).mp h2, rfl⟩
theorem wit_nI {a b j : Nat} (h1 : a ≤ j) (h2 : j ≤ b) (hb : b < 2 ^ 31) : wit (nI j) (nI a) (nI b) = true := decide_eq_true ⟨nI_nlt h1 (by omega), nI_nlt h2 hb⟩
/-- a digit that is taken -/
theorem dg_ok {cd : Nat → Int32} {t b : Nat} (hb : b < 2 ^ 30) (h : wit (cd t) 48 (nI (48 + b)) = true) : dg cd t ≤ b ∧ cd t = nI (48 + dg cd t) ∧ cd t - 48 = nI (dg cd t) := by
  obtain ⟨j, h1, h2, h3⟩ := wit_ex (a := 48) (by decide) (by omega) h
  have h4 : dg cd t = j - 48 := by rw [dg, h3, nN_nI (by omega)]
  refine ⟨by omega, by rw [h4, h3]; congr 1; omega, ?_⟩
  rw [h4, h3]
  exact pk_sub (b := 48) h1
def kdv (x : Int32) : Int32 := if x = 115 then 0 else if x = 104 then 1 else 2
/-- what a taken TEXT tells -/
def gnP (Y c y : Nat) : Nat := 4 + c * (Y + 1) + y
def snP (C Y s : Nat) : Nat := 3 + C * (Y + 1) + 5 * s
theorem okp0 {C : Nat} {x : Int32} : okp C (0, 0, 0) x = wit x 120 120 := rfl
theorem okp1 {C : Nat} {x : Int32} : okp C (1, 0, 0) x = wit x 50 52 := rfl
theorem okp2 {C : Nat} {x : Int32} : okp C (2, 0, 0) x = wit x 49 54 := rfl
theorem okp3 {C c : Nat} {x : Int32} : okp C (3, c, 0) x = wit x 47 47 := rfl
theorem okp4 {C c y : Nat} {x : Int32} : okp C (4, c, y) x = wit x 48 57 := rfl
theorem okp50 {C s : Nat} {x : Int32} (h : s < 5) : okp C (5, s, 0) x = wit x 44 44 := if_pos h
theorem okp51 {C s : Nat} {x : Int32} (h : s < 5) : okp C (5, s, 1) x = decide (x = 115 ∨ x = 104 ∨ x = 112) := if_pos h
theorem okp52 {C s : Nat} {x : Int32} (h : s < 5) : okp C (5, s, 2) x = wit x 48 (nI (47 + C)) := if_pos h
theorem okp53 {C s : Nat} {x : Int32} (h : s < 5) : okp C (5, s, 3) x = wit x 48 57 := if_pos h
theorem okp54 {C s : Nat} {x : Int32} (h : s < 5) : okp C (5, s, 4) x = wit x 48 51 := if_pos h
theorem okp5x {C : Nat} {x : Int32} : okp C (5, 5, 0) x = false := rfl
theorem nx3 {C Y c : Nat} : nxt C Y (3, c, 0) = (4, c, 0) := rfl
theorem nx4 {C Y c y : Nat} (h : y + 1 < Y) : nxt C Y (4, c, y) = (4, c, y + 1) := if_pos h
theorem nx4c {C Y c y : Nat} (h : ¬ y + 1 < Y) (h2 : c + 1 < C) : nxt C Y (4, c, y) = (3, c + 1, 0) := (if_neg h).trans (if_pos h2)
theorem nx4s {C Y c y : Nat} (h : ¬ y + 1 < Y) (h2 : ¬ c + 1 < C) : nxt C Y (4, c, y) = (5, 0, 0) := (if_neg h).trans (if_neg h2)
theorem nx5 {C Y s j : Nat} (h : j < 4) : nxt C Y (5, s, j) = (5, s, j + 1) := if_pos h
theorem nx5s {C Y s : Nat} : nxt C Y (5, s, 4) = (5, s + 1, 0) := rfl
/-- what the codes of the text are, for a cursor at t -/
def tko (q t : Nat) (x f l : Int32) : Bool := decide (t < q) && wit x f l
theorem tko_t {q t : Nat} {x f l : Int32} (h : tko q t x f l = true) : t < q ∧ wit x f l = true := by
  have h := Bool.and_eq_true_iff.mp h
  exact ⟨of_decide_eq_true h.1, h.2⟩
theorem tko_f {q t : Nat} {x f l : Int32} (h : ¬ tko q t x f l = true) : ¬ (t < q ∧ wit x f l = true) := fun z => h (Bool.and_eq_true_iff.mpr ⟨decide_eq_true z.1, z.2⟩)
theorem wit_same {x a : Int32} (h : wit x a a = true) : x = a := by
  obtain ⟨h1, h2⟩ := of_decide_eq_true h
  exact Int32.le_antisymm (Int32.not_lt.mp h2) (Int32.not_lt.mp h1)
