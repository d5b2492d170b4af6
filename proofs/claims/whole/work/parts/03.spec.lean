/-! ===== the two worlds, and the words in which both are told ===== -/
abbrev tyl (cI cZ cS cG : ClassId) : List (ClassId × FieldType) := [(cI, .int), (cZ, .boolean), (cS, .object "FosterSons$Sheet"), (cG, .array .int)]
/-- the reference: its object, then its rows: 1 sorts, 2 sheetLong, 3 cells, 4 gains, 5 kind, 6 father, 7 worth, 8 fond, 9 sentTo, 10 sentFrom, 11 readGains, 12 read, 13 asked, 14 readCourtOf, 15 readYear, 16 readWas, 17 kept -/
def mLy (cI cZ : ClassId) (bd : Nat → Nat) : xLy := fun k f => match k with
  | 0 => .inr (6, [.int (f 0), .int (f 1), .ref (bd 1), .ref (bd 2), .ref (bd 3), .int (f 5), .int (f 6), .int (f 7), .ref (bd 4), .ref (bd 5), .ref (bd 6), .ref (bd 7), .ref (bd 8), .ref (bd 9), .ref (bd 10), .int (f 15), .int (f 16), .int (f 17), .int (f 18), .ref (bd 11), .ref (bd 12), .ref (bd 13), .int (f 22), .ref (bd 14), .ref (bd 15), .ref (bd 16), .ref (bd 17)])
  | 1 => .inl (cI, 4, .inl f)
  | 2 => .inl (cI, 4, .inl f)
  | 3 => .inl (cI, 240, .inl f)
  | 4 => .inl (cI, 24, .inl f)
  | 5 => .inl (cI, 6, .inl f)
  | 6 => .inl (cI, 6, .inl f)
  | 7 => .inl (cI, 6, .inl f)
  | 8 => .inl (cI, 6, .inl f)
  | 9 => .inl (cI, 6, .inl f)
  | 10 => .inl (cI, 6, .inl f)
  | 11 => .inl (cI, 24, .inl f)
  | 12 => .inl (cI, 24, .inl f)
  | 13 => .inl (cI, 6, .inl f)
  | 14 => .inl (cI, 8, .inl f)
  | 15 => .inl (cI, 8, .inl f)
  | 16 => .inl (cZ, 8, .inl f)
  | _ => .inl (cI, 6, .inl f)
/-- the class: 0 its object, 1 the row of SHEETS, 2 .. 5 SHEETS, 6 .. 9 their cells, 10 the TEXT, 11 its codes, 12 the TREATY (13 its row of GAINS, 14 .. 17 GAINS, 18 kind, 19 father, 20 worth, 21 fond), 22 the draft (23 .. 31 likewise), 32 sent (33 to, 34 from), 35 trial (36, 37), 38 readings (39 court, 40 year, 41 was) -/
def cLy (cI cZ cS cG : ClassId) (ad : Nat → Nat) : xLy := fun k f => match k with
  | 0 => .inr (5, [.ref (ad 1), .ref (ad 10), .ref (ad 12), .ref (ad 22), .ref (ad 32), .ref (ad 35), .ref (ad 38), .int (f 7), .int (f 8)])
  | 1 => .inl (cS, 4, .inr (.inr (.inr (.inr (fun i => if i < 4 then some (ad (2 + i)) else none)))))
  | 2 => .inr (2, [.ref (ad 6), .int (f 1), .int (f 2), .int (f 3)])
  | 3 => .inr (2, [.ref (ad 7), .int (f 1), .int (f 2), .int (f 3)])
  | 4 => .inr (2, [.ref (ad 8), .int (f 1), .int (f 2), .int (f 3)])
  | 5 => .inr (2, [.ref (ad 9), .int (f 1), .int (f 2), .int (f 3)])
  | 6 => .inl (cI, 60, .inl f)
  | 7 => .inl (cI, 60, .inl f)
  | 8 => .inl (cI, 60, .inl f)
  | 9 => .inl (cI, 60, .inl f)
  | 10 => .inr (3, [.ref (ad 11), .int (f 1), .int (f 2)])
  | 11 => .inl (cI, 60, .inl f)
  | 12 => .inr (4, [.int (f 0), .int (f 1), .int (f 2), .ref (ad 13), .ref (ad 18), .ref (ad 19), .ref (ad 20), .ref (ad 21)])
  | 13 => .inl (cG, 4, .inr (.inr (.inr (.inr (fun i => if i < 4 then some (ad (14 + i)) else none)))))
  | 14 => .inl (cI, 6, .inl f)
  | 15 => .inl (cI, 6, .inl f)
  | 16 => .inl (cI, 6, .inl f)
  | 17 => .inl (cI, 6, .inl f)
  | 18 => .inl (cI, 5, .inl f)
  | 19 => .inl (cI, 5, .inl f)
  | 20 => .inl (cI, 5, .inl f)
  | 21 => .inl (cI, 5, .inl f)
  | 22 => .inr (4, [.int (f 0), .int (f 1), .int (f 2), .ref (ad 23), .ref (ad 28), .ref (ad 29), .ref (ad 30), .ref (ad 31)])
  | 23 => .inl (cG, 4, .inr (.inr (.inr (.inr (fun i => if i < 4 then some (ad (24 + i)) else none)))))
  | 24 => .inl (cI, 6, .inl f)
  | 25 => .inl (cI, 6, .inl f)
  | 26 => .inl (cI, 6, .inl f)
  | 27 => .inl (cI, 6, .inl f)
  | 28 => .inl (cI, 5, .inl f)
  | 29 => .inl (cI, 5, .inl f)
  | 30 => .inl (cI, 5, .inl f)
  | 31 => .inl (cI, 5, .inl f)
  | 32 => .inr (1, [.ref (ad 33), .ref (ad 34)])
  | 33 => .inl (cI, 5, .inl f)
  | 34 => .inl (cI, 5, .inl f)
  | 35 => .inr (1, [.ref (ad 36), .ref (ad 37)])
  | 36 => .inl (cI, 5, .inl f)
  | 37 => .inl (cI, 5, .inl f)
  | 38 => .inr (0, [.ref (ad 39), .ref (ad 40), .ref (ad 41), .int (f 3)])
  | 39 => .inl (cI, 8, .inl f)
  | 40 => .inl (cI, 8, .inl f)
  | _ => .inl (cZ, 8, .inl f)
section LY
variable {cI cZ cS cG : ClassId} {ad : Nat → Nat}
theorem cLy_sheet {k : Nat} (h : k < 4) (f : Nat → Int32) : cLy cI cZ cS cG ad (2 + k) f = .inr (2, [.ref (ad (6 + k)), .int (f 1), .int (f 2), .int (f 3)]) := by
  match k, h with
  | 0, _ => rfl
  | 1, _ => rfl
  | 2, _ => rfl
  | 3, _ => rfl
theorem cLy_cells {k : Nat} (h : k < 4) (f : Nat → Int32) : cLy cI cZ cS cG ad (6 + k) f = .inl (cI, 60, .inl f) := by
  match k, h with
  | 0, _ => rfl
  | 1, _ => rfl
  | 2, _ => rfl
  | 3, _ => rfl
theorem cLy_gain14 {k : Nat} (h : k < 4) (f : Nat → Int32) : cLy cI cZ cS cG ad (14 + k) f = .inl (cI, 6, .inl f) := by
  match k, h with
  | 0, _ => rfl
  | 1, _ => rfl
  | 2, _ => rfl
  | 3, _ => rfl
theorem cLy_gain24 {k : Nat} (h : k < 4) (f : Nat → Int32) : cLy cI cZ cS cG ad (24 + k) f = .inl (cI, 6, .inl f) := by
  match k, h with
  | 0, _ => rfl
  | 1, _ => rfl
  | 2, _ => rfl
  | 3, _ => rfl
theorem cLy_snd0 {b : Nat} (h : b = 32 ∨ b = 35) (f : Nat → Int32) : cLy cI cZ cS cG ad b f = .inr (1, [.ref (ad (b + 1)), .ref (ad (b + 2))]) := by
  rcases h with rfl | rfl <;> rfl
theorem cLy_snd1 {b : Nat} (h : b = 32 ∨ b = 35) (f : Nat → Int32) : cLy cI cZ cS cG ad (b + 1) f = .inl (cI, 5, .inl f) := by
  rcases h with rfl | rfl <;> rfl
theorem cLy_snd2 {b : Nat} (h : b = 32 ∨ b = 35) (f : Nat → Int32) : cLy cI cZ cS cG ad (b + 2) f = .inl (cI, 5, .inl f) := by
  rcases h with rfl | rfl <;> rfl
theorem if_pos_rf {j n q : Nat} (h : j < n) : va_rf (if j < n then some q else none) = .ref q := by rw [if_pos h]; rfl
end LY
/-! numbers -/
def inR (s n : Int32) : Bool := decide (¬ s < 0 ∧ ¬ n ≤ s)
def wit (v a b : Int32) : Bool := decide (¬ v < a ∧ ¬ b < v)
theorem inR_ex {s : Int32} {n : Nat} (h : inR s (nI n) = true) (hn : n < 2 ^ 31) : ∃ j, j < n ∧ s = nI j := by
  have h := of_decide_eq_true h
  rcases pk_ix s hn with q | q | q
  · exact absurd q h.1
  · exact absurd q h.2
  · exact q
theorem inR_nI {j n : Nat} (h : j < n) (hn : n < 2 ^ 31) : inR (nI j) (nI n) = true := decide_eq_true ⟨nI_pos (by omega), nI_ge h hn⟩
/-- what a SON costs: WORTH w, FOND f, kind k, a YEARS away -/
def stake1 (w f k a : Int32) : Int32 := if k = 0 then (if w - f * a < 0 then 0 else w - f * a) else if k = 1 then (if w - f * a < 0 then 0 else w - f * a) + 2 else (if w - f * a < 0 then 0 else w - f * a) / 2
def stk (fa wo fo ki fr : Nat → Int32) (c y : Int32) (s : Nat) : Int32 := if fa s = c ∧ ¬ y < fr s then stake1 (wo s) (fo s) (ki s) (y - fr s) else 0
def sumL (f : Nat → Int32) : Nat → Nat → Int32 → Int32
  | 0, _, a => a
  | n + 1, i, a => sumL f n (i + 1) (a + f i)
def orL (f : Nat → Int32) : Nat → Nat → Int32 → Int32
  | 0, _, a => a
  | n + 1, i, a => orL f n (i + 1) (a ||| f i)
/-- the first from i on, among n -/
def scan (p : Nat → Bool) : Nat → Nat → Int32
  | 0, _ => -9
  | n + 1, i => if p i = true then nI i else scan p n (i + 1)
def allL (p : Nat → Bool) : Nat → Nat → Bool
  | 0, _ => true
  | n + 1, i => if p i = true then allL p n (i + 1) else false
/-- TEMPTED -/
def tmp (N : Nat) (fa wo fo ki fr : Nat → Int32) (g c y : Int32) : Bool := decide (¬ g ≤ sumL (stk fa wo fo ki fr c y) N 0 0)
theorem sumL_cong {f g : Nat → Int32} : ∀ (n i : Nat) (a : Int32), (∀ j, i ≤ j → j < i + n → f j = g j) → sumL f n i a = sumL g n i a
  | 0, _, _, _ => rfl
  | n + 1, i, a, h => by
    rw [sumL, sumL, h i (Nat.le_refl i) (by omega)]
    exact sumL_cong n (i + 1) _ (fun j h1 h2 => h j (by omega) (by omega))
theorem orL_cong {f g : Nat → Int32} : ∀ (n i : Nat) (a : Int32), (∀ j, i ≤ j → j < i + n → f j = g j) → orL f n i a = orL g n i a
  | 0, _, _, _ => rfl
  | n + 1, i, a, h => by
    rw [orL, orL, h i (Nat.le_refl i) (by omega)]
    exact orL_cong n (i + 1) _ (fun j h1 h2 => h j (by omega) (by omega))
theorem scan_cong {p q : Nat → Bool} : ∀ (n i : Nat), (∀ j, i ≤ j → j < i + n → p j = q j) → scan p n i = scan q n i
  | 0, _, _ => rfl
  | n + 1, i, h => by
    rw [scan, scan, h i (Nat.le_refl i) (by omega), scan_cong n (i + 1) (fun j h1 h2 => h j (by omega) (by omega))]
theorem allL_cong {p q : Nat → Bool} : ∀ (n i : Nat), (∀ j, i ≤ j → j < i + n → p j = q j) → allL p n i = allL q n i
  | 0, _, _ => rfl
  | n + 1, i, h => by
    rw [allL, allL, h i (Nat.le_refl i) (by omega), allL_cong n (i + 1) (fun j h1 h2 => h j (by omega) (by omega))]
/-- the first n places by h -/
def fil (h f : Nat → Int32) (n : Nat) : Nat → Int32 := fun s => if s < n then h s else f s
theorem fil_0 (h f : Nat → Int32) : fil h f 0 = f := by
  funext s
  exact if_neg (Nat.not_lt_zero s)
theorem fil_s (h f : Nat → Int32) (n : Nat) : upd (fil h f n) n (h n) = fil h f (n + 1) := by
  funext s
  by_cases e : s = n
  · subst e
    simp [upd, fil]
  · by_cases q : s < n
    · simp [upd, fil, e, q, Nat.lt_succ_of_lt q]
    · simp [upd, fil, e, q, show ¬ s < n + 1 by omega]
theorem fil_fil (h f : Nat → Int32) (n : Nat) : fil h (fil h f n) n = fil h f n := by
  funext s
  by_cases q : s < n <;> simp [fil, q]
theorem fil_in {h f : Nat → Int32} {n s : Nat} (q : s < n) : fil h f n s = h s := if_pos q
theorem su_fil {S : xSt} {k n : Nat} {h f : Nat → Int32} {v : Int32} (hv : v = h n) : su (sr S k (fil h f n)) k n v = sr S k (fil h f (n + 1)) := by
  subst hv
  rw [su, sr_self, fil_s, sr_sr]
theorem ix6 (c y : Nat) : 6 * nI c + nI y = nI (6 * c + y) := by
  rw [← nI_add, ← pk_mul]
  rfl
/-- a number below n -/
def okN (x : Int32) (n : Nat) : Prop := ∃ j, j < n ∧ x = nI j
abbrev nN (x : Int32) : Nat := x.toNatClampNeg
theorem nN_nI {j : Nat} (h : j < 2 ^ 31) : nN (nI j) = j := nI_clamp h
theorem scan_cases (p : Nat → Bool) : ∀ (n i : Nat), scan p n i = -9 ∨ ∃ j, i ≤ j ∧ j < i + n ∧ p j = true ∧ scan p n i = nI j
  | 0, _ => Or.inl rfl
  | n + 1, i => by
    by_cases h : p i = true
    · exact Or.inr ⟨i, Nat.le_refl i, by omega, h, by rw [scan, if_pos h]⟩
    · rw [scan, if_neg h]
      rcases scan_cases p n (i + 1) with q | ⟨j, h1, h2, h3, h4⟩
      · exact Or.inl q
      · exact Or.inr ⟨j, by omega, by omega, h3, h4⟩
theorem nI_ne9 {j : Nat} (h : j < 2 ^ 31) : ¬ nI j = -9 := by
  intro e
  have h1 := congrArg Int32.toInt e
  rw [nI_toInt h] at h1
  have h2 : (-9 : Int32).toInt = -9 := by decide +kernel
  omega
/-- ones in k, by halving -/
def pcL : Nat → Nat → Int32 → Int32
  | 0, _, a => a
  | n + 1, k, a => if k = 0 then a else pcL n (k / 2) (a + nI (k % 2))
/-- the reference's TEMPTED, its set, BREAK -/
def mT (S : xSt) (N c y : Nat) : Bool := tmp N (S 6) (S 7) (S 8) (S 5) (S 13) (S 4 (6 * c + y)) (nI c) (nI y)
def mSet (S : xSt) (N C y : Nat) : Int32 := orL (fun c => if mT S N c y = true then 1 <<< (nI c &&& 31) else 0) C 0 0
def mBrk (S : xSt) (N C Y : Nat) : Int32 := scan (fun y => decide (¬ mSet S N C y = 0)) Y 0
def mSo (S : xSt) (N R : Nat) : Bool := allL (fun q => decide ((if mT S N (nN (S 14 q)) (nN (S 15 q)) = true then (1 : Int32) else 0) = S 16 q)) R 0
/-- asked, as it is SENT now; as a set from the start on -/
def askF (S : xSt) (N : Nat) : Nat → Int32 := fil (fun s => if S 10 s = -9 then S 0 6 else S 10 s) (S 13) N
def askG (S : xSt) (N : Nat) (v : Int32) : Nat → Int32 := fil (fun s => if v >>> (nI s &&& 31) &&& 1 = 1 then 0 else S 0 6) (S 13) N
def mBC (S : xSt) (N C Y : Nat) : Int32 := if mBrk S N C Y = -9 then -9 else scan (fun c => mT S N c (nN (mBrk S N C Y))) C 0
def mSent (S : xSt) (N : Nat) : Int32 := orL (fun s => if S 9 s = -9 then 0 else 1 <<< (nI s &&& 31)) N 0 0
theorem nI_le0 {k : Nat} (h : nI k ≤ 0) (hk : k < 2 ^ 31) : k = 0 := by
  rcases Nat.eq_zero_or_pos k with q | q
  · exact q
  · exact absurd h (nI_nle q hk)
theorem i32ne {x v : Int32} {a : Int} (h : ¬ x = v) (e : v.toInt = a) : x.toInt ≠ a := fun q => h (Int32.toInt_inj.mp (q.trans e.symm))
theorem outT0_5 {x : Int32} (h0 : ¬ x = 0) (h1 : ¬ x = 1) (h2 : ¬ x = 2) (h3 : ¬ x = 3) (h4 : ¬ x = 4) (h5 : ¬ x = 5) : x.toInt < 0 ∨ 5 < x.toInt := by
  have a0 := i32ne (a := 0) h0 (by decide +kernel)
  have a1 := i32ne (a := 1) h1 (by decide +kernel)
  have a2 := i32ne (a := 2) h2 (by decide +kernel)
  have a3 := i32ne (a := 3) h3 (by decide +kernel)
  have a4 := i32ne (a := 4) h4 (by decide +kernel)
  have a5 := i32ne (a := 5) h5 (by decide +kernel)
  omega
theorem outT0_4 {x : Int32} (h0 : ¬ x = 0) (h1 : ¬ x = 1) (h2 : ¬ x = 2) (h3 : ¬ x = 3) (h4 : ¬ x = 4) : x.toInt < 0 ∨ 4 < x.toInt := by
  have a0 := i32ne (a := 0) h0 (by decide +kernel)
  have a1 := i32ne (a := 1) h1 (by decide +kernel)
  have a2 := i32ne (a := 2) h2 (by decide +kernel)
  have a3 := i32ne (a := 3) h3 (by decide +kernel)
  have a4 := i32ne (a := 4) h4 (by decide +kernel)
  omega
theorem outL1_2 {x : Int32} {p q d : Int} (h1 : ¬ x = 1) (h2 : ¬ x = 2) : Op.lookupswitch.offset [(1, p), (2, q)] d x.toInt = d := by
  rw [Op.lookupswitch.offset_cons, if_neg (fun e => i32ne (a := 1) h1 (by decide +kernel) e.symm), Op.lookupswitch.offset_cons, if_neg (fun e => i32ne (a := 2) h2 (by decide +kernel) e.symm), Op.lookupswitch.offset_nil]
theorem outL0_1 {x : Int32} {p q d : Int} (h1 : ¬ x = 0) (h2 : ¬ x = 1) : Op.lookupswitch.offset [(0, p), (1, q)] d x.toInt = d := by
  rw [Op.lookupswitch.offset_cons, if_neg (fun e => i32ne (a := 0) h1 (by decide +kernel) e.symm), Op.lookupswitch.offset_cons, if_neg (fun e => i32ne (a := 1) h2 (by decide +kernel) e.symm), Op.lookupswitch.offset_nil]
/-! the class's words -/
def stakeC (w f k a : Int32) : Int32 := if k = 1 then (if w - f * a < 0 then 0 else w - f * a) + 2 else if k = 2 then (if w - f * a < 0 then 0 else w - f * a) / 2 else (if w - f * a < 0 then 0 else w - f * a)
def stkC (fa wo fo ki fr : Nat → Int32) (c y : Int32) (s : Nat) : Int32 := if fa s = c ∧ ¬ y < fr s then stakeC (wo s) (fo s) (ki s) (y - fr s) else 0
def tmpC (N : Nat) (fa wo fo ki fr : Nat → Int32) (g c y : Int32) : Bool := decide (¬ g ≤ sumL (stkC fa wo fo ki fr c y) N 0 0)
def kpg (pg : Int32) (ki : Nat → Int32) : Nat → Int32 := fun s => if pg >>> (nI s &&& 31) &&& 1 = 1 then 2 else ki s
def cT (S : xSt) (N b : Nat) (pg : Int32) (c y : Nat) : Bool := tmpC N (S 19) (S 20) (S 21) (kpg pg (S 18)) (S (b + 2)) (S (14 + c) y) (nI c) (nI y)
def cFst (S : xSt) (N C b : Nat) (pg : Int32) (y : Nat) : Int32 := scan (fun c => cT S N b pg c y) C 0
def cBrk (S : xSt) (N C Y b : Nat) (pg : Int32) : Int32 := scan (fun y => decide (¬ cFst S N C b pg y = -9)) Y 0
def frG (v : Int32) (f : Nat → Int32) : Nat → Int32 := fil (fun s => if v >>> (nI s &&& 31) &&& 1 = 1 then 0 else 6) f 5
def cMany (S : xSt) (b : Nat) (y : Int32) : Int32 := sumL (fun s => if ¬ y < S (b + 2) s then 1 else 0) 5 0 0
def cSet (S : xSt) (b : Nat) : Int32 := orL (fun s => if ¬ 6 ≤ S (b + 2) s then 1 <<< (nI s &&& 31) else 0) 5 0 0
def cSo (S : xSt) (N R b : Nat) : Bool := allL (fun q => decide ((if cT S N b 0 (nN (S 39 q)) (nN (S 40 q)) = true then (1 : Int32) else 0) = S 41 q)) R 0
theorem sr_same' {S : xSt} {k : Nat} {f : Nat → Int32} (h : f = S k) : sr S k f = S := by
  rw [h, sr_same]
