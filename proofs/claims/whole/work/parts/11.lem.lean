/-! ===== rows of SHEETS: words, a copy ===== -/
section XC
variable {p : Program} {l : Launch} {e : Env} {R : Room} {s : State} {m : MethodId} {args : Array Value} {below : List Frame} {meth : Method} {c : Code} {H : Heap} {locs : List Loc} {cells slots : Nat} {Q : State → Prop}
variable {cc : ByteArray} {pc : Nat} {ls : Array Slot} {rest : List Value} {D : va_G} {cl : List vw_C} {A : Nat → Prop} {tys : List (ClassId × FieldType)} {H0 : Heap} {ly : xLy} {N : Nat} {ad : Nat → Nat} {S : xSt}
theorem x_copyi (hx : p.tables.exec = Jvm.exec) (hb : c.code = cc) (hml : c.maxLocals = ls.size) {own : String} {index : Nat} (hown : s.vm.findClass own = some m.cls) (hlink : (Cond.methodLink own index arraycopyName).before args s = true) (hnat : (Cond.native arraycopyName).before args s = true) (hstat : (Cond.static arraycopyName).before args s = true) (hini : (Cond.initialized "java/lang/System").before args s = true)
    (hK : va_K D cl tys s) (hI : xI N ad) (hA : ∀ k, k < N → A (ad k)) (hP : va_P D cl (xW ly N ad S) H) (hS : va_S A H0 H locs) (k0 k1 t0 : Nat) (hk0 : k0 < N) (hk1 : k1 < N) {cA : ClassId} {n0 n1 : Nat} (hc0 : ∀ f, ly k0 f = .inl (cA, n0, .inl f)) (hc1 : ∀ f, ly k1 f = .inl (cA, n1, .inl f)) (ht : tys[t0]? = some (cA, .int)) {sp dp n : Int32} (a b q : Nat) (hv : (sp = nI a ∧ dp = nI b ∧ n = nI q) ∧ a + q ≤ n0 ∧ b + q ≤ n1 ∧ n0 < 2 ^ 31 ∧ n1 < 2 ^ 31)
    (hframes : 1 ≤ R.frames) (hlocals : (rest.map fun v => v.category).sum + (nativeFrameWords "java/lang/System" "arraycopy" 5 + 11) ≤ R.locals) (hdg : decode cc pc = .ok (.invokestatic index, 3))
    (kk : ∀ (H1 : Heap) (locs1 : List Loc), va_P D cl (xW ly N ad (sr S k1 (va_cpy (S k0) (S k1) a b q))) H1 → va_S A H0 H1 locs1 → W p l e R s m args below meth c H1 locs1 cells slots Q (F0 m (pc + 3) ls rest)) : W p l e R s m args below meth c H locs cells slots Q (F0 m pc ls (.int n :: .int dp :: .ref (ad k1) :: .int sp :: .ref (ad k0) :: rest)) := by
  obtain ⟨⟨rfl, rfl, rfl⟩, h1, h2, h3, h4⟩ := hv
  refine va_copyi hx hb hml hown hlink hnat hstat hini hK hP (xD S hI hA) hS k0 k1 t0 t0 ((xW_at hk0).trans (by rw [hc0])) ((xW_at hk1).trans (by rw [hc1])) ht ht rfl (nI_pos (by omega)) (nI_pos (by omega)) (nI_pos (by omega)) (by rw [nI_clamp (by omega), nI_clamp (by omega)]; exact h1) (by rw [nI_clamp (by omega), nI_clamp (by omega)]; exact h2) (fun _ _ => rfl) hframes hlocals hdg (fun H1 locs1 g1 _ g3 => kk H1 locs1 ?_ g3)
  rw [nI_clamp (by omega), nI_clamp (by omega), nI_clamp (by omega), ← hc1, xW_set hk1] at g1
  exact g1
end XC
theorem four_le (k : Int32) : 4 ≤ k ↔ 3 < k := by
  rw [Int32.le_iff_toInt_le, Int32.lt_iff_toInt_lt, show (4 : Int32).toInt = 4 by decide +kernel, show (3 : Int32).toInt = 3 by decide +kernel]
  omega
theorem wit3_ex {k : Int32} (h : wit k 0 3 = true) : ∃ j, j < 4 ∧ k = nI j := by
  have h := of_decide_eq_true h
  exact inR_ex (n := 4) (decide_eq_true ⟨h.1, fun q => h.2 ((four_le k).mp q)⟩) (by decide)
/-- cells from i on, n of them, of a row of len -/
def hCs (i n len : Int32) : Bool := decide (¬ i < 0 ∧ ¬ len < i ∧ ¬ n < 0 ∧ ¬ len - i < n)
def cutL (ln v : Int32) : Int32 := if ln = 0 then v.toInt8.toInt32 else if ln = 1 then v.toInt16.toInt32 else v
def laneF (S : xSt) (k : Nat) (ln : Int32) : Int32 := if S (2 + k) 1 = 0 then 1 else if S (2 + k) 2 = ln then 0 else 2
def rowF (S : xSt) (k : Nat) (ln i n : Int32) : Int32 := if laneF S k ln = 0 then (if n < 0 then 4 else if hCs i n (S (2 + k) 3) = true then 0 else 3) else laneF S k ln
/-- a new row of a SHEET -/
def shN (S : xSt) (k : Nat) (ln n : Int32) : xSt := sr (su (su (su S (2 + k) 1 1) (2 + k) 2 ln) (2 + k) 3 n) (6 + k) (fil (fun _ => 0) (S (6 + k)) 60)
theorem mm60 {n : Nat} (h : n ≤ 60) : (if (0 : Int32) < (if (60 : Int32) < nI n then 60 else nI n) then (if (60 : Int32) < nI n then 60 else nI n) else 0) = nI n := by
  have h1 : ¬ (60 : Int32) < nI n := nI_nlt (a := 60) h (by decide)
  rw [if_neg h1]
  by_cases h2 : (0 : Int32) < nI n
  · rw [if_pos h2]
  · rw [if_neg h2]
    rcases Nat.eq_zero_or_pos n with rfl | q
    · rfl
    · exact absurd (nI_lt (a := 0) q (by omega)) h2
theorem hCs_ex {i n : Int32} {L : Nat} (hL : L ≤ 60) (h : hCs i n (nI L) = true) : ∃ a q, a + q ≤ L ∧ i = nI a ∧ n = nI q := by
  obtain ⟨h1, h2, h3, h4⟩ := of_decide_eq_true h
  obtain ⟨a, ha, rfl⟩ := nI_of2 (M := nI L) (n := L) (nI_toInt (by omega)) h1 (Int32.not_lt.mp h2)
  rw [pk_sub ha] at h4
  obtain ⟨q, hq, rfl⟩ := nI_of2 (M := nI (L - a)) (n := L - a) (nI_toInt (by omega)) h3 (Int32.not_lt.mp h4)
  exact ⟨a, q, by omega, rfl, rfl⟩
