/-! ===== class and reference side by side ===== -/
def RelS (S M : xSt) : Prop := ∀ k, k < 4 → okN (S (2 + k) 3) 61 ∧ okN (M 2 k) 61 ∧ ((S (2 + k) 1 = 0 ∧ M 1 k = -9) ∨ (S (2 + k) 1 = 1 ∧ M 1 k = S (2 + k) 2 ∧ wit (M 1 k) 0 2 = true ∧ M 2 k = S (2 + k) 3))
def RelC (S M : xSt) : Prop := ∀ k i, k < 4 → i < 60 → M 3 (60 * k + i) = S (6 + k) i
def RelD (S M : xSt) (C Y N : Nat) : Prop := S 12 0 = nI C ∧ S 12 1 = nI Y ∧ S 12 2 = nI N ∧ M 0 5 = nI C ∧ M 0 6 = nI Y ∧ M 0 7 = nI N ∧ ((C = 0 ∧ Y = 0 ∧ N = 0) ∨ (2 ≤ C ∧ C ≤ 4 ∧ 1 ≤ Y ∧ Y ≤ 6 ∧ 1 ≤ N ∧ N ≤ 5))
def RelG (S M : xSt) (C Y : Nat) : Prop := ∀ c y, c < C → y < Y → S (14 + c) y = M 4 (6 * c + y)
def RelN (S M : xSt) (C N : Nat) : Prop := ∀ s, s < N → S 18 s = M 5 s ∧ S 19 s = M 6 s ∧ S 20 s = M 7 s ∧ S 21 s = M 8 s ∧ (M 5 s = 0 ∨ M 5 s = 1 ∨ M 5 s = 2) ∧ okN (M 6 s) C
def RelA (S M : xSt) (C Y N : Nat) : Prop := ∀ s, s < N → (S 34 s = 6 ∧ M 9 s = -9 ∧ M 10 s = -9) ∨ ∃ f c, f < Y ∧ c < C ∧ S 34 s = nI f ∧ M 10 s = nI f ∧ S 33 s = nI c ∧ M 9 s = nI c
def RelR (S M : xSt) (C Y R : Nat) : Prop := S 38 3 = nI R ∧ M 0 22 = nI R ∧ R ≤ 8 ∧ ∀ q, q < R → S 39 q = M 14 q ∧ S 40 q = M 15 q ∧ S 41 q = M 16 q ∧ okN (M 14 q) C ∧ okN (M 15 q) Y
def Rel (S M : xSt) : Prop := S 0 8 = M 0 0 ∧ S 0 7 = M 0 1 ∧ RelS S M ∧ RelC S M ∧ ∃ C Y N R, RelD S M C Y N ∧ RelG S M C Y ∧ RelN S M C N ∧ RelA S M C Y N ∧ (∀ s, N ≤ s → s < 5 → S 34 s = 6) ∧ RelR S M C Y R
theorem RelD.le {S M : xSt} {C Y N : Nat} (h : RelD S M C Y N) : C ≤ 4 ∧ Y ≤ 6 ∧ N ≤ 5 := by
  rcases h.2.2.2.2.2.2 with h | h <;> omega
/-- rows that both sides' answers don't touch -/
theorem Rel.keep {S M S' M' : xSt} (h : Rel S M) (h8 : S' 0 8 = M' 0 0) (h7 : S' 0 7 = M' 0 1) (hS : ∀ k, k ≠ 0 → k ≠ 10 → k ≠ 11 → k ≠ 35 → k ≠ 36 → k ≠ 37 → ¬ (22 ≤ k ∧ k ≤ 31) → S' k = S k) (hM0 : ∀ j, j ≠ 0 → j ≠ 1 → j ≠ 15 → j ≠ 16 → j ≠ 17 → j ≠ 18 → M' 0 j = M 0 j) (hM : ∀ k, k ≠ 0 → k ≠ 11 → k ≠ 12 → k ≠ 13 → k ≠ 17 → M' k = M k) : Rel S' M' := by
  obtain ⟨-, -, a3, a4, C, Y, N, R, a5, a6, a7, a8, a9, a10⟩ := h
  refine ⟨h8, h7, ?_, ?_, C, Y, N, R, ?_, ?_, ?_, ?_, ?_, ?_⟩
  · intro k hk
    rw [hS (2 + k) (by omega) (by omega) (by omega) (by omega) (by omega) (by omega) (by omega), hM 1 (by decide) (by decide) (by decide) (by decide) (by decide), hM 2 (by decide) (by decide) (by decide) (by decide) (by decide)]
    exact a3 k hk
  · intro k i hk hi
    rw [hS (6 + k) (by omega) (by omega) (by omega) (by omega) (by omega) (by omega) (by omega), hM 3 (by decide) (by decide) (by decide) (by decide) (by decide)]
    exact a4 k i hk hi
  · unfold RelD
    rw [hS 12 (by decide) (by decide) (by decide) (by decide) (by decide) (by decide) (by decide), hM0 5 (by decide) (by decide) (by decide) (by decide) (by decide) (by decide), hM0 6 (by decide) (by decide) (by decide) (by decide) (by decide) (by decide), hM0 7 (by decide) (by decide) (by decide) (by decide) (by decide) (by decide)]
    exact a5
  · have := a5.le
    intro c y hc hy
    rw [hS (14 + c) (by omega) (by omega) (by omega) (by omega) (by omega) (by omega) (by omega), hM 4 (by decide) (by decide) (by decide) (by decide) (by decide)]
    exact a6 c y hc hy
  · unfold RelN
    rw [hS 18 (by decide) (by decide) (by decide) (by decide) (by decide) (by decide) (by decide), hS 19 (by decide) (by decide) (by decide) (by decide) (by decide) (by decide) (by decide), hS 20 (by decide) (by decide) (by decide) (by decide) (by decide) (by decide) (by decide), hS 21 (by decide) (by decide) (by decide) (by decide) (by decide) (by decide) (by decide), hM 5 (by decide) (by decide) (by decide) (by decide) (by decide), hM 6 (by decide) (by decide) (by decide) (by decide) (by decide), hM 7 (by decide) (by decide) (by decide) (by decide) (by decide), hM 8 (by decide) (by decide) (by decide) (by decide) (by decide)]
    exact a7
  · unfold RelA
    rw [hS 33 (by decide) (by decide) (by decide) (by decide) (by decide) (by decide) (by decide), hS 34 (by decide) (by decide) (by decide) (by decide) (by decide) (by decide) (by decide), hM 9 (by decide) (by decide) (by decide) (by decide) (by decide), hM 10 (by decide) (by decide) (by decide) (by decide) (by decide)]
    exact a8
  · rw [hS 34 (by decide) (by decide) (by decide) (by decide) (by decide) (by decide) (by decide)]
    exact a9
  · unfold RelR
    rw [hS 38 (by decide) (by decide) (by decide) (by decide) (by decide) (by decide) (by decide), hS 39 (by decide) (by decide) (by decide) (by decide) (by decide) (by decide) (by decide), hS 40 (by decide) (by decide) (by decide) (by decide) (by decide) (by decide) (by decide), hS 41 (by decide) (by decide) (by decide) (by decide) (by decide) (by decide) (by decide), hM0 22 (by decide) (by decide) (by decide) (by decide) (by decide) (by decide), hM 14 (by decide) (by decide) (by decide) (by decide) (by decide), hM 15 (by decide) (by decide) (by decide) (by decide) (by decide), hM 16 (by decide) (by decide) (by decide) (by decide) (by decide)]
    exact a10
/-- one SON's stake, on both sides -/
theorem stake_eq {w f k a : Int32} (h : k = 0 ∨ k = 1 ∨ k = 2) : stakeC w f k a = stake1 w f k a := by
  rcases h with rfl | rfl | rfl <;> rfl
theorem stk_eq {fa wo fo ki fr fa' wo' fo' ki' fr' : Nat → Int32} {c y : Int32} {s : Nat} (h1 : fa s = fa' s) (h2 : wo s = wo' s) (h3 : fo s = fo' s) (h4 : ki s = ki' s) (h5 : ki' s = 0 ∨ ki' s = 1 ∨ ki' s = 2) (h6 : fr s = fr' s ∨ (y < fr s ∧ y < fr' s)) : stkC fa wo fo ki fr c y s = stk fa' wo' fo' ki' fr' c y s := by
  unfold stkC stk
  rw [h1, h2, h3, h4]
  rcases h6 with h6 | ⟨h6, h7⟩
  · rw [h6]
    by_cases q : fa' s = c ∧ ¬ y < fr' s
    · rw [if_pos q, if_pos q, stake_eq h5]
    · rw [if_neg q, if_neg q]
  · rw [if_neg (fun q => q.2 h6), if_neg (fun q => q.2 h7)]
/-- how the SONS stand on both sides, for a question of the YEAR y -/
def RelQ (S M : xSt) (N b : Nat) (pg : Int32) (y : Nat) : Prop := ∀ s, s < N → S 19 s = M 6 s ∧ S 20 s = M 7 s ∧ S 21 s = M 8 s ∧ kpg pg (S 18) s = M 5 s ∧ (M 5 s = 0 ∨ M 5 s = 1 ∨ M 5 s = 2) ∧ (S (b + 2) s = M 13 s ∨ (nI y < S (b + 2) s ∧ nI y < M 13 s))
theorem T_eq {S M : xSt} {N b : Nat} {pg : Int32} {c y : Nat} (hg : S (14 + c) y = M 4 (6 * c + y)) (h : RelQ S M N b pg y) : cT S N b pg c y = mT M N c y := by
  unfold cT mT tmpC tmp
  rw [hg, sumL_cong (f := stkC (S 19) (S 20) (S 21) (kpg pg (S 18)) (S (b + 2)) (nI c) (nI y)) (g := stk (M 6) (M 7) (M 8) (M 5) (M 13) (nI c) (nI y)) N 0 0 (fun s _ hs => by
    obtain ⟨h1, h2, h3, h4, h5, h6⟩ := h s (by omega)
    exact stk_eq h1 h2 h3 h4 h5 h6)]
theorem or0 (a b : Int32) : a ||| b = 0 ↔ a = 0 ∧ b = 0 := by
  rw [← Int32.toBitVec_inj, ← Int32.toBitVec_inj, ← Int32.toBitVec_inj]
  show a.toBitVec ||| b.toBitVec = 0#32 ↔ a.toBitVec = 0#32 ∧ b.toBitVec = 0#32
  exact BitVec.or_eq_zero_iff
theorem orL_0 {f : Nat → Int32} : ∀ (n i : Nat) (a : Int32), orL f n i a = 0 ↔ a = 0 ∧ ∀ j, i ≤ j → j < i + n → f j = 0
  | 0, i, a => ⟨fun h => ⟨h, fun j h1 h2 => absurd h2 (by omega)⟩, fun h => h.1⟩
  | n + 1, i, a => by
    rw [orL, orL_0 n (i + 1), or0]
    constructor
    · rintro ⟨⟨h1, h2⟩, h3⟩
      refine ⟨h1, fun j h4 h5 => ?_⟩
      rcases Nat.eq_or_lt_of_le h4 with rfl | h6
      · exact h2
      · exact h3 j h6 (by omega)
    · rintro ⟨h1, h2⟩
      exact ⟨⟨h1, h2 i (Nat.le_refl i) (by omega)⟩, fun j h4 h5 => h2 j (by omega) (by omega)⟩
theorem scan_9 {p : Nat → Bool} : ∀ (n i : Nat), i + n < 2 ^ 31 → (scan p n i = -9 ↔ ∀ j, i ≤ j → j < i + n → ¬ p j = true)
  | 0, i, _ => ⟨fun _ j h1 h2 => absurd h2 (by omega), fun _ => rfl⟩
  | n + 1, i, hb => by
    rw [scan]
    by_cases h : p i = true
    · rw [if_pos h]
      exact ⟨fun e => absurd e (nI_ne9 (by omega)), fun e => absurd h (e i (Nat.le_refl i) (by omega))⟩
    · rw [if_neg h, scan_9 n (i + 1) (by omega)]
      constructor
      · intro e j h1 h2
        rcases Nat.eq_or_lt_of_le h1 with rfl | h3
        · exact h
        · exact e j h3 (by omega)
      · exact fun e j h1 h2 => e j (by omega) (by omega)
theorem bit_ne : ∀ c, c < 5 → ¬ (1 : Int32) <<< (nI c &&& 31) = 0 := by decide +kernel
theorem set_0 {p : Nat → Bool} {n : Nat} (hn : n ≤ 5) : (orL (fun c => if p c = true then (1 : Int32) <<< (nI c &&& 31) else 0) n 0 0 = 0) ↔ scan p n 0 = -9 := by
  rw [orL_0, scan_9 n 0 (by omega)]
  constructor
  · rintro ⟨-, h⟩ j h1 h2 h3
    have := h j h1 h2
    rw [if_pos h3] at this
    exact bit_ne j (by omega) this
  · exact fun h => ⟨rfl, fun j h1 h2 => if_neg (h j h1 h2)⟩
theorem set_eq {S M : xSt} {N C b : Nat} {pg : Int32} {y : Nat} (hg : ∀ c, c < C → S (14 + c) y = M 4 (6 * c + y)) (h : RelQ S M N b pg y) : orL (fun c => if cT S N b pg c y = true then (1 : Int32) <<< (nI c &&& 31) else 0) C 0 0 = mSet M N C y := by
  unfold mSet
  exact orL_cong C 0 0 (fun c _ hc => by rw [T_eq (hg c (by omega)) h])
theorem brk_eq {S M : xSt} {N C Y b : Nat} {pg : Int32} (hC : C ≤ 4) (hg : RelG S M C Y) (h : ∀ y, y < Y → RelQ S M N b pg y) : cBrk S N C Y b pg = mBrk M N C Y := by
  unfold cBrk mBrk
  refine scan_cong Y 0 (fun y _ hy => ?_)
  have e : cFst S N C b pg y = -9 ↔ mSet M N C y = 0 := by
    rw [← set_eq (fun c hc => hg c y hc (by omega)) (h y (by omega)), set_0 (by omega)]
    rfl
  exact decide_eq_decide.mpr (not_congr e)
theorem brk_lt {M : xSt} {N C Y : Nat} (h : ¬ mBrk M N C Y = -9) : ∃ y, y < Y ∧ mBrk M N C Y = nI y := by
  rcases scan_cases (fun y => decide (¬ mSet M N C y = 0)) Y 0 with q | ⟨j, h1, h2, h3, h4⟩
  · exact absurd q h
  · exact ⟨j, by omega, h4⟩
theorem bc_eq {S M : xSt} {N C Y b : Nat} {pg : Int32} (hC : C ≤ 4) (hY : Y ≤ 6) (hg : RelG S M C Y) (h : ∀ y, y < Y → RelQ S M N b pg y) : (if cBrk S N C Y b pg = -9 then -9 else cFst S N C b pg (nN (cBrk S N C Y b pg))) = mBC M N C Y := by
  rw [brk_eq hC hg h]
  unfold mBC cFst
  by_cases q : mBrk M N C Y = -9
  · rw [if_pos q, if_pos q]
  · rw [if_neg q, if_neg q]
    obtain ⟨y, hy, ey⟩ := brk_lt q
    rw [ey, nN_nI (by omega)]
    exact scan_cong C 0 (fun c _ hc => T_eq (hg c y (by omega) hy) (h y hy))

/-- the reference's questions: as it is SENT now -/
theorem relQ_now {S M : xSt} {C Y N : Nat} (hD : RelD S M C Y N) (hN : RelN S M C N) (hA : RelA S M C Y N) {y : Nat} (hy : y < Y) {M' : xSt} (h5 : M' 5 = M 5) (h6 : M' 6 = M 6) (h7 : M' 7 = M 7) (h8 : M' 8 = M 8) (h13 : M' 13 = askF M N) : RelQ S M' N 32 0 y := by
  intro s hs
  obtain ⟨b1, b2, b3, b4, b5, b6⟩ := hN s hs
  have hY := hD.le
  rw [h5, h6, h7, h8, h13]
  refine ⟨b2, b3, b4, ?_, b5, ?_⟩
  · rw [← b1]
    unfold kpg
    exact if_neg (by have : ∀ s, s < 5 → ¬ (0 : Int32) >>> (nI s &&& 31) &&& 1 = 1 := by decide +kernel
                     exact this s (by omega))
  · have e13 : askF M N s = (if M 10 s = -9 then M 0 6 else M 10 s) := fil_in hs
    rw [e13]
    rcases hA s hs with ⟨c1, c2, c3⟩ | ⟨f, c, d1, d2, d3, d4, d5, d6⟩
    · refine Or.inr ⟨?_, ?_⟩
      · show nI y < S 34 s
        rw [c1]
        exact nI_lt (b := 6) (by omega) (by omega)
      · rw [if_pos c3, hD.2.2.2.2.1]
        exact nI_lt hy (by omega)
    · refine Or.inl ?_
      show S 34 s = _
      rw [d3, d4, if_neg (nI_ne9 (by omega))]
/-- contracts of a call on both sides, with like answers -/
def PairI (l : Launch) (dC : Nat → ClassId) (dI : Nat → Nat → Nat) (cI cZ cS cG : ClassId) (ad bd : Nat → Nat) (yc : MethodName) (wc : List Cond) (rc : Room) (ym : MethodName) (wm : List Cond) (rm : Room) (As : List Value) (S M : xSt) : Prop :=
  ∃ pc pm : Int32 → xSt → Prop, xMi l yc wc rc (dC, dI) vwCl (tyl cI cZ cS cG) (cLy cI cZ cS cG ad) 42 ad (.ref (ad 0) :: As) S pc ∧ xMi l ym wm rm (dC, dI) vwCl (tyl cI cZ cS cG) (mLy cI cZ bd) 18 bd (.ref (bd 0) :: As) M pm ∧ ∀ r S' r' M', pc r S' → pm r' M' → r = r' ∧ Rel S' M'
def PairL (l : Launch) (dC : Nat → ClassId) (dI : Nat → Nat → Nat) (cI cZ cS cG : ClassId) (ad bd : Nat → Nat) (yc : MethodName) (wc : List Cond) (rc : Room) (ym : MethodName) (wm : List Cond) (rm : Room) (As : List Value) (S M : xSt) : Prop :=
  ∃ pc pm : Int64 → xSt → Prop, xMl l yc wc rc (dC, dI) vwCl (tyl cI cZ cS cG) (cLy cI cZ cS cG ad) 42 ad (.ref (ad 0) :: As) S pc ∧ xMl l ym wm rm (dC, dI) vwCl (tyl cI cZ cS cG) (mLy cI cZ bd) 18 bd (.ref (bd 0) :: As) M pm ∧ ∀ r S' r' M', pc r S' → pm r' M' → r = r' ∧ Rel S' M'
