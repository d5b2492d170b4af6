/-! ===== words for the reference's second half ===== -/
theorem su_at (S : xSt) (k j : Nat) (v : Int32) : su S k j v k j = v := by
  rw [su_self]
  exact if_pos rfl
theorem ix60 (k i : Nat) : 60 * nI k + nI i = nI (60 * k + i) := by
  rw [← nI_add, ← pk_mul]
  rfl
theorem witL_ex {i : Int32} {L : Nat} (h : wit i 0 (nI L - 1) = true) (hL : L ≤ 60) : ∃ a, a < L ∧ i = nI a := by
  obtain ⟨h1, h2⟩ := of_decide_eq_true h
  have h3 : (nI L - 1).toInt = (L : Int) - 1 := pk_sub_toInt (b := 1) (by omega) (by decide)
  obtain ⟨a, ha, rfl⟩ := nI_of h1
  have h4 : ¬ ((L : Int) - 1 < (a : Int)) := by
    rw [← h3, ← nI_toInt ha, ← Int32.lt_iff_toInt_lt]
    exact h2
  exact ⟨a, by omega, rfl⟩
theorem orI_lt {k i : Nat} (h : k < 2 ^ i) : k ||| 2 ^ i < 2 ^ (i + 1) := Nat.or_lt_two_pow (Nat.lt_of_lt_of_le h (Nat.pow_le_pow_right (by decide) (Nat.le_succ i))) (Nat.pow_lt_pow_right (by decide) (Nat.lt_succ_self i))
theorem orN (a b : Nat) : nI a ||| nI b = nI (a ||| b) := by
  apply Int32.toBitVec_inj.1
  show BitVec.ofNat 32 a ||| BitVec.ofNat 32 b = BitVec.ofNat 32 (a ||| b)
  apply BitVec.eq_of_getLsbD_eq
  intro i hi
  simp [hi]
/-- a set, bit by bit, is a number below 2 to the n -/
theorem orL_ex {p : Nat → Bool} : ∀ (n i k : Nat), k < 2 ^ i → i + n ≤ 5 → ∃ k', k' < 2 ^ (i + n) ∧ orL (fun s => if p s = true then (1 : Int32) <<< (nI s &&& 31) else 0) n i (nI k) = nI k'
  | 0, i, k, h, _ => ⟨k, h, rfl⟩
  | n + 1, i, k, h, hn => by
    rw [orL]
    by_cases q : p i = true
    · obtain ⟨k', h1, h2⟩ := orL_ex (p := p) n (i + 1) (k ||| 2 ^ i) (orI_lt h) (by omega)
      refine ⟨k', by rw [show i + (n + 1) = i + 1 + n by omega]; exact h1, ?_⟩
      rw [← h2]
      simp only [q, if_true]
      rw [shl1 i (by omega), orN]
    · obtain ⟨k', h1, h2⟩ := orL_ex (p := p) n (i + 1) k (Nat.lt_of_lt_of_le h (Nat.pow_le_pow_right (by decide) (Nat.le_succ i))) (by omega)
      refine ⟨k', by rw [show i + (n + 1) = i + 1 + n by omega]; exact h1, ?_⟩
      rw [← h2]
      simp only [q]
      simp
theorem mSent_ex (S : xSt) {N : Nat} (hN : N ≤ 5) : ∃ k, k < 2 ^ N ∧ mSent S N = nI k := by
  obtain ⟨k, h1, h2⟩ := orL_ex (p := fun s => decide (¬ S 9 s = -9)) N 0 0 (by decide) (by omega)
  refine ⟨k, by rw [Nat.zero_add] at h1; exact h1, ?_⟩
  rw [← h2, mSent]
  refine orL_cong N 0 _ (fun j _ _ => ?_)
  by_cases q : S 9 j = -9 <;> simp [q]
def pcM (x : Int32) : Int32 := pcL 6 (nN x) 0
theorem askG_eq {S : xSt} {N : Nat} {v : Int32} {g : Nat → Int32} (h : ∀ s, N ≤ s → g s = S 13 s) : askG (sr S 13 g) N v = askG S N v := by
  funext s
  by_cases q : s < N
  · simp only [askG, fil, if_pos q]; rfl
  · simp only [askG, fil, if_neg q]; exact h s (by omega)
theorem askF_eq {S T : xSt} {N : Nat} (h10 : T 10 = S 10) (h6 : T 0 6 = S 0 6) (h : ∀ s, N ≤ s → T 13 s = S 13 s) : askF T N = askF S N := by
  funext s
  by_cases q : s < N
  · simp only [askF, fil, if_pos q, h10, h6]
  · simp only [askF, fil, if_neg q]; exact h s (by omega)
theorem askF_out {S : xSt} {N s : Nat} (h : N ≤ s) : askF S N s = S 13 s := if_neg (by omega)
theorem askG_out {S : xSt} {N s : Nat} {v : Int32} (h : N ≤ s) : askG S N v s = S 13 s := if_neg (by omega)
theorem sr_su {S : xSt} {a b j : Nat} {f : Nat → Int32} {v : Int32} (h : a ≠ b) : sr (su S b j v) a f = su (sr S a f) b j v := by
  funext i
  by_cases h1 : i = a
  · subst h1
    rw [sr_self, su_ne h, sr_self]
  · rw [sr_ne h1]
    by_cases h2 : i = b
    · subst h2
      rw [su_self, su_self, sr_ne h1]
    · rw [su_ne h2, su_ne h2, sr_ne h1]
/-- Euclid -/
def euc : Nat → Nat → Nat → Nat
  | 0, x, _ => x
  | n + 1, x, y => if y = 0 then x else euc n y (x % y)
theorem euc_pos : ∀ (n x y : Nat), y < n → 0 < x ∨ 0 < y → 0 < euc n x y
  | 0, _, _, h, _ => absurd h (Nat.not_lt_zero _)
  | n + 1, x, y, h, h2 => by
    rw [euc]
    by_cases q : y = 0
    · rw [if_pos q]; omega
    · rw [if_neg q]
      exact euc_pos n y (x % y) (by have := Nat.mod_lt x (show 0 < y by omega); omega) (Or.inl (by omega))
theorem lcmp0 {n : Nat} (h : n < 2 ^ 31) : lg_cmp (lN n) 0 = 0 ↔ n = 0 := by
  have h1 : lN n = 0 ↔ n = 0 := by
    have := lN_eq (a := n) (b := 0) h (by decide)
    exact this
  constructor
  · intro e
    apply h1.mp
    unfold lg_cmp at e
    split at e
    · cases e
    · split at e
      · assumption
      · cases e
  · intro e
    rw [e]
    decide +kernel
theorem wit3_of {k : Nat} (h : k < 4) : wit (nI k) 0 3 = true := decide_eq_true ⟨nI_pos (by omega), nI_nlt (b := k) (a := 3) (by omega) (by decide)⟩
/-- n places from a on, by g -/
def fb_put {α : Type} (f g : Nat → α) (a n : Nat) : Nat → α := fun k => if a ≤ k ∧ k < a + n then g (k - a) else f k
theorem fb_put_0 {α : Type} (f g : Nat → α) (a : Nat) : fb_put f g a 0 = f := by
  funext k
  exact if_neg (by omega)
theorem fb_put_succ (f g : Nat → Int32) (a n : Nat) : upd (fb_put f g a n) (a + n) (g n) = fb_put f g a (n + 1) := by
  funext k
  by_cases e : k = a + n
  · subst e
    simp [upd, fb_put]
  · by_cases q : a ≤ k ∧ k < a + n
    · simp [upd, fb_put, e, q, show k < a + (n + 1) by omega]
    · rw [upd, if_neg e, fb_put, if_neg q, fb_put, if_neg (by omega)]
