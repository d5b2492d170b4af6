/-! ===== SONS of a TEXT ===== -/
def sonR (cd k f w d : Nat → Int32) (C Y n : Nat) : Prop := ∀ s', s' < n → k s' = kdv (cd (snP C Y s' + 1)) ∧ f s' = nI (dg cd (snP C Y s' + 2)) ∧ w s' = nI (dg cd (snP C Y s' + 3)) ∧ d s' = nI (dg cd (snP C Y s' + 4)) ∧ dg cd (snP C Y s' + 2) < C ∧ dg cd (snP C Y s' + 3) ≤ 9 ∧ dg cd (snP C Y s' + 4) ≤ 3
def gnR (cd : Nat → Int32) (g : Nat → Nat → Int32) (C Y : Nat) : Prop := ∀ c' y', c' < C → y' < Y → g c' y' = nI (dg cd (gnP Y c' y')) ∧ dg cd (gnP Y c' y') ≤ 9
theorem fat_hi (C : Nat) (h : 2 ≤ C) : 48 + nI C - 1 = nI (47 + C) := by
  rw [show (48 : Int32) = nI 48 from rfl, nI_add, show (1 : Int32) = nI 1 from rfl, pk_sub (by omega)]
  congr 1
  omega
theorem dg_fat {cd : Nat → Int32} {t C : Nat} (hC : 2 ≤ C) (hC4 : C ≤ 4) (h : wit (cd t) 48 (nI (47 + C)) = true) : dg cd t < C ∧ cd t - 48 = nI (dg cd t) := by
  have z := dg_ok (cd := cd) (t := t) (b := C - 1) (by omega) (by rw [show 48 + (C - 1) = 47 + C by omega]; exact h)
  exact ⟨by omega, z.2.2⟩
theorem snP_s (C Y s : Nat) : snP C Y s + 5 = snP C Y (s + 1) := by unfold snP; omega
theorem sonR_ext {cd k f w d k2 f2 w2 d2 : Nat → Int32} {C Y n : Nat} {a b c e : Int32} (h : sonR cd k f w d C Y n) (h1 : k2 = upd k n a) (h2 : f2 = upd f n b) (h3 : w2 = upd w n c) (h4 : d2 = upd d n e) (g1 : a = kdv (cd (snP C Y n + 1))) (g2 : b = nI (dg cd (snP C Y n + 2))) (g3 : c = nI (dg cd (snP C Y n + 3))) (g4 : e = nI (dg cd (snP C Y n + 4))) (b2 : dg cd (snP C Y n + 2) < C) (b3 : dg cd (snP C Y n + 3) ≤ 9) (b4 : dg cd (snP C Y n + 4) ≤ 3) : sonR cd k2 f2 w2 d2 C Y (n + 1) := by
  subst h1; subst h2; subst h3; subst h4
  intro s' hs
  rcases Nat.lt_or_ge s' n with z | z
  · rw [upd_off (by omega), upd_off (by omega), upd_off (by omega), upd_off (by omega)]
    exact h s' z
  · rw [show s' = n by omega, upd_at, upd_at, upd_at, upd_at]
    exact ⟨g1, g2, g3, g4, b2, b3, b4⟩
