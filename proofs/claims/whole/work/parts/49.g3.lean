section ST
variable {l : Launch} {dC : Nat → ClassId} {dI : Nat → Nat → Nat} {cI cZ cS cG : ClassId} {ad bd : Nat → Nat}
theorem inR_wit (i : Int32) {L : Nat} (hL : L ≤ 60) : inR i (nI L) = wit i 0 (nI L - 1) := by
  rw [Bool.eq_iff_iff]
  constructor
  · intro h
    obtain ⟨a, ha, rfl⟩ := inR_ex h (by omega)
    refine decide_eq_true ⟨nI_pos (by omega), ?_⟩
    rw [show (1 : Int32) = nI 1 from rfl, pk_sub (by omega)]
    exact nI_nlt (by omega) (by omega)
  · intro h
    obtain ⟨a, ha, rfl⟩ := witL_ex h hL
    exact inR_nI ha (by omega)
theorem st_reading (hI : xI 42 ad) (hJ : xI 18 bd) {S M : xSt} (hR : Rel S M) (x1 x2 x3 : Int32) (hw : x3 = 0 ∨ x3 = 1) : PairI l dC dI cI cZ cS cG ad bd yX5_reading wsX5_reading ({ frames := 1, cells := 0, slots := 0, locals := 24 }) yX6_reading wsX6_reading ({ frames := 1, cells := 0, slots := 0, locals := 21 }) [.int x1, .int x2, .int x3] S M := by
  obtain ⟨a1, a2, a3, a4, C, Y, N, R, a5, a6, a7, a8, a9, a10⟩ := id hR
  have hC := a5C a5
  have hY := a5Y a5
  refine ⟨_, _, c5_reading hI S R a10.1 a10.2.2.1 x1 x2 x3 hw, c6_reading hJ M R a10.2.1 a10.2.2.1 x1 x2 x3 hw, ?_⟩
  rintro r S' r' M' ⟨rfl, rfl⟩ ⟨rfl, rfl⟩
  rw [hC.1, hC.2.1, hY.1, hY.2.1]
  by_cases q : inR x1 (nI C) = true
  · by_cases q2 : inR x2 (nI Y) = true
    · rcases Nat.lt_or_ge R 8 with h8 | h8
      · have e1 : nI R < 8 := nI_lt (b := 8) h8 (by decide)
        have e2 : ¬ nI R = 8 := fun z => absurd ((nI_eq (a := R) (b := 8) (by omega) (by decide)).mp z) (by omega)
        rw [if_pos q, if_pos q, if_pos q2, if_pos q2, if_pos e1, if_neg e2, if_pos (show inR x1 (nI C) = true ∧ inR x2 (nI Y) = true ∧ nI R < 8 from ⟨q, q2, e1⟩), if_pos (show inR x1 (nI C) = true ∧ inR x2 (nI Y) = true ∧ ¬ nI R = 8 from ⟨q, q2, e2⟩), nI_1]
        refine ⟨rfl, a1, a2, a3.cg (fun k hk => (su_ne (by omega)).trans ((su_ne (by omega)).trans ((su_ne (by omega)).trans (su_ne (by omega))))) rfl rfl, a4.cg (fun k hk => (su_ne (by omega)).trans ((su_ne (by omega)).trans ((su_ne (by omega)).trans (su_ne (by omega))))) rfl, C, Y, N, R + 1, a5.cg rfl rfl rfl rfl, a6.cg (fun k hk => (su_ne (by omega)).trans ((su_ne (by omega)).trans ((su_ne (by omega)).trans (su_ne (by omega))))) rfl, a7.cg rfl rfl rfl rfl rfl rfl rfl rfl, a8.cg rfl rfl rfl rfl, a9, rfl, rfl, by omega, fun k hk => ?_⟩
        show upd (S 39) R x1 k = upd (M 14) R x1 k ∧ upd (S 40) R x2 k = upd (M 15) R x2 k ∧ upd (S 41) R x3 k = upd (M 16) R x3 k ∧ okN (upd (M 14) R x1 k) C ∧ okN (upd (M 15) R x2 k) Y
        by_cases e : k = R
        · subst e
          rw [upd_at, upd_at, upd_at, upd_at, upd_at, upd_at]
          exact ⟨rfl, rfl, rfl, inR_ex q (by omega), inR_ex q2 (by omega)⟩
        · rw [upd_off e, upd_off e, upd_off e, upd_off e, upd_off e, upd_off e]
          exact a10.2.2.2 k (by omega)
      · obtain rfl : R = 8 := by have := a10.2.2.1; omega
        have e1 : ¬ nI 8 < 8 := by decide +kernel
        have e2 : nI 8 = 8 := rfl
        rw [if_pos q, if_pos q, if_pos q2, if_pos q2, if_neg e1, if_pos e2, if_neg (show ¬ (inR x1 (nI C) = true ∧ inR x2 (nI Y) = true ∧ nI 8 < 8) from fun z => e1 z.2.2), if_neg (show ¬ (inR x1 (nI C) = true ∧ inR x2 (nI Y) = true ∧ ¬ nI 8 = 8) from fun z => z.2.2 e2)]
        exact ⟨rfl, hR⟩
    · rw [if_pos q, if_pos q, if_neg q2, if_neg q2, if_neg (fun z => q2 z.2.1), if_neg (fun z => q2 z.2.1)]
      exact ⟨rfl, hR⟩
  · rw [if_neg q, if_neg q, if_neg (fun z => q z.1), if_neg (fun z => q z.1)]
    exact ⟨rfl, hR⟩
theorem st_back (hI : xI 42 ad) (hJ : xI 18 bd) {S M : xSt} (hR : Rel S M) (x1 : Int32) : PairI l dC dI cI cZ cS cG ad bd yX5_back wsX5_back ({ frames := 0, cells := 0, slots := 0, locals := 0 }) yX6_back wsX6_back ({ frames := 1, cells := 0, slots := 0, locals := 22 }) [.int x1] S M := by
  obtain ⟨a1, a2, a3, a4, C, Y, N, R, a5, a6, a7, a8, a9, a10⟩ := id hR
  have hC := a5C a5
  refine ⟨_, _, c5_back hI S x1, c6_back hJ M x1, ?_⟩
  rintro r S' r' M' ⟨rfl, rfl⟩ ⟨rfl, rfl⟩
  have hR8 := a10.2.2.1
  rw [a10.1, a10.2.1]
  by_cases q : wit x1 0 (nI R) = true
  · obtain ⟨k, -, hk, rfl⟩ := wit_ex (a := 0) (b := R) (by decide) (by omega) q
    simp only [if_pos q]
    rw [pk_sub hk]
    refine ⟨by trivial, a1, a2, a3.cg (fun k hk => su_ne (by omega)) rfl rfl, a4.cg (fun k hk => su_ne (by omega)) rfl, C, Y, N, R - k, a5.cg rfl rfl rfl rfl, a6.cg (fun k hk => su_ne (by omega)) rfl, a7.cg rfl rfl rfl rfl rfl rfl rfl rfl, a8.cg rfl rfl rfl rfl, a9, rfl, rfl, by omega, fun j hj => ?_⟩
    exact a10.2.2.2 j (by omega)
  · simp only [if_neg q]
    exact ⟨by trivial, hR⟩
theorem st_lose (hI : xI 42 ad) (hJ : xI 18 bd) {S M : xSt} (hR : Rel S M) (x1 : Int32) : PairI l dC dI cI cZ cS cG ad bd yX5_lose wsX5_lose ({ frames := 1, cells := 0, slots := 0, locals := 20 }) yX6_lose wsX6_lose ({ frames := 2, cells := 0, slots := 0, locals := 42 }) [.int x1] S M := by
  obtain ⟨a1, a2, a3, a4, C, Y, N, R, a5, a6, a7, a8, a9, a10⟩ := id hR
  have hC := a5C a5
  refine ⟨_, _, c5_lose hI S x1, c6_lose hJ M x1, ?_⟩
  rintro r S' r' M' ⟨rfl, rfl⟩ ⟨rfl, rfl⟩
  by_cases q : wit x1 0 3 = true
  · obtain ⟨j, hj, rfl⟩ := wit3_ex q
    simp only [if_pos q]
    rw [nN_nI (by omega)]
    refine ⟨?_, (congrFun (su_ne (by omega)) 8).trans a1, (congrFun (su_ne (by omega)) 7).trans a2, ?_, a4.cg (fun k hk => su_ne (by omega)) rfl, C, Y, N, R, a5.cg (su_ne (by omega)) rfl rfl rfl, a6.cg (fun k hk => su_ne (by omega)) rfl, a7.cg (su_ne (by omega)) (su_ne (by omega)) (su_ne (by omega)) (su_ne (by omega)) rfl rfl rfl rfl, a8.cg (su_ne (by omega)) (su_ne (by omega)) rfl rfl, ?_, a10.cg (su_ne (by omega)) (su_ne (by omega)) (su_ne (by omega)) (su_ne (by omega)) rfl rfl rfl rfl⟩
    · rcases (a3 j hj).2.2 with ⟨c1, c2⟩ | ⟨c1, c2, c3, c4⟩
      · rw [c1, c2, if_pos rfl, if_pos rfl]
      · rw [c1, if_neg (by decide), if_neg (fun z => by rw [z] at c3; exact absurd c3 (by decide +kernel))]
    · intro k hk
      show okN (su S (2 + j) 1 0 (2 + k) 3) 61 ∧ okN (M 2 k) 61 ∧ ((su S (2 + j) 1 0 (2 + k) 1 = 0 ∧ upd (M 1) j (-9) k = -9) ∨ (su S (2 + j) 1 0 (2 + k) 1 = 1 ∧ upd (M 1) j (-9) k = su S (2 + j) 1 0 (2 + k) 2 ∧ wit (upd (M 1) j (-9) k) 0 2 = true ∧ M 2 k = su S (2 + j) 1 0 (2 + k) 3))
      by_cases e : k = j
      · subst e
        rw [su_self, upd_at, upd_at, upd_off (by decide)]
        exact ⟨(a3 k hk).1, (a3 k hk).2.1, Or.inl ⟨rfl, rfl⟩⟩
      · rw [su_ne (by omega), upd_off e]
        exact a3 k hk
    · rw [su_ne (by omega)]
      exact a9
  · simp only [if_neg q]
    exact ⟨by trivial, hR⟩
theorem st_sheet (hI : xI 42 ad) (hJ : xI 18 bd) {S M : xSt} (hR : Rel S M) (x1 x2 x3 : Int32) : PairI l dC dI cI cZ cS cG ad bd yX5_sheet wsX5_sheet ({ frames := 2, cells := 0, slots := 0, locals := 63 }) yX6_sheet wsX6_sheet ({ frames := 2, cells := 0, slots := 0, locals := 42 }) [.int x1, .int x2, .int x3] S M := by
  obtain ⟨a1, a2, a3, a4, C, Y, N, R, a5, a6, a7, a8, a9, a10⟩ := id hR
  have hC := a5C a5
  by_cases hok : wit x1 0 3 = true ∧ (wit x2 0 2 = true ∧ ¬ 60 < x3) ∧ ¬ x3 < 0
  · obtain ⟨q1, q2, q3⟩ := hok
    obtain ⟨j, hj, rfl⟩ := wit3_ex q1
    obtain ⟨n, hn, rfl⟩ := nI_of2 (M := 60) (n := 60) (by decide +kernel) q3 (Int32.not_lt.mp q2.2)
    refine ⟨_, _, c5_sheet hI S (nI j) x2 (nI n), c6_sheet_t hJ M j hj x2 q2.1 n hn, ?_⟩
    rintro r S' r' M' ⟨rfl, rfl⟩ ⟨rfl, rfl⟩
    rw [if_pos q1, if_pos q1, if_pos q2, if_pos q2, if_neg q3, if_neg q3, nN_nI (by omega)]
    have eS : ∀ k, k ≠ 0 → k ≠ 2 + j → k ≠ 6 + j → shN (su S 0 8 0) j x2 (nI n) k = S k := fun k h1 h2 h3 => by
      rw [shN, sr_ne h3, su_ne h2, su_ne h2, su_ne h2, su_ne h1]
    have e2 : shN (su S 0 8 0) j x2 (nI n) (2 + j) = upd (upd (upd (S (2 + j)) 1 1) 2 x2) 3 (nI n) := by
      rw [shN, sr_ne (by omega), su_self, su_self, su_self, su_ne (by omega)]
    have e6 : shN (su S 0 8 0) j x2 (nI n) (6 + j) = fil (fun _ => 0) (S (6 + j)) 60 := by
      rw [shN, sr_self, su_ne (by omega)]
    have e0 : shN (su S 0 8 0) j x2 (nI n) 0 = upd (S 0) 8 0 := by
      rw [shN, sr_ne (by omega), su_ne (by omega), su_ne (by omega), su_ne (by omega), su_self]
    refine ⟨rfl, by rw [e0]; rfl, by rw [e0]; exact a2, ?_, ?_, C, Y, N, R, a5.cg (eS _ (by omega) (by omega) (by omega)) rfl rfl rfl, a6.cg (fun k hk => eS _ (by omega) (by omega) (by omega)) rfl, a7.cg (eS _ (by omega) (by omega) (by omega)) (eS _ (by omega) (by omega) (by omega)) (eS _ (by omega) (by omega) (by omega)) (eS _ (by omega) (by omega) (by omega)) rfl rfl rfl rfl, a8.cg (eS _ (by omega) (by omega) (by omega)) (eS _ (by omega) (by omega) (by omega)) rfl rfl, ?_, a10.cg (eS _ (by omega) (by omega) (by omega)) (eS _ (by omega) (by omega) (by omega)) (eS _ (by omega) (by omega) (by omega)) (eS _ (by omega) (by omega) (by omega)) rfl rfl rfl rfl⟩
    · intro k hk
      show okN (shN (su S 0 8 0) j x2 (nI n) (2 + k) 3) 61 ∧ okN (upd (M 2) j (nI n) k) 61 ∧ ((shN (su S 0 8 0) j x2 (nI n) (2 + k) 1 = 0 ∧ upd (M 1) j x2 k = -9) ∨ (shN (su S 0 8 0) j x2 (nI n) (2 + k) 1 = 1 ∧ upd (M 1) j x2 k = shN (su S 0 8 0) j x2 (nI n) (2 + k) 2 ∧ wit (upd (M 1) j x2 k) 0 2 = true ∧ upd (M 2) j (nI n) k = shN (su S 0 8 0) j x2 (nI n) (2 + k) 3))
      by_cases e : k = j
      · subst e
        rw [e2, upd_at, upd_at, upd_at]
        exact ⟨⟨n, by omega, rfl⟩, ⟨n, by omega, rfl⟩, Or.inr ⟨rfl, rfl, q2.1, rfl⟩⟩
      · rw [eS _ (by omega) (by omega) (by omega), upd_off e, upd_off e]
        exact a3 k hk
    · intro k i hk hi
      show fb_put (M 3) (fun _ => 0) (60 * j) 60 (60 * k + i) = _
      by_cases e : k = j
      · subst e
        rw [e6, fil_in hi]
        exact if_pos (by omega)
      · rw [eS _ (by omega) (by omega) (by omega), ← a4 k i hk hi]
        exact if_neg (by omega)
    · rw [eS _ (by omega) (by omega) (by omega)]
      exact a9
  · have hno : ¬ wit x1 0 3 = true ∨ ¬ (wit x2 0 2 = true ∧ ¬ 60 < x3) ∨ x3 < 0 := by
      by_cases q1 : wit x1 0 3 = true
      · by_cases q2 : wit x2 0 2 = true ∧ ¬ 60 < x3
        · by_cases q3 : x3 < 0
          · exact Or.inr (Or.inr q3)
          · exact absurd ⟨q1, q2, q3⟩ hok
        · exact Or.inr (Or.inl q2)
      · exact Or.inl q1
    refine ⟨_, _, c5_sheet hI S x1 x2 x3, c6_sheet_f hJ M x1 x2 x3 hno, ?_⟩
    rintro r S' r' M' ⟨rfl, rfl⟩ ⟨rfl, rfl⟩
    by_cases q1 : wit x1 0 3 = true
    · by_cases q2 : wit x2 0 2 = true ∧ ¬ 60 < x3
      · have q3 : x3 < 0 := by
          rcases hno with z | z | z
          · exact absurd q1 z
          · exact absurd q2 z
          · exact z
        simp only [if_pos q1, if_pos q2, if_pos q3]
        exact ⟨by trivial, hR.flt0 4⟩
      · simp only [if_pos q1, if_neg q2]
        exact ⟨by trivial, hR.flt 0⟩
    · simp only [if_neg q1]
      exact ⟨by trivial, hR.flt 0⟩
end ST
