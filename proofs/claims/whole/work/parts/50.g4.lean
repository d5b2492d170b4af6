section ST
variable {l : Launch} {dC : Nat → ClassId} {dI : Nat → Nat → Nat} {cI cZ cS cG : ClassId} {ad bd : Nat → Nat}
theorem Rel.cellw {S M : xSt} (h : Rel S M) {j a : Nat} (hj : j < 4) (ha : a < 60) (v : Int32) : Rel (su S (6 + j) a v) (su M 3 (60 * j + a) v) := by
  obtain ⟨a1, a2, a3, a4, C, Y, N, R, a5, a6, a7, a8, a9, a10⟩ := h
  have hC := a5C a5
  refine ⟨(congrFun (su_ne (by omega)) 8).trans a1, (congrFun (su_ne (by omega)) 7).trans a2, a3.cg (fun k hk => su_ne (by omega)) rfl rfl, ?_, C, Y, N, R, a5.cg (su_ne (by omega)) rfl rfl rfl, a6.cg (fun k hk => su_ne (by omega)) rfl, a7.cg (su_ne (by omega)) (su_ne (by omega)) (su_ne (by omega)) (su_ne (by omega)) rfl rfl rfl rfl, a8.cg (su_ne (by omega)) (su_ne (by omega)) rfl rfl, ?_, a10.cg (su_ne (by omega)) (su_ne (by omega)) (su_ne (by omega)) (su_ne (by omega)) rfl rfl rfl rfl⟩
  · intro k i hk hi
    show upd (M 3) (60 * j + a) v (60 * k + i) = _
    by_cases e : k = j
    · subst e
      rw [su_self]
      by_cases e2 : i = a
      · subst e2
        rw [upd_at, upd_at]
      · rw [upd_off (by omega), upd_off e2]
        exact a4 k i hk hi
    · rw [su_ne (by omega), upd_off (by omega)]
      exact a4 k i hk hi
  · rw [su_ne (by omega)]
    exact a9
theorem lane_ne {M : xSt} {j : Nat} (h : wit (M 1 j) 0 2 = true) : ¬ M 1 j = -9 := fun z => by
  rw [z] at h
  exact absurd h (by decide +kernel)
theorem st_put (hI : xI 42 ad) (hJ : xI 18 bd) {S M : xSt} (hR : Rel S M) (x1 x2 x3 : Int32) : PairI l dC dI cI cZ cS cG ad bd yX5_put wsX5_put ({ frames := 2, cells := 0, slots := 0, locals := 43 }) yX6_put wsX6_put ({ frames := 2, cells := 0, slots := 0, locals := 42 }) [.int x1, .int x2, .int x3] S M := by
  obtain ⟨a1, a2, a3, a4, C, Y, N, R, a5, a6, a7, a8, a9, a10⟩ := id hR
  refine ⟨_, _, c5_put hI S (fun k hk => by rw [su2]; exact (a3 k hk).1) x1 x2 x3, c6_put hJ M (fun k hk => (a3 k hk).2.1) x1 x2 x3, ?_⟩
  rintro r S' r' M' ⟨rfl, rfl⟩ ⟨rfl, rfl⟩
  by_cases q : wit x1 0 3 = true
  · obtain ⟨j, hj, rfl⟩ := wit3_ex q
    simp only [if_pos q, su2, nN_nI (show j < 2 ^ 31 by omega)]
    rcases (a3 j hj).2.2 with ⟨c1, c2⟩ | ⟨c1, c2, c3, c4⟩
    · simp only [if_pos c1, if_pos c2]
      exact ⟨by trivial, hR.flt0 1⟩
    · obtain ⟨L, hL, eL⟩ := (a3 j hj).1
      have e9 := lane_ne c3
      have e0 : ¬ S (2 + j) 1 = 0 := by rw [c1]; decide
      simp only [if_neg e0, if_neg e9]
      rw [c4, eL, ← inR_wit x2 (by omega)]
      by_cases q2 : inR x2 (nI L) = true
      · obtain ⟨a, ha, rfl⟩ := inR_ex q2 (by omega)
        simp only [if_pos q2, nN_nI (show a < 2 ^ 31 by omega)]
        refine ⟨by trivial, ?_⟩
        rw [show (if M 1 j = 0 then x3.toInt8.toInt32 else if M 1 j = 1 then x3.toInt16.toInt32 else x3) = cutL (S (2 + j) 2) x3 by rw [c2]; rfl]
        exact (hR.flt 0).cellw hj (by omega) _
      · simp only [if_neg q2]
        exact ⟨by trivial, hR.flt0 3⟩
  · simp only [if_neg q]
    exact ⟨by trivial, hR.flt 0⟩
theorem st_cell (hI : xI 42 ad) (hJ : xI 18 bd) {S M : xSt} (hR : Rel S M) (x1 x2 x3 : Int32) : PairL l dC dI cI cZ cS cG ad bd yX5_cell wsX5_cell ({ frames := 2, cells := 0, slots := 0, locals := 42 }) yX6_cell wsX6_cell ({ frames := 2, cells := 0, slots := 0, locals := 42 }) [.int x1, .int x2, .int x3] S M := by
  obtain ⟨a1, a2, a3, a4, C, Y, N, R, a5, a6, a7, a8, a9, a10⟩ := id hR
  refine ⟨_, _, c5_cell hI S (fun k hk => by rw [su2]; exact (a3 k hk).1) x1 x2 x3, c6_cell hJ M (fun k hk => (a3 k hk).2.1) x1 x2 x3, ?_⟩
  rintro r S' r' M' ⟨rfl, rfl⟩ ⟨rfl, rfl⟩
  by_cases q0 : wit x1 0 3 = true ∧ wit x3 0 2 = true
  · obtain ⟨q, q3⟩ := id q0
    obtain ⟨j, hj, rfl⟩ := wit3_ex q
    simp only [if_pos q0, laneF, su2, su6, nN_nI (show j < 2 ^ 31 by omega)]
    rcases (a3 j hj).2.2 with ⟨c1, c2⟩ | ⟨c1, c2, c3, c4⟩
    · have z1 : ¬ (1 : Int32) = 0 := by decide
      simp only [if_pos c1, if_pos (Or.inl c2), if_pos c2, if_neg z1]
      exact ⟨by trivial, hR.flt0 1⟩
    · obtain ⟨L, hL, eL⟩ := (a3 j hj).1
      have e9 := lane_ne c3
      have e0 : ¬ S (2 + j) 1 = 0 := by rw [c1]; decide
      simp only [if_neg e0, if_neg e9, ← c2]
      by_cases q4 : M 1 j = x3
      · simp only [if_pos q4, if_pos (Or.inr q4)]
        rw [c4, eL, ← inR_wit x2 (by omega)]
        by_cases q2 : inR x2 (nI L) = true
        · obtain ⟨a, ha, rfl⟩ := inR_ex q2 (by omega)
          simp only [if_pos q2, nN_nI (show a < 2 ^ 31 by omega), if_true]
          refine ⟨?_, hR.flt0 0⟩
          rw [a4 j a hj (by omega)]
        · have z3 : ¬ (3 : Int32) = 0 := by decide
          simp only [if_neg q2, if_true, if_neg z3]
          exact ⟨by trivial, hR.flt0 3⟩
      · have z2 : ¬ (2 : Int32) = 0 := by decide
        simp only [if_neg q4, if_neg z2, if_neg (fun z : M 1 j = -9 ∨ M 1 j = x3 => z.elim e9 q4)]
        exact ⟨by trivial, hR.flt0 2⟩
  · simp only [if_neg q0]
    exact ⟨by trivial, hR.flt 0⟩
theorem st_copy (hI : xI 42 ad) (hJ : xI 18 bd) {S M : xSt} (hR : Rel S M) (x1 x2 x3 x4 x5 : Int32) : PairI l dC dI cI cZ cS cG ad bd yX5_copy wsX5_copy ({ frames := 1, cells := 0, slots := 0, locals := 40 }) yX6_copy wsX6_copy ({ frames := 2, cells := 0, slots := 0, locals := 42 }) [.int x1, .int x2, .int x3, .int x4, .int x5] S M := by
  obtain ⟨a1, a2, a3, a4, C, Y, N, R, a5, a6, a7, a8, a9, a10⟩ := id hR
  have hC := a5C a5
  by_cases hok : wit x1 0 3 = true ∧ wit x3 0 3 = true ∧ ¬ M 1 (nN x1) = -9 ∧ ¬ M 1 (nN x3) = -9 ∧ M 1 (nN x1) = M 1 (nN x3) ∧ hCs x2 x5 (M 2 (nN x1)) = true ∧ hCs x4 x5 (M 2 (nN x3)) = true
  · obtain ⟨q1, q3, p1, p3, pe, h1, h3⟩ := hok
    obtain ⟨j, hj, rfl⟩ := wit3_ex q1
    obtain ⟨o, ho, rfl⟩ := wit3_ex q3
    simp only [nN_nI (show j < 2 ^ 31 by omega), nN_nI (show o < 2 ^ 31 by omega)] at p1 p3 pe h1 h3
    obtain ⟨L1, hL1, eL1⟩ := (a3 j hj).2.1
    obtain ⟨L2, hL2, eL2⟩ := (a3 o ho).2.1
    rw [eL1] at h1
    rw [eL2] at h3
    obtain ⟨a, m, ham, rfl, rfl⟩ := hCs_ex (by omega) h1
    obtain ⟨b, m2, hbm, rfl, em⟩ := hCs_ex (by omega) h3
    obtain rfl : m = m2 := (nI_eq (by omega) (by omega)).mp em
    have hcl := c5_copy (l := l) (dC := dC) (dI := dI) (cI := cI) (cZ := cZ) (cS := cS) (cG := cG) hI S (fun k hk => by rw [su2]; exact (a3 k hk).1) (nI j) (nI a) (nI o) (nI b) (nI m)
    have fin : ∀ r S' r' M', (r = (if wit (nI j) 0 3 ∧ wit (nI o) 0 3 then (if (su S 0 8 0) (2 + nN (nI j)) 1 = 0 ∨ (su S 0 8 0) (2 + nN (nI o)) 1 = 0 then -11 else if (su S 0 8 0) (2 + nN (nI j)) 2 = (su S 0 8 0) (2 + nN (nI o)) 2 then (if hCs (nI a) (nI m) ((su S 0 8 0) (2 + nN (nI j)) 3) ∧ hCs (nI b) (nI m) ((su S 0 8 0) (2 + nN (nI o)) 3) then nI m else -13) else -12) else -1) ∧ S' = (if wit (nI j) 0 3 ∧ wit (nI o) 0 3 then (if (su S 0 8 0) (2 + nN (nI j)) 1 = 0 ∨ (su S 0 8 0) (2 + nN (nI o)) 1 = 0 then su (su S 0 8 0) 0 8 1 else if (su S 0 8 0) (2 + nN (nI j)) 2 = (su S 0 8 0) (2 + nN (nI o)) 2 then (if hCs (nI a) (nI m) ((su S 0 8 0) (2 + nN (nI j)) 3) ∧ hCs (nI b) (nI m) ((su S 0 8 0) (2 + nN (nI o)) 3) then sr (su S 0 8 0) (6 + nN (nI o)) (va_cpy ((su S 0 8 0) (6 + nN (nI j))) ((su S 0 8 0) (6 + nN (nI o))) (nN (nI a)) (nN (nI b)) (nN (nI m))) else su (su S 0 8 0) 0 8 3) else su (su S 0 8 0) 0 8 2) else (su S 0 8 0))) → (r' = nI m ∧ M' = (sr (su M 0 0 0) 3 (va_cpy (M 3) (M 3) (60 * j + a) (60 * o + b) m))) → r = r' ∧ Rel S' M' := by
      rintro r S' r' M' ⟨rfl, rfl⟩ ⟨rfl, rfl⟩
      rcases (a3 j hj).2.2 with ⟨c1, c2⟩ | ⟨c1, c2, c3, c4⟩
      · exact absurd c2 p1
      · rcases (a3 o ho).2.2 with ⟨d1, d2⟩ | ⟨d1, d2, d3, d4⟩
        · exact absurd d2 p3
        · have z1 : ¬ (S (2 + j) 1 = 0 ∨ S (2 + o) 1 = 0) := by rw [c1, d1]; decide
          have z2 : S (2 + j) 2 = S (2 + o) 2 := by rw [← c2, ← d2]; exact pe
          have z3 : hCs (nI a) (nI m) (S (2 + j) 3) = true ∧ hCs (nI b) (nI m) (S (2 + o) 3) = true := by rw [← c4, ← d4, eL1, eL2]; exact ⟨h1, h3⟩
          have z0 : wit (nI j) 0 3 = true ∧ wit (nI o) 0 3 = true := ⟨q1, q3⟩
          simp only [su2, su6, nN_nI (show j < 2 ^ 31 by omega), nN_nI (show o < 2 ^ 31 by omega), nN_nI (show a < 2 ^ 31 by omega), nN_nI (show b < 2 ^ 31 by omega), nN_nI (show m < 2 ^ 31 by omega), if_pos z0, if_neg z1, if_pos z2, if_pos z3]
          refine ⟨by trivial, ?_⟩
          have eS : ∀ k, k ≠ 0 → k ≠ 6 + o → sr (su S 0 8 0) (6 + o) (va_cpy (S (6 + j)) (S (6 + o)) a b m) k = S k := fun k g1 g2 => by rw [sr_ne g2, su_ne g1]
          refine ⟨(congrFun (sr_ne (by omega)) 8).trans rfl, (congrFun (sr_ne (by omega)) 7).trans a2, a3.cg (fun k hk => eS _ (by omega) (by omega)) rfl rfl, ?_, C, Y, N, R, a5.cg (eS _ (by omega) (by omega)) rfl rfl rfl, a6.cg (fun k hk => eS _ (by omega) (by omega)) rfl, a7.cg (eS _ (by omega) (by omega)) (eS _ (by omega) (by omega)) (eS _ (by omega) (by omega)) (eS _ (by omega) (by omega)) rfl rfl rfl rfl, a8.cg (eS _ (by omega) (by omega)) (eS _ (by omega) (by omega)) rfl rfl, ?_, a10.cg (eS _ (by omega) (by omega)) (eS _ (by omega) (by omega)) (eS _ (by omega) (by omega)) (eS _ (by omega) (by omega)) rfl rfl rfl rfl⟩
          · intro k i hk hi
            show va_cpy (M 3) (M 3) (60 * j + a) (60 * o + b) m (60 * k + i) = _
            by_cases e : k = o
            · subst e
              rw [sr_self]
              by_cases z : b ≤ i ∧ i < b + m
              · rw [va_cpy, if_pos (by omega), va_cpy, if_pos z]
                have := a4 j (a + (i - b)) hj (by omega)
                rw [← this]
                congr 1
                omega
              · rw [va_cpy, if_neg (by omega), va_cpy, if_neg z]
                exact a4 k i hk hi
            · rw [eS _ (by omega) (by omega), va_cpy, if_neg (by omega)]
              exact a4 k i hk hi
          · rw [eS _ (by omega) (by omega)]
            exact a9
    rcases Nat.lt_or_ge a b with hab | hab
    · exact ⟨_, _, hcl, c6_copy_b hJ M j o hj ho p1 p3 pe L1 L2 eL1 eL2 (by omega) (by omega) a b m ham hbm hab, fin⟩
    · exact ⟨_, _, hcl, c6_copy_a hJ M j o hj ho p1 p3 pe L1 L2 eL1 eL2 (by omega) (by omega) a b m ham hbm hab, fin⟩
  · refine ⟨_, _, c5_copy hI S (fun k hk => by rw [su2]; exact (a3 k hk).1) x1 x2 x3 x4 x5, c6_copy_f hJ M x1 x2 x3 x4 x5 hok, ?_⟩
    rintro r S' r' M' ⟨rfl, rfl⟩ ⟨rfl, rfl⟩
    by_cases q0 : wit x1 0 3 = true ∧ wit x3 0 3 = true
    · obtain ⟨j, hj, rfl⟩ := wit3_ex q0.1
      obtain ⟨o, ho, rfl⟩ := wit3_ex q0.2
      simp only [nN_nI (show j < 2 ^ 31 by omega), nN_nI (show o < 2 ^ 31 by omega)] at hok
      simp only [if_pos q0, su2, su6, nN_nI (show j < 2 ^ 31 by omega), nN_nI (show o < 2 ^ 31 by omega)]
      by_cases p0 : M 1 j = -9 ∨ M 1 o = -9
      · have z1 : S (2 + j) 1 = 0 ∨ S (2 + o) 1 = 0 := by
          rcases p0 with p0 | p0
          · rcases (a3 j hj).2.2 with ⟨c1, c2⟩ | ⟨c1, c2, c3, c4⟩
            · exact Or.inl c1
            · exact absurd p0 (lane_ne c3)
          · rcases (a3 o ho).2.2 with ⟨c1, c2⟩ | ⟨c1, c2, c3, c4⟩
            · exact Or.inr c1
            · exact absurd p0 (lane_ne c3)
        simp only [if_pos p0, if_pos z1]
        exact ⟨by trivial, hR.flt0 1⟩
      · rcases (a3 j hj).2.2 with ⟨c1, c2⟩ | ⟨c1, c2, c3, c4⟩
        · exact absurd (Or.inl c2) p0
        · rcases (a3 o ho).2.2 with ⟨d1, d2⟩ | ⟨d1, d2, d3, d4⟩
          · exact absurd (Or.inr d2) p0
          · have z1 : ¬ (S (2 + j) 1 = 0 ∨ S (2 + o) 1 = 0) := by rw [c1, d1]; decide
            simp only [if_neg p0, if_neg z1, ← c2, ← d2]
            by_cases pe : M 1 j = M 1 o
            · have z3 : ¬ (hCs x2 x5 (S (2 + j) 3) = true ∧ hCs x4 x5 (S (2 + o) 3) = true) := by
                rw [← c4, ← d4]
                exact fun z => hok ⟨q0.1, q0.2, fun y => p0 (Or.inl y), fun y => p0 (Or.inr y), pe, z.1, z.2⟩
              simp only [if_pos pe, if_neg z3]
              exact ⟨by trivial, hR.flt0 3⟩
            · simp only [if_neg pe]
              exact ⟨by trivial, hR.flt0 2⟩
    · simp only [if_neg q0]
      exact ⟨by trivial, hR.flt 0⟩
end ST
