section ST
variable {l : Launch} {dC : Nat → ClassId} {dI : Nat → Nat → Nat} {cI cZ cS cG : ClassId} {ad bd : Nat → Nat}
theorem ag0 {M : xSt} {k : Nat} {ln i n : Int32} (h : agF M k ln i n = 0) : ¬ M 1 k = -9 ∧ M 1 k = ln ∧ hCs i n (M 2 k) = true := by
  unfold agF at h
  by_cases q1 : ¬ M 1 k = -9 ∧ ¬ M 1 k = ln
  · rw [if_pos q1] at h
    exact absurd h (by decide)
  · rw [if_neg q1] at h
    by_cases q2 : M 1 k = -9
    · rw [if_pos q2] at h
      exact absurd h (by decide)
    · rw [if_neg q2] at h
      by_cases q3 : n < 0
      · rw [if_pos q3] at h
        exact absurd h (by decide)
      · rw [if_neg q3] at h
        by_cases q4 : hCs i n (M 2 k) = true
        · refine ⟨q2, ?_, q4⟩
          by_cases q5 : M 1 k = ln
          · exact q5
          · exact absurd ⟨q2, q5⟩ q1
        · rw [if_neg q4] at h
          exact absurd h (by decide)
theorem allL_all {p : Nat → Bool} : ∀ (n i : Nat), allL p n i = true → ∀ j, i ≤ j → j < i + n → p j = true
  | 0, i, _, j, h1, h2 => absurd h2 (by omega)
  | n + 1, i, h, j, h1, h2 => by
    rw [allL] at h
    by_cases q : p i = true
    · rw [if_pos q] at h
      rcases Nat.eq_or_lt_of_le h1 with rfl | h3
      · exact q
      · exact allL_all n (i + 1) h j h3 (by omega)
    · rw [if_neg q] at h
      cases h
theorem sumL_tail {f g : Nat → Int32} {N : Nat} : ∀ (n i m : Nat) (a : Int32), i + n = N → (∀ j, j < N → f j = g j) → (∀ j, N ≤ j → j < N + m → f j = 0) → sumL f (n + m) i a = sumL g n i a
  | 0, i, m, a, h1, h2, h3 => by
    rw [Nat.zero_add]
    show sumL f m i a = a
    have : ∀ (m i : Nat) (a : Int32), N ≤ i → (∀ j, i ≤ j → j < i + m → f j = 0) → sumL f m i a = a := by
      intro m
      induction m with
      | zero => intro i a _ _; rfl
      | succ m ih =>
        intro i a g1 g2
        rw [sumL, g2 i (Nat.le_refl i) (by omega), ih (i + 1) _ (by omega) (fun j g3 g4 => g2 j (by omega) (by omega))]
        exact Int32.add_zero a
    exact this m i a (by omega) (fun j g1 g2 => h3 j (by omega) (by omega))
  | n + 1, i, m, a, h1, h2, h3 => by
    rw [show n + 1 + m = n + m + 1 by omega, sumL, sumL, h2 i (by omega)]
    exact sumL_tail n (i + 1) m _ (by omega) h2 h3
set_option maxHeartbeats 2000000 in
theorem st_plan (hI : xI 42 ad) (hJ : xI 18 bd) {S M : xSt} (hR : Rel S M) (x1 x2 x3 x4 x5 : Int32) : PairI l dC dI cI cZ cS cG ad bd yX5_plan wsX5_plan ({ frames := 7, cells := 0, slots := 0, locals := 168 }) yX6_plan wsX6_plan ({ frames := 7, cells := 0, slots := 0, locals := 159 }) [.int x1, .int x2, .int x3, .int x4, .int x5] S M := by
  obtain ⟨a1, a2, a3, a4, C, Y, N, R, a5, a6, a7, a8, a9, a10⟩ := id hR
  have hN := a5N a5
  have hC := a5C a5
  have hY := a5Y a5
  have hz := a5z a5
  by_cases hok : wit x1 0 3 = true ∧ wit x2 0 2 = true ∧ (wit x5 0 2 = true ∨ wit x5 10 13 = true) ∧ agF M (nN x1) x2 x3 x4 = 0 ∧ ¬ M 0 5 = 0 ∧ x4 = M 0 7
  · obtain ⟨q1, q2, q5, q3, q0, q4⟩ := hok
    obtain ⟨j, hj, rfl⟩ := wit3_ex q1
    rw [nN_nI (by omega)] at q3
    obtain ⟨L, hL, eL⟩ := (a3 j hj).2.1
    have hL2 : S (2 + j) 3 = nI L := by
      rcases (a3 j hj).2.2 with ⟨c1, c2⟩ | ⟨c1, c2, c3, c4⟩
      · exact absurd c2 (ag0 q3).1
      · rw [← c4]; exact eL
    obtain ⟨a, m, ham, rfl, rfl⟩ := hCs_ex (L := L) (by omega) (by rw [← eL]; exact (ag0 q3).2.2)
    obtain rfl : m = N := (nI_eq (by omega) (by omega)).mp (q4.trans hN.2.1)
    have hN0 : 0 < m := by
      rcases Nat.eq_zero_or_pos m with z | z
      · exact absurd (hz.2.1.mpr z) q0
      · exact z
    have hC0 : 0 < C := by have := hz.2.2; omega
    have hY0 : 1 ≤ Y := by rcases a5.2.2.2.2.2.2 with z | z <;> omega
    refine ⟨_, _, c5_plan_g hI S m hN.1 hN.2.2 hN0 C hC.1 hC.2.2 Y hY.1 hY.2.2 j hj L (by rw [su2]; exact hL2) (by omega) x2 q2 a ham x5 ((ofP_eq x5).mpr q5) (by rw [row_ag a3 hj]; exact q3), c6_plan_g hJ M m hN.2.1 hN.2.2 C hC.2.1 hC.2.2 hC0 Y hY.2.1 hY.2.2 j hj x2 q2 a x5 q5 q3 (by omega), ?_⟩
    rintro r S' r' M' ⟨rfl, g, rfl⟩ ⟨rfl, h, rfl⟩
    refine ⟨?_, ((hR.flt 0).ask _).tri _⟩
    have ce : ∀ s, s < m → S (6 + j) (a + s) = M 3 (60 * j + a + s) := fun s hs => by
      rw [Nat.add_assoc]
      exact (a4 j (a + s) hj (by omega)).symm
    have eok : plOk (su S 0 8 0) j a m = plOkM M (60 * j + a) m := by
      unfold plOk plOkM
      refine allL_cong m 0 (fun s _ hs => ?_)
      rw [su6, ce s (by omega), show (su S 0 8 0) 12 1 = M 0 6 from hY.1.trans hY.2.1.symm]
    rw [eok]
    by_cases pk : plOkM M (60 * j + a) m = true
    · rw [if_pos pk, if_pos pk]
      have pv : ∀ s, s < m → ∃ f, f ≤ Y ∧ M 3 (60 * j + a + s) = nI f := fun s hs => by
        have := allL_all m 0 pk s (Nat.zero_le s) (by omega)
        rw [hY.2.1] at this
        obtain ⟨f, -, hf, ef⟩ := wit_ex (a := 0) (b := Y) (by decide) (by omega) this
        exact ⟨f, hf, ef⟩
      have pf : ∀ s, s < m → plF (su S 0 8 0) j a m s = M 3 (60 * j + a + s) := fun s hs => by
        rw [plF, fil_in hs, su6]
        exact ce s hs
      have pm : ∀ s, s < m → plM M (60 * j + a) m s = M 3 (60 * j + a + s) := fun s hs => by rw [plM, fil_in hs]
      have hq : ∀ y, y < Y → RelQ (sr (su S 0 8 0) 37 (plF (su S 0 8 0) j a m)) (sr (su M 0 0 0) 13 (plM M (60 * j + a) m)) m 35 0 y := fun y hy s hs => by
        obtain ⟨b1, b2, b3, b4, b5, b6⟩ := a7 s hs
        exact ⟨b2, b3, b4, (kpg0 (by omega)).trans b1, b5, Or.inl ((pf s hs).trans (pm s hs).symm)⟩
      have hg : RelG (sr (su S 0 8 0) 37 (plF (su S 0 8 0) j a m)) (sr (su M 0 0 0) 13 (plM M (60 * j + a) m)) C Y := a6.cg (fun c hc => by rw [sr_ne (by omega), su_ne (by omega)]) rfl
      rw [hC.1, hC.2.1, hY.1, hY.2.1]
      by_cases w0 : x5 = 0
      · subst w0
        rw [if_pos (show (0 : Int32) < 2 by decide), if_pos rfl, if_pos rfl]
        exact brk_eq hC.2.2 hg hq
      · by_cases w1 : x5 = 1
        · subst w1
          rw [if_pos (show (1 : Int32) < 2 by decide), if_neg w0, if_neg w0, if_pos rfl]
          exact bc_eq hC.2.2 hY.2.2 hg hq
        · have w2 : ¬ x5 < 2 := by
            rcases q5 with z | z
            · obtain ⟨k, -, hk, rfl⟩ := wit_ex (a := 0) (b := 2) (by decide) (by decide) z
              rcases (show k = 0 ∨ k = 1 ∨ k = 2 by omega) with rfl | rfl | rfl
              · exact absurd rfl w0
              · exact absurd rfl w1
              · decide +kernel
            · obtain ⟨k, h1, hk, rfl⟩ := wit_ex (a := 10) (b := 13) (by decide) (by decide) z
              exact nI_nlt (a := k) (b := 2) (by omega) (by omega)
          rw [if_neg w2, if_neg w0, if_neg w1]
          by_cases w3 : x5 = 2
          · rw [if_pos w3, if_pos w3]
            unfold cMany
            have e5 : (5 : Nat) = m + (5 - m) := by omega
            have st := sumL_tail (f := fun s => if ¬ nI Y - 1 < (sr (su S 0 8 0) 37 (plF (su S 0 8 0) j a m)) (35 + 2) s then (1 : Int32) else 0) (g := fun s => if plM M (60 * j + a) m s < nI Y then (1 : Int32) else 0) (N := m) m 0 (5 - m) 0 (by omega) (fun s hs => ?_) (fun s h1 h2 => ?_)
            · rw [← e5] at st
              exact st
            · obtain ⟨f, hf, ef⟩ := pv s hs
              show (if ¬ nI Y - 1 < plF (su S 0 8 0) j a m s then (1 : Int32) else 0) = (if plM M (60 * j + a) m s < nI Y then (1 : Int32) else 0)
              rw [pf s hs, pm s hs, ef, show (1 : Int32) = nI 1 from rfl, pk_sub hY0]
              rcases Nat.lt_or_ge f Y with z | z
              · rw [if_pos (nI_nlt (by omega) (by omega)), if_pos (nI_lt z (by omega))]
              · rw [if_neg (fun k => k (nI_lt (by omega) (by omega))), if_neg (nI_nlt z (by omega))]
            · show (if ¬ nI Y - 1 < plF (su S 0 8 0) j a m s then (1 : Int32) else 0) = 0
              have e6 : plF (su S 0 8 0) j a m s = 6 := by
                rw [plF, fil_out h1]
                show frG 0 (S 37) s = 6
                have : frG 0 (S 37) s = (if (0 : Int32) >>> (nI s &&& 31) &&& 1 = 1 then 0 else 6) := fil_in (by omega)
                rw [this]
                exact if_neg ((by decide +kernel : ∀ s, s < 5 → ¬ (0 : Int32) >>> (nI s &&& 31) &&& 1 = 1) s (by omega))
              rw [e6, show (1 : Int32) = nI 1 from rfl, pk_sub hY0]
              exact if_neg (fun k => k (nI_lt (b := 6) (by omega) (by decide)))
          · rw [if_neg w3, if_neg w3]
            by_cases w4 : inR (x5 - 10) (nI C) = true
            · rw [if_pos w4, if_pos w4]
              refine sumL_cong m 0 0 (fun s _ hs => ?_)
              obtain ⟨b1, b2, b3, b4, b5, b6⟩ := a7 s (by omega)
              exact stk_eq b2 b3 b4 ((kpg0 (by omega)).trans b1) b5 (Or.inl ((pf s (by omega)).trans (pm s (by omega)).symm))
            · rw [if_neg w4, if_neg w4]
    · rw [if_neg pk, if_neg pk]
  · have hno : ¬ (wit x1 0 3 = true ∧ wit x2 0 2 = true ∧ ofP x5 = true ∧ rowF (su S 0 8 0) (nN x1) x2 x3 x4 = 0 ∧ ¬ S 12 2 ≤ 0 ∧ x4 = S 12 2) := by
      rintro ⟨z1, z2, z3, z4, z5, z6⟩
      obtain ⟨j, hj, rfl⟩ := wit3_ex z1
      rw [nN_nI (by omega), row_ag a3 hj] at z4
      rw [nN_nI (by omega)] at hok
      exact hok ⟨z1, z2, (ofP_eq x5).mp z3, z4, fun z => z5 (hz.1.mpr (hz.2.1.mp z)), by rw [z6, hN.1, hN.2.1]⟩
    refine ⟨_, _, c5_plan_f hI S x1 x2 x3 x4 x5 hno, c6_plan_f hJ M x1 x2 x3 x4 x5 hok, ?_⟩
    rintro r S' r' M' ⟨rfl, rfl⟩ ⟨rfl, rfl⟩
    by_cases q1 : wit x1 0 3 = true
    · obtain ⟨j, hj, rfl⟩ := wit3_ex q1
      rw [nN_nI (by omega), row_ag a3 hj]
      have k2 : S 12 2 ≤ 0 ↔ M 0 5 = 0 := hz.1.trans hz.2.1.symm
      by_cases w : wit x5 0 2 = true ∨ wit x5 10 13 = true
      · have w' := (ofP_eq x5).mpr w
        by_cases q2 : wit x2 0 2 = true
        · simp only [if_pos q1, if_pos (show wit x2 0 2 = true ∧ ofP x5 = true from ⟨q2, w'⟩), if_pos (show wit x2 0 2 = true ∧ (wit x5 0 2 = true ∨ wit x5 10 13 = true) from ⟨q2, w⟩)]
          by_cases g0 : agF M j x2 x3 x4 = 0
          · rw [if_pos g0, if_pos g0, if_neg (show ¬ (wit (nI j) 0 3 = true ∧ wit x2 0 2 = true ∧ ofP x5 = true ∧ ¬ agF M j x2 x3 x4 = 0) from fun z => z.2.2.2 g0), if_neg (show ¬ (wit (nI j) 0 3 = true ∧ wit x2 0 2 = true ∧ (wit x5 0 2 = true ∨ wit x5 10 13 = true) ∧ ¬ agF M j x2 x3 x4 = 0) from fun z => z.2.2.2 g0)]
            refine ⟨?_, hR.flt 0⟩
            by_cases h0 : M 0 5 = 0
            · rw [if_pos h0, if_pos (k2.mpr h0)]
            · rw [if_neg h0, if_neg (fun z => h0 (k2.mp z))]
          · rw [if_neg g0, if_neg g0, if_pos (show wit (nI j) 0 3 = true ∧ wit x2 0 2 = true ∧ ofP x5 = true ∧ ¬ agF M j x2 x3 x4 = 0 from ⟨q1, q2, w', g0⟩), if_pos (show wit (nI j) 0 3 = true ∧ wit x2 0 2 = true ∧ (wit x5 0 2 = true ∨ wit x5 10 13 = true) ∧ ¬ agF M j x2 x3 x4 = 0 from ⟨q1, q2, w, g0⟩)]
            exact ⟨rfl, hR.flt _⟩
        · rw [if_pos q1, if_pos q1, if_neg (fun z => q2 z.1), if_neg (fun z => q2 z.1), if_neg (fun z => q2 z.2.1), if_neg (fun z => q2 z.2.1)]
          exact ⟨rfl, hR.flt 0⟩
      · have w' : ¬ ofP x5 = true := fun z => w ((ofP_eq x5).mp z)
        rw [if_pos q1, if_pos q1, if_neg (fun z => w' z.2), if_neg (fun z => w z.2), if_neg (fun z => w' z.2.2.1), if_neg (fun z => w z.2.2.1)]
        exact ⟨rfl, hR.flt 0⟩
    · rw [if_neg q1, if_neg q1, if_neg (fun z => q1 z.1), if_neg (fun z => q1 z.1)]
      exact ⟨rfl, hR.flt 0⟩
end ST
