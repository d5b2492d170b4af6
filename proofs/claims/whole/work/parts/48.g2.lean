section ST
variable {l : Launch} {dC : Nat → ClassId} {dI : Nat → Nat → Nat} {cI cZ cS cG : ClassId} {ad bd : Nat → Nat}
/-! ===== parts of the relation that a call leaves ===== -/
theorem RelS.cg {S M S' M' : xSt} (h : RelS S M) (h1 : ∀ k, k < 4 → S' (2 + k) = S (2 + k)) (h2 : M' 1 = M 1) (h3 : M' 2 = M 2) : RelS S' M' := by
  intro k hk
  rw [h1 k hk, h2, h3]
  exact h k hk
theorem RelC.cg {S M S' M' : xSt} (h : RelC S M) (h1 : ∀ k, k < 4 → S' (6 + k) = S (6 + k)) (h2 : M' 3 = M 3) : RelC S' M' := by
  intro k i hk hi
  rw [h1 k hk, h2]
  exact h k i hk hi
theorem RelD.cg {S M S' M' : xSt} {C Y N : Nat} (h : RelD S M C Y N) (h1 : S' 12 = S 12) (h5 : M' 0 5 = M 0 5) (h6 : M' 0 6 = M 0 6) (h7 : M' 0 7 = M 0 7) : RelD S' M' C Y N := by
  unfold RelD
  rw [h1, h5, h6, h7]
  exact h
theorem RelG.cg {S M S' M' : xSt} {C Y : Nat} (h : RelG S M C Y) (h1 : ∀ c, c < C → S' (14 + c) = S (14 + c)) (h2 : M' 4 = M 4) : RelG S' M' C Y := by
  intro c y hc hy
  rw [h1 c hc, h2]
  exact h c y hc hy
theorem RelN.cg {S M S' M' : xSt} {C N : Nat} (h : RelN S M C N) (h1 : S' 18 = S 18) (h2 : S' 19 = S 19) (h3 : S' 20 = S 20) (h4 : S' 21 = S 21) (h5 : M' 5 = M 5) (h6 : M' 6 = M 6) (h7 : M' 7 = M 7) (h8 : M' 8 = M 8) : RelN S' M' C N := by
  unfold RelN
  rw [h1, h2, h3, h4, h5, h6, h7, h8]
  exact h
theorem RelA.cg {S M S' M' : xSt} {C Y N : Nat} (h : RelA S M C Y N) (h1 : S' 33 = S 33) (h2 : S' 34 = S 34) (h3 : M' 9 = M 9) (h4 : M' 10 = M 10) : RelA S' M' C Y N := by
  unfold RelA
  rw [h1, h2, h3, h4]
  exact h
theorem RelR.cg {S M S' M' : xSt} {C Y R : Nat} (h : RelR S M C Y R) (h1 : S' 38 = S 38) (h2 : S' 39 = S 39) (h3 : S' 40 = S 40) (h4 : S' 41 = S 41) (h5 : M' 0 22 = M 0 22) (h6 : M' 14 = M 14) (h7 : M' 15 = M 15) (h8 : M' 16 = M 16) : RelR S' M' C Y R := by
  unfold RelR
  rw [h1, h2, h3, h4, h5, h6, h7, h8]
  exact h
theorem upd_z {f : Nat → Int32} {j i : Nat} {v : Int32} (h : i ≠ j) : upd f j v i = f i := if_neg h
/-- FAULTS alone -/
theorem Rel.flt {S M : xSt} (h : Rel S M) (v : Int32) : Rel (su S 0 8 v) (su M 0 0 v) := by
  refine h.keep (by rw [su_at, su_at]) ?_ (fun k h0 _ _ _ _ _ _ => su_ne h0) (fun j h0 _ _ _ _ _ => ?_) (fun k h0 _ _ _ _ => su_ne h0)
  · rw [su_self, su_self]
    exact h.2.1
  · rw [su_self]
    exact upd_z h0
theorem Rel.flt0 {S M : xSt} (h : Rel S M) (v : Int32) : Rel (su (su S 0 8 0) 0 8 v) (su M 0 0 v) := by
  rw [su_su]
  exact h.flt v
theorem st_as (hI : xI 42 ad) (hJ : xI 18 bd) {S M : xSt} (hR : Rel S M) (x1 x2 : Int32) : PairI l dC dI cI cZ cS cG ad bd yX5_as wsX5_as ({ frames := 1, cells := 0, slots := 0, locals := 21 }) yX6_as wsX6_as ({ frames := 1, cells := 0, slots := 0, locals := 22 }) [.int x1, .int x2] S M := by
  obtain ⟨a1, a2, a3, a4, C, Y, N, R, a5, a6, a7, a8, a9, a10⟩ := id hR
  have hN := a5N a5
  refine ⟨_, _, c5_as hI S N hN.1 hN.2.2 x1 x2, c6_as hJ M N hN.2.1 hN.2.2 x1 x2, ?_⟩
  rintro r S' r' M' ⟨rfl, rfl⟩ ⟨rfl, rfl⟩
  rw [hN.1, hN.2.1]
  by_cases q : inR x1 (nI N) = true
  · obtain ⟨j, hj, rfl⟩ := inR_ex q (by omega)
    rw [nN_nI (by omega), (a7 j hj).1]
    refine ⟨rfl, ?_⟩
    split
    · exact hR.flt 2
    · exact hR.flt 0
  · refine ⟨by rw [if_neg q, if_neg q], ?_⟩
    rw [if_neg (fun z => q z.1), if_neg (fun z => q z.1)]
    exact hR.flt 0
theorem Rel.trc {S M : xSt} (h : Rel S M) {v w : Int32} (e : v = w) : Rel (su S 0 7 v) (su M 0 1 w) := by
  subst e
  refine h.keep ?_ (by rw [su_at, su_at]) (fun k h0 _ _ _ _ _ _ => su_ne h0) (fun j _ h1 _ _ _ _ => ?_) (fun k h0 _ _ _ _ => su_ne h0)
  · rw [su_self, su_self]
    exact h.1
  · rw [su_self]
    exact upd_z h1
theorem st_tell (hI : xI 42 ad) (hJ : xI 18 bd) {S M : xSt} (hR : Rel S M) (x1 : Int32) : PairI l dC dI cI cZ cS cG ad bd yX5_tell wsX5_tell ({ frames := 4, cells := 0, slots := 0, locals := 85 }) yX6_tell wsX6_tell ({ frames := 1, cells := 0, slots := 0, locals := 21 }) [.int x1] S M := by
  obtain ⟨a1, a2, a3, a4, C, Y, N, R, a5, a6, a7, a8, a9, a10⟩ := id hR
  have hN := a5N a5
  refine ⟨_, _, c5_tell hI S N hN.1 hN.2.2 x1, c6_tell hJ M N hN.2.1 hN.2.2 x1, ?_⟩
  rintro r S' r' M' ⟨rfl, rfl⟩ ⟨rfl, rfl⟩
  rw [hN.1, hN.2.1]
  by_cases q : inR x1 (nI N) = true
  · obtain ⟨j, hj, rfl⟩ := inR_ex q (by omega)
    rw [nN_nI (by omega), (a7 j hj).1, (a7 j hj).2.2.1, if_pos q, if_pos q, if_pos q, if_pos q, a2]
    refine ⟨?_, hR.trc rfl⟩
    rw [show M 7 j + 100 + M 7 j = 2 * M 7 j + 100 by grind]
  · rw [if_neg q, if_neg q, if_neg q, if_neg q]
    exact ⟨rfl, hR⟩
theorem st_teach (hI : xI 42 ad) (hJ : xI 18 bd) {S M : xSt} (hR : Rel S M) (x1 : Int32) : PairI l dC dI cI cZ cS cG ad bd yX5_teach wsX5_teach ({ frames := 1, cells := 0, slots := 0, locals := 21 }) yX6_teach wsX6_teach ({ frames := 1, cells := 0, slots := 0, locals := 21 }) [.int x1] S M := by
  obtain ⟨a1, a2, a3, a4, C, Y, N, R, a5, a6, a7, a8, a9, a10⟩ := id hR
  have hN := a5N a5
  refine ⟨_, _, c5_teach hI S N hN.1 hN.2.2 x1, c6_teach hJ M N hN.2.1 hN.2.2 x1, ?_⟩
  rintro r S' r' M' ⟨rfl, rfl⟩ ⟨rfl, rfl⟩
  rw [hN.1, hN.2.1]
  by_cases q : inR x1 (nI N) = true
  · obtain ⟨j, hj, rfl⟩ := inR_ex q (by omega)
    simp only [if_pos q]
    rw [nN_nI (by omega), (a7 j hj).1, a2]
    exact ⟨rfl, hR.trc rfl⟩
  · rw [if_neg q, if_neg q, if_neg q, if_neg q]
    exact ⟨rfl, hR⟩
theorem st_tempt (hI : xI 42 ad) (hJ : xI 18 bd) {S M : xSt} (hR : Rel S M) (x1 x2 x3 : Int32) : PairI l dC dI cI cZ cS cG ad bd yX5_tempt wsX5_tempt ({ frames := 1, cells := 0, slots := 0, locals := 21 }) yX6_tempt wsX6_tempt ({ frames := 1, cells := 0, slots := 0, locals := 22 }) [.int x1, .int x2, .int x3] S M := by
  obtain ⟨a1, a2, a3, a4, C, Y, N, R, a5, a6, a7, a8, a9, a10⟩ := id hR
  have hC := a5C a5
  have hY := a5Y a5
  refine ⟨_, _, c5_tempt hI S C hC.1 hC.2.2 Y hY.1 hY.2.2 x1 x2 x3, c6_tempt hJ M C hC.2.1 hC.2.2 Y hY.2.1 hY.2.2 x1 x2 x3, ?_⟩
  rintro r S' r' M' ⟨rfl, rfl⟩ ⟨rfl, rfl⟩
  rw [hC.1, hC.2.1, hY.1, hY.2.1]
  by_cases q : inR x1 (nI C) = true
  · by_cases q2 : inR x2 (nI Y) = true
    · by_cases q3 : wit x3 0 9 = true
      · obtain ⟨j, hj, rfl⟩ := inR_ex q (by omega)
        obtain ⟨k, hk, rfl⟩ := inR_ex q2 (by omega)
        rw [if_pos q, if_pos q, if_pos q2, if_pos q2, if_pos q3, if_pos q3, nN_nI (by omega), nN_nI (by omega), if_pos ⟨q, q2, q3⟩, if_pos ⟨q, q2, q3⟩]
        refine ⟨a6 j k hj hk, ?_⟩
        refine ⟨(congrFun (su_ne (by omega)) 8).trans (a1.trans rfl), (congrFun (su_ne (by omega)) 7).trans (a2.trans rfl), a3.cg (fun k hk => su_ne (by omega)) rfl rfl, a4.cg (fun k hk => su_ne (by omega)) rfl, C, Y, N, R, a5.cg (su_ne (by omega)) rfl rfl rfl, ?_, a7.cg (su_ne (by omega)) (su_ne (by omega)) (su_ne (by omega)) (su_ne (by omega)) rfl rfl rfl rfl, a8.cg (su_ne (by omega)) (su_ne (by omega)) rfl rfl, ?_, a10.cg (su_ne (by omega)) (su_ne (by omega)) (su_ne (by omega)) (su_ne (by omega)) rfl rfl rfl rfl⟩
        · intro c y hc hy
          by_cases e : c = j
          · subst e
            rw [su_self, su_self]
            by_cases e2 : y = k
            · subst e2
              rw [upd_at, upd_at]
            · rw [upd_off e2, upd_off (by omega)]
              exact a6 c y hc hy
          · rw [su_ne (by omega), su_self, upd_off (by omega)]
            exact a6 c y hc hy
        · rw [su_ne (by omega)]
          exact a9
      · rw [if_pos q, if_pos q, if_pos q2, if_pos q2, if_neg q3, if_neg q3, if_neg (fun z => q3 z.2.2), if_neg (fun z => q3 z.2.2)]
        exact ⟨rfl, hR⟩
    · rw [if_pos q, if_pos q, if_neg q2, if_neg q2, if_neg (fun z => q2 z.2.1), if_neg (fun z => q2 z.2.1)]
      exact ⟨rfl, hR⟩
  · rw [if_neg q, if_neg q, if_neg (fun z => q z.1), if_neg (fun z => q z.1)]
    exact ⟨rfl, hR⟩
theorem st_send (hI : xI 42 ad) (hJ : xI 18 bd) {S M : xSt} (hR : Rel S M) (x1 x2 x3 : Int32) : PairI l dC dI cI cZ cS cG ad bd yX5_send wsX5_send ({ frames := 1, cells := 0, slots := 0, locals := 21 }) yX6_send wsX6_send ({ frames := 1, cells := 0, slots := 0, locals := 21 }) [.int x1, .int x2, .int x3] S M := by
  obtain ⟨a1, a2, a3, a4, C, Y, N, R, a5, a6, a7, a8, a9, a10⟩ := id hR
  have hN := a5N a5
  have hC := a5C a5
  have hY := a5Y a5
  refine ⟨_, _, c5_send hI S N hN.1 hN.2.2 C hC.1 hC.2.2 Y hY.1 hY.2.2 x1 x2 x3, c6_send hJ M N hN.2.1 hN.2.2 C hC.2.1 hC.2.2 Y hY.2.1 hY.2.2 x1 x2 x3, ?_⟩
  rintro r S' r' M' ⟨rfl, rfl⟩ ⟨rfl, rfl⟩
  rw [hN.1, hN.2.1, hC.1, hC.2.1, hY.1, hY.2.1]
  by_cases q0 : inR x1 (nI N) = true ∧ inR x2 (nI C) = true
  · by_cases q2 : inR x3 (nI Y) = true
    · obtain ⟨i, hi, rfl⟩ := inR_ex q0.1 (by omega)
      obtain ⟨j, hj, rfl⟩ := inR_ex q0.2 (by omega)
      obtain ⟨k, hk, rfl⟩ := inR_ex q2 (by omega)
      rw [if_pos q0, if_pos q0, if_pos q2, if_pos q2, nN_nI (by omega), (a7 i hi).2.1]
      by_cases q3 : M 6 i = nI j
      · rw [if_pos q3, if_pos q3.symm, if_neg (fun z => z.2.2.2 q3.symm), if_neg (fun z => z.2.2.2 q3)]
        exact ⟨rfl, hR⟩
      · rw [if_neg q3, if_neg (fun z => q3 z.symm), if_pos (show inR (nI i) (nI N) = true ∧ inR (nI j) (nI C) = true ∧ inR (nI k) (nI Y) = true ∧ ¬ nI j = M 6 i from ⟨q0.1, q0.2, q2, fun z => q3 z.symm⟩), if_pos (show inR (nI i) (nI N) = true ∧ inR (nI j) (nI C) = true ∧ inR (nI k) (nI Y) = true ∧ ¬ M 6 i = nI j from ⟨q0.1, q0.2, q2, q3⟩)]
        refine ⟨?_, ?_⟩
        · rcases a8 i hi with ⟨c1, c2, c3⟩ | ⟨f, c, d1, d2, d3, d4, d5, d6⟩
          · rw [c1, c2, if_neg (show ¬ ¬ (6 : Int32) ≤ 6 by decide), if_pos rfl]
          · rw [d3, d4, d5, d6, if_pos (six_le (by omega)), if_neg (nI_ne9 (by omega))]
        · refine ⟨a1, a2, a3.cg (fun k hk => (su_ne (by omega)).trans (su_ne (by omega))) rfl rfl, a4.cg (fun k hk => (su_ne (by omega)).trans (su_ne (by omega))) rfl, C, Y, N, R, a5.cg rfl rfl rfl rfl, a6.cg (fun k hk => (su_ne (by omega)).trans (su_ne (by omega))) rfl, a7.cg rfl rfl rfl rfl rfl rfl rfl rfl, ?_, ?_, a10.cg rfl rfl rfl rfl rfl rfl rfl rfl⟩
          · intro s hs
            show (upd (S 34) i (nI k) s = 6 ∧ upd (M 9) i (nI j) s = -9 ∧ upd (M 10) i (nI k) s = -9) ∨ ∃ f c, f < Y ∧ c < C ∧ upd (S 34) i (nI k) s = nI f ∧ upd (M 10) i (nI k) s = nI f ∧ upd (S 33) i (nI j) s = nI c ∧ upd (M 9) i (nI j) s = nI c
            by_cases e : s = i
            · subst e
              rw [upd_at, upd_at, upd_at, upd_at]
              exact Or.inr ⟨k, j, hk, hj, rfl, rfl, rfl, rfl⟩
            · rw [upd_off e, upd_off e, upd_off e, upd_off e]
              exact a8 s hs
          · intro s h1 h2
            rw [su_self, su_ne (by decide), upd_off (by omega)]
            exact a9 s h1 h2
    · rw [if_pos q0, if_pos q0, if_neg q2, if_neg q2, if_neg (fun z => q2 z.2.2.1), if_neg (fun z => q2 z.2.2.1)]
      exact ⟨rfl, hR⟩
  · rw [if_neg q0, if_neg q0, if_neg (fun z => q0 ⟨z.1, z.2.1⟩), if_neg (fun z => q0 ⟨z.1, z.2.1⟩)]
    exact ⟨rfl, hR⟩
theorem st_home (hI : xI 42 ad) (hJ : xI 18 bd) {S M : xSt} (hR : Rel S M) (x1 : Int32) : PairI l dC dI cI cZ cS cG ad bd yX5_home wsX5_home ({ frames := 1, cells := 0, slots := 0, locals := 21 }) yX6_home wsX6_home ({ frames := 1, cells := 0, slots := 0, locals := 21 }) [.int x1] S M := by
  obtain ⟨a1, a2, a3, a4, C, Y, N, R, a5, a6, a7, a8, a9, a10⟩ := id hR
  have hN := a5N a5
  have hY := a5Y a5
  have hC := a5C a5
  refine ⟨_, _, c5_home hI S N hN.1 hN.2.2 x1, c6_home hJ M N hN.2.1 hN.2.2 x1, ?_⟩
  rintro r S' r' M' ⟨rfl, rfl⟩ ⟨rfl, rfl⟩
  rw [hN.1, hN.2.1]
  by_cases q : inR x1 (nI N) = true
  · obtain ⟨j, hj, rfl⟩ := inR_ex q (by omega)
    rw [nN_nI (by omega), if_pos q, if_pos q, if_pos q]
    rcases a8 j hj with ⟨c1, c2, c3⟩ | ⟨f, c, d1, d2, d3, d4, d5, d6⟩
    · rw [c1, c2, if_neg (show ¬ ¬ (6 : Int32) ≤ 6 by decide), if_pos rfl, if_neg (fun z => z.2 (by decide))]
      rw [show su M 9 j (-9) = M from su_as c2, show su M 10 j (-9) = M from su_as c3]
      exact ⟨rfl, hR⟩
    · rw [d3, d6, if_pos (six_le (by omega)), if_neg (nI_ne9 (by omega)), if_pos ⟨q, six_le (by omega)⟩]
      refine ⟨rfl, a1, a2, a3.cg (fun k hk => su_ne (by omega)) rfl rfl, a4.cg (fun k hk => su_ne (by omega)) rfl, C, Y, N, R, a5.cg rfl rfl rfl rfl, a6.cg (fun k hk => su_ne (by omega)) rfl, a7.cg rfl rfl rfl rfl rfl rfl rfl rfl, ?_, ?_, a10.cg rfl rfl rfl rfl rfl rfl rfl rfl⟩
      · intro s hs
        show (upd (S 34) j 6 s = 6 ∧ upd (M 9) j (-9) s = -9 ∧ upd (M 10) j (-9) s = -9) ∨ ∃ f c, f < Y ∧ c < C ∧ upd (S 34) j 6 s = nI f ∧ upd (M 10) j (-9) s = nI f ∧ S 33 s = nI c ∧ upd (M 9) j (-9) s = nI c
        by_cases e : s = j
        · subst e
          rw [upd_at, upd_at, upd_at]
          exact Or.inl ⟨rfl, rfl, rfl⟩
        · rw [upd_off e, upd_off e, upd_off e]
          exact a8 s hs
      · intro s h1 h2
        rw [su_self, upd_off (by omega)]
        exact a9 s h1 h2
  · rw [if_neg q, if_neg q, if_neg (fun z => q z.1), if_neg q]
    exact ⟨rfl, hR⟩
end ST
