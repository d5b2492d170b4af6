section ST
variable {l : Launch} {dC : Nat → ClassId} {dI : Nat → Nat → Nat} {cI cZ cS cG : ClassId} {ad bd : Nat → Nat}
theorem a5N {S M : xSt} {C Y N : Nat} (h : RelD S M C Y N) : S 12 2 = nI N ∧ M 0 7 = nI N ∧ N ≤ 5 := ⟨h.2.2.1, h.2.2.2.2.2.1, h.le.2.2⟩
theorem a5C {S M : xSt} {C Y N : Nat} (h : RelD S M C Y N) : S 12 0 = nI C ∧ M 0 5 = nI C ∧ C ≤ 4 := ⟨h.1, h.2.2.2.1, h.le.1⟩
theorem a5Y {S M : xSt} {C Y N : Nat} (h : RelD S M C Y N) : S 12 1 = nI Y ∧ M 0 6 = nI Y ∧ Y ≤ 6 := ⟨h.2.1, h.2.2.2.2.1, h.le.2.1⟩
/-- no TREATY yet, on both sides -/
theorem a5z {S M : xSt} {C Y N : Nat} (h : RelD S M C Y N) : (S 12 2 ≤ 0 ↔ N = 0) ∧ (M 0 5 = 0 ↔ N = 0) ∧ (N = 0 ↔ C = 0) := by
  have hN := a5N h
  have hC := a5C h
  refine ⟨?_, ?_, ?_⟩
  · rw [hN.1]
    exact ⟨fun z => nI_le0 z (by omega), fun z => by rw [z]; exact nI_le (a := 0) (b := 0) (by omega) (by omega)⟩
  · rw [hC.2.1, show (0 : Int32) = nI 0 from rfl, nI_eq (by omega) (by omega)]
    rcases h.2.2.2.2.2.2 with q | q <;> omega
  · rcases h.2.2.2.2.2.2 with q | q <;> omega
theorem six_le {f : Nat} (h : f < 6) : ¬ (6 : Int32) ≤ nI f := nI_ge (b := 6) h (by decide)
theorem st_trace (hI : xI 42 ad) (hJ : xI 18 bd) {S M : xSt} (hR : Rel S M) : PairI l dC dI cI cZ cS cG ad bd yX5_trace wsX5_trace ({ frames := 0, cells := 0, slots := 0, locals := 0 }) yX6_trace wsX6_trace ({ frames := 0, cells := 0, slots := 0, locals := 0 }) [] S M := by
  exact ⟨_, _, c5_trace hI S, c6_trace hJ M, by rintro r S' r' M' ⟨rfl, rfl⟩ ⟨rfl, rfl⟩; exact ⟨hR.2.1, hR⟩⟩
theorem st_fault (hI : xI 42 ad) (hJ : xI 18 bd) {S M : xSt} (hR : Rel S M) : PairI l dC dI cI cZ cS cG ad bd yX5_fault wsX5_fault ({ frames := 0, cells := 0, slots := 0, locals := 0 }) yX6_fault wsX6_fault ({ frames := 0, cells := 0, slots := 0, locals := 0 }) [] S M := by
  exact ⟨_, _, c5_fault hI S, c6_fault hJ M, by rintro r S' r' M' ⟨rfl, rfl⟩ ⟨rfl, rfl⟩; exact ⟨hR.1, hR⟩⟩
theorem st_ofSon (hI : xI 42 ad) (hJ : xI 18 bd) {S M : xSt} (hR : Rel S M) (x1 x2 : Int32) : PairI l dC dI cI cZ cS cG ad bd yX5_ofSon wsX5_ofSon ({ frames := 1, cells := 0, slots := 0, locals := 21 }) yX6_ofSon wsX6_ofSon ({ frames := 1, cells := 0, slots := 0, locals := 21 }) [.int x1, .int x2] S M := by
  obtain ⟨a1, a2, a3, a4, C, Y, N, R, a5, a6, a7, a8, a9, a10⟩ := id hR
  have hN := a5N a5
  have hY := a5Y a5
  refine ⟨_, _, c5_ofSon hI S N hN.1 hN.2.2 x1 x2, c6_ofSon hJ M N hN.2.1 hN.2.2 x1 x2, ?_⟩
  rintro r S' r' M' ⟨rfl, rfl⟩ ⟨rfl, rfl⟩
  refine ⟨?_, hR⟩
  rw [hN.1, hN.2.1]
  by_cases q : inR x1 (nI N) = true
  · obtain ⟨j, hj, rfl⟩ := inR_ex q (by omega)
    rw [if_pos q, if_pos q, nN_nI (by omega)]
    obtain ⟨b1, b2, b3, b4, b5, b6⟩ := a7 j hj
    rw [b1, b2, b3, b4]
    rcases a8 j hj with ⟨c1, c2, c3⟩ | ⟨f, c, d1, d2, d3, d4, d5, d6⟩
    · rw [c1, c2, c3, if_neg (show ¬ ¬ (6 : Int32) ≤ 6 by decide), if_neg (show ¬ ¬ (6 : Int32) ≤ 6 by decide)]
    · rw [d3, d4, d5, d6, if_pos (six_le (by omega)), if_pos (six_le (by omega))]
  · rw [if_neg q, if_neg q]
theorem st_gain (hI : xI 42 ad) (hJ : xI 18 bd) {S M : xSt} (hR : Rel S M) (x1 x2 : Int32) : PairI l dC dI cI cZ cS cG ad bd yX5_gain wsX5_gain ({ frames := 1, cells := 0, slots := 0, locals := 21 }) yX6_gain wsX6_gain ({ frames := 1, cells := 0, slots := 0, locals := 21 }) [.int x1, .int x2] S M := by
  obtain ⟨a1, a2, a3, a4, C, Y, N, R, a5, a6, a7, a8, a9, a10⟩ := id hR
  have hC := a5C a5
  have hY := a5Y a5
  refine ⟨_, _, c5_gain hI S C hC.1 hC.2.2 Y hY.1 hY.2.2 x1 x2, c6_gain hJ M C hC.2.1 hC.2.2 Y hY.2.1 hY.2.2 x1 x2, ?_⟩
  rintro r S' r' M' ⟨rfl, rfl⟩ ⟨rfl, rfl⟩
  refine ⟨?_, hR⟩
  rw [hC.1, hC.2.1, hY.1, hY.2.1]
  by_cases q : inR x1 (nI C) = true
  · by_cases q2 : inR x2 (nI Y) = true
    · obtain ⟨j, hj, rfl⟩ := inR_ex q (by omega)
      obtain ⟨k, hk, rfl⟩ := inR_ex q2 (by omega)
      rw [if_pos q, if_pos q, if_pos q2, if_pos q2, nN_nI (by omega), nN_nI (by omega)]
      exact a6 j k hj hk
    · rw [if_pos q, if_pos q, if_neg q2, if_neg q2]
  · rw [if_neg q, if_neg q]
theorem st_stake (hI : xI 42 ad) (hJ : xI 18 bd) {S M : xSt} (hR : Rel S M) (x1 x2 : Int32) : PairI l dC dI cI cZ cS cG ad bd yX5_stake wsX5_stake ({ frames := 1, cells := 0, slots := 0, locals := 25 }) yX6_stake wsX6_stake ({ frames := 1, cells := 0, slots := 0, locals := 24 }) [.int x1, .int x2] S M := by
  obtain ⟨a1, a2, a3, a4, C, Y, N, R, a5, a6, a7, a8, a9, a10⟩ := id hR
  have hN := a5N a5
  have hY := a5Y a5
  refine ⟨_, _, c5_stake hI S N hN.1 hN.2.2 x1 x2, c6_stake hJ M N hN.2.1 hN.2.2 x1 x2, ?_⟩
  rintro r S' r' M' ⟨rfl, rfl⟩ ⟨rfl, rfl⟩
  refine ⟨?_, hR⟩
  rw [hN.1, hN.2.1, hY.1, hY.2.1]
  by_cases q : inR x1 (nI N) = true
  · by_cases q2 : inR x2 (nI Y) = true
    · obtain ⟨j, hj, rfl⟩ := inR_ex q (by omega)
      obtain ⟨k, hk, rfl⟩ := inR_ex q2 (by omega)
      rw [if_pos q, if_pos q, if_pos q2, if_pos q2, nN_nI (by omega)]
      obtain ⟨b1, b2, b3, b4, b5, b6⟩ := a7 j hj
      rcases a8 j hj with ⟨c1, c2, c3⟩ | ⟨f, c, d1, d2, d3, d4, d5, d6⟩
      · rw [c1, c3, if_pos rfl, if_neg (fun z => z (nI_lt (b := 6) (show k < 6 by omega) (by decide)))]
      · rw [d3, d4, if_neg (nI_ne9 (by omega)), b1, b3, b4, stake_eq b5]
        by_cases z : nI f ≤ nI k
        · rw [if_pos z, if_pos (Int32.not_lt.mpr z)]
        · rw [if_neg z, if_neg (fun y => z (Int32.not_lt.mp y))]
    · rw [if_pos q, if_pos q, if_neg q2, if_neg q2]
  · rw [if_neg q, if_neg q]
/-- the set of those SENT -/
theorem sent_eq {S M : xSt} {C Y N : Nat} (hD : RelD S M C Y N) (hA : RelA S M C Y N) (h9 : ∀ s, N ≤ s → s < 5 → S 34 s = 6) : cSet S 32 = mSent M N := by
  have hl := hD.le
  have e1 : ∀ (n i : Nat) (a : Int32), i + n = 5 → N ≤ i → orL (fun s => if ¬ 6 ≤ S 34 s then (1 : Int32) <<< (nI s &&& 31) else 0) n i a = a := by
    intro n
    induction n with
    | zero => intro i a _ _; rfl
    | succ n ih =>
      intro i a h1 h2
      rw [orL, h9 i h2 (by omega), if_neg (show ¬ ¬ (6 : Int32) ≤ 6 by decide), ih (i + 1) _ (by omega) (by omega)]
      exact Int32.or_zero
  have e2 : ∀ (n i : Nat) (a : Int32), i + n = N → orL (fun s => if ¬ 6 ≤ S 34 s then (1 : Int32) <<< (nI s &&& 31) else 0) (n + (5 - N)) i a = orL (fun s => if M 9 s = -9 then 0 else (1 : Int32) <<< (nI s &&& 31)) n i a := by
    intro n
    induction n with
    | zero =>
      intro i a h1
      rw [Nat.zero_add]
      exact e1 (5 - N) i a (by omega) (by omega)
    | succ n ih =>
      intro i a h1
      rw [show n + 1 + (5 - N) = n + (5 - N) + 1 by omega, orL, orL, ih (i + 1) _ (by omega)]
      congr 1
      rcases hA i (by omega) with ⟨c1, c2, c3⟩ | ⟨f, c, d1, d2, d3, d4, d5, d6⟩
      · simp [c1, c2]
      · rw [d3, d6, if_pos (six_le (by omega)), if_neg (nI_ne9 (by omega))]
  have := e2 N 0 0 (by omega)
  rw [show N + (5 - N) = 5 by omega] at this
  exact this
theorem st_many (hI : xI 42 ad) (hJ : xI 18 bd) {S M : xSt} (hR : Rel S M) (x1 : Int32) : PairI l dC dI cI cZ cS cG ad bd yX5_many wsX5_many ({ frames := 2, cells := 0, slots := 0, locals := 43 }) yX6_many wsX6_many ({ frames := 1, cells := 0, slots := 0, locals := 22 }) [.int x1] S M := by
  obtain ⟨a1, a2, a3, a4, C, Y, N, R, a5, a6, a7, a8, a9, a10⟩ := id hR
  have hN := a5N a5
  obtain ⟨k, hk, ek⟩ := mSent_ex M hN.2.2
  have hk : k < 32 := Nat.lt_of_lt_of_le hk (Nat.pow_le_pow_right (n := 2) (by decide) hN.2.2)
  have e : bcI (cSet S 32) = pcM (mSent M N) := by
    rw [sent_eq a5 a8 a9, ek, bcI_pcL k hk, pcM, nN_nI (by omega)]
  refine ⟨_, _, c5_many hI S x1, c6_many hJ M N hN.2.1 hN.2.2 x1, ?_⟩
  rintro r S' r' M' ⟨rfl, rfl⟩ ⟨rfl, rfl⟩
  refine ⟨?_, hR⟩
  rw [e, a5.1, a5.2.1, a5.2.2.1, a5.2.2.2.1, a5.2.2.2.2.1, a5.2.2.2.2.2.1, a10.1, a10.2.1]
end ST
