section ST
variable {l : Launch} {dC : Nat → ClassId} {dI : Nat → Nat → Nat} {cI cZ cS cG : ClassId} {ad bd : Nat → Nat}
def cntS (sb : Nat → Bool) : Nat → Nat → Nat → Nat
  | 0, _, d => d
  | n + 1, i, d => if sb i = true then cntS sb n (i + 1) (d + 1) else cntS sb n (i + 1) d
theorem oddL_eq {sb br : Nat → Bool} : ∀ (n i u d : Nat), oddL sb br n i (nI u) (nI d) = (nI (oddM sb br n i u), nI (cntS sb n i d))
  | 0, _, _, _ => rfl
  | n + 1, i, u, d => by
    rw [oddL, oddM, cntS]
    by_cases q : sb i = true
    · rw [if_pos q, if_pos q, if_pos q, nI_1]
      by_cases q2 : br i = true
      · rw [if_pos q2, if_pos q2, nI_1]
        exact oddL_eq n (i + 1) (u + 1) (d + 1)
      · rw [if_neg q2, if_neg q2, Int32.add_zero]
        exact oddL_eq n (i + 1) u (d + 1)
    · rw [if_neg q, if_neg q, if_neg q]
      exact oddL_eq n (i + 1) u d
theorem oddM_cnt {sb br : Nat → Bool} : ∀ (n i u d : Nat), u ≤ d → oddM sb br n i u ≤ cntS sb n i d
  | 0, _, _, _, h => h
  | n + 1, i, u, d, h => by
    rw [oddM, cntS]
    by_cases q : sb i = true
    · rw [if_pos q, if_pos q]
      refine oddM_cnt n (i + 1) _ _ ?_
      split <;> omega
    · rw [if_neg q, if_neg q]
      exact oddM_cnt n (i + 1) u d h
theorem oddM_cong {sb sb' br br' : Nat → Bool} : ∀ (n i u : Nat), (∀ j, i ≤ j → j < i + n → sb j = sb' j ∧ br j = br' j) → oddM sb br n i u = oddM sb' br' n i u
  | 0, _, _, _ => rfl
  | n + 1, i, u, h => by
    rw [oddM, oddM, (h i (Nat.le_refl i) (by omega)).1, (h i (Nat.le_refl i) (by omega)).2, oddM_cong n (i + 1) _ (fun j h1 h2 => h j (by omega) (by omega)), oddM_cong n (i + 1) u (fun j h1 h2 => h j (by omega) (by omega))]
theorem sub_cnt : ∀ N, N < 6 → ∀ k, k < 2 ^ N → cntS (fun i => decide (nI i &&& nI k = nI i)) (2 ^ N) 0 0 = pw k := by decide +kernel
theorem sub_iff : ∀ i, i < 32 → ∀ k, k < 32 → decide (nI i &&& nI k = nI i) = decide (nI i &&& (nI k ^^^ (-1)) = 0) := by decide +kernel
theorem pw_lt : ∀ k, k < 32 → (pcL 6 k 0).toNatClampNeg < 6 := by decide +kernel
theorem hlv_ok : ∀ u, u < 33 → ∀ j, j < 6 → u ≤ 2 ^ j → hlv 5 (nI u) (nI (2 ^ j)) = (nI (u / euc 64 u (2 ^ j)), nI (2 ^ j / euc 64 u (2 ^ j))) := by decide +kernel
theorem i64_ok : ∀ a, a < 33 → (nI a).toInt64 = lN a := by decide +kernel
theorem relQ_pg {S M : xSt} {C Y N : Nat} (hD : RelD S M C Y N) (hN : RelN S M C N) (hA : RelA S M C Y N) (i : Nat) {y : Nat} (hy : y < Y) : RelQ S (sr (oA M N) 5 (oK M N i)) N 32 (nI i) y := by
  intro s hs
  obtain ⟨b1, b2, b3, b4, b5, b6⟩ := relQ_now hD hN hA hy (M' := sr M 13 (askF M N)) rfl rfl rfl rfl rfl s hs
  have hl := hD.le
  refine ⟨b1, b2, b3, ?_, ?_, b6⟩
  · show kpg (nI i) (S 18) s = oK M N i s
    rw [oK, fil_in hs]
    unfold kpg
    rw [(hN s hs).1]
  · show oK M N i s = 0 ∨ oK M N i s = 1 ∨ oK M N i s = 2
    rw [oK, fil_in hs]
    unfold kpg
    split
    · exact Or.inr (Or.inr rfl)
    · exact b5
theorem st_odds (hI : xI 42 ad) (hJ : xI 18 bd) {S M : xSt} (hR : Rel S M) (x1 x2 : Int32) : PairL l dC dI cI cZ cS cG ad bd yX5_odds wsX5_odds ({ frames := 6, cells := 0, slots := 0, locals := 146 }) yX6_odds wsX6_odds ({ frames := 5, cells := 0, slots := 0, locals := 114 }) [.int x1, .int x2] S M := by
  obtain ⟨a1, a2, a3, a4, C, Y, N, R, a5, a6, a7, a8, a9, a10⟩ := id hR
  have hN := a5N a5
  have hC := a5C a5
  have hY := a5Y a5
  have hz := a5z a5
  by_cases h0 : N = 0 ∨ ¬ inR x1 (nI Y) = true ∨ ¬ wit x2 0 1 = true
  · refine ⟨_, _, c5_odds_f hI S x1 x2 ?_, c6_odds_f hJ M x1 x2 ?_, ?_⟩
    · rcases h0 with h | h | h
      · exact Or.inl (hz.1.mpr h)
      · exact Or.inr (Or.inl (by rw [hY.1]; exact h))
      · exact Or.inr (Or.inr (fun z => h (wit01.mpr z)))
    · rcases h0 with h | h | h
      · exact Or.inl (hz.2.1.mpr h)
      · exact Or.inr (Or.inl (by rw [hY.2.1]; exact h))
      · exact Or.inr (Or.inr h)
    · rintro r S' r' M' ⟨rfl, e2⟩ ⟨rfl, e4⟩
      subst e2; subst e4
      exact ⟨rfl, hR⟩
  · have n0 : ¬ N = 0 := fun z => h0 (Or.inl z)
    have q : inR x1 (nI Y) = true := by
      by_cases z : inR x1 (nI Y) = true
      · exact z
      · exact absurd (Or.inr (Or.inl z)) h0
    have w : wit x2 0 1 = true := by
      by_cases z : wit x2 0 1 = true
      · exact z
      · exact absurd (Or.inr (Or.inr z)) h0
    have hC0 : 0 < C := by have := hz.2.2; omega
    obtain ⟨y, hy, rfl⟩ := inR_ex q (by omega)
    have h2 := two_le hN.2.2
    obtain ⟨k, hk, ek⟩ := mSent_ex M hN.2.2
    have hk32 : k < 32 := by omega
    have ec : cSet S 32 = nI k := (sent_eq a5 a8 a9).trans ek
    have eb : ∀ i, cBrk S N C Y 32 (nI i) = oBm M N C Y i := fun i => brk_eq hC.2.2 (a6.cg (fun _ _ => rfl) rfl) (fun y hy => relQ_pg a5 a7 a8 i hy)
    refine ⟨_, _, c5_odds_t hI S N hN.1 hN.2.2 (by omega) C hC.1 hC.2.2 Y hY.1 hY.2.2 y hy x2 (wit01.mp w), c6_odds_t hJ M N hN.2.1 hN.2.2 C hC.2.1 hC.2.2 hC0 Y hY.2.1 hY.2.2 y hy x2 w, ?_⟩
    rintro r S' r' M' ⟨rfl, e2⟩ ⟨rfl, e4⟩
    refine ⟨?_, ?_⟩
    · rw [ek, ec, nN_nI (by omega)]
      simp only [eb]
      generalize hbr : (fun i => decide (¬ oBm M N C Y i = -9 ∧ ¬ nI y < oBm M N C Y i)) = br
      have eo : oddM (fun i => decide (nI i &&& (nI k ^^^ (-1)) = 0)) br (2 ^ N) 0 0 = oddM (fun i => decide (nI i &&& nI k = nI i)) br (2 ^ N) 0 0 := oddM_cong (2 ^ N) 0 0 (fun j _ hj => ⟨(sub_iff j (by omega) k hk32).symm, rfl⟩)
      have el := oddL_eq (sb := fun i => decide (nI i &&& nI k = nI i)) (br := br) (2 ^ N) 0 0 0
      have hu := oddM_cnt (sb := fun i => decide (nI i &&& nI k = nI i)) (br := br) (2 ^ N) 0 0 0 (Nat.le_refl 0)
      rw [sub_cnt N (by omega) k hk] at el hu
      rw [eo, show (0 : Int32) = nI 0 from rfl, el]
      generalize oddM (fun i => decide (nI i &&& nI k = nI i)) br (2 ^ N) 0 0 = u at hu ⊢
      have hp := pw_ok k hk32
      have hh := hlv_ok u (by omega) ((pcL 6 k 0).toNatClampNeg) (pw_lt k hk32) hu
      have hh : hlv 5 (nI u) (nI (pw k)) = (nI (u / euc 64 u (pw k)), nI (pw k / euc 64 u (pw k))) := hh
      show (if x2 = nI 0 then (hlv 5 (nI u) (nI (pw k))).1 else (hlv 5 (nI u) (nI (pw k))).2).toInt64 = _
      rw [hh]
      have g1 := Nat.div_le_self u (euc 64 u (pw k))
      have g2 := Nat.div_le_self (pw k) (euc 64 u (pw k))
      by_cases z : x2 = nI 0
      · rw [if_pos z, if_pos z]
        exact i64_ok _ (by omega)
      · rw [if_neg z, if_neg z]
        exact i64_ok _ (by omega)
    · subst e2; subst e4
      exact hR.keep hR.1 hR.2.1 (fun _ _ _ _ _ _ _ _ => rfl) (fun _ _ _ _ _ _ _ => rfl) (fun k _ _ _ h13 h17 => (sr_ne h17).trans (sr_ne h13))
end ST
