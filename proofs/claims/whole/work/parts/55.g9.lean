section ST
variable {l : Launch} {dC : Nat → ClassId} {dI : Nat → Nat → Nat} {cI cZ cS cG : ClassId} {ad bd : Nat → Nat}
/-! ===== a TEXT on both sides ===== -/
def vph (C Y t : Nat) (p : Nat × Nat × Nat) : Prop := (p = (0, 0, 0) ∧ t = 0) ∨ (p = (1, 0, 0) ∧ t = 1) ∨ (p = (2, 0, 0) ∧ t = 2) ∨ (∃ c, c < C ∧ p = (3, c, 0) ∧ t = 3 + c * (Y + 1)) ∨ (∃ c y, c < C ∧ y < Y ∧ p = (4, c, y) ∧ t = 4 + c * (Y + 1) + y) ∨ (∃ s j, j ≤ 4 ∧ p = (5, s, j) ∧ t = 3 + C * (Y + 1) + 5 * s + j)
theorem vph_nx {C Y t : Nat} {p : Nat × Nat × Nat} (hC : 1 ≤ C) (hY : 1 ≤ Y) (h : vph C Y t p) : vph C Y (t + 1) (nxt C Y p) := by
  rcases h with ⟨rfl, rfl⟩ | ⟨rfl, rfl⟩ | ⟨rfl, rfl⟩ | ⟨c, hc, rfl, rfl⟩ | ⟨c, y, hc, hy, rfl, rfl⟩ | ⟨s, j, hj, rfl, rfl⟩
  · exact Or.inr (Or.inl ⟨rfl, rfl⟩)
  · exact Or.inr (Or.inr (Or.inl ⟨rfl, rfl⟩))
  · exact Or.inr (Or.inr (Or.inr (Or.inl ⟨0, by omega, rfl, by omega⟩)))
  · exact Or.inr (Or.inr (Or.inr (Or.inr (Or.inl ⟨c, 0, hc, by omega, rfl, by omega⟩))))
  · by_cases q : y + 1 < Y
    · rw [nx4 q]
      exact Or.inr (Or.inr (Or.inr (Or.inr (Or.inl ⟨c, y + 1, hc, q, rfl, by omega⟩))))
    · have e := pos_nx c Y
      by_cases q2 : c + 1 < C
      · rw [nx4c q q2]
        exact Or.inr (Or.inr (Or.inr (Or.inl ⟨c + 1, q2, rfl, by omega⟩)))
      · rw [nx4s q q2]
        obtain rfl : C = c + 1 := by omega
        exact Or.inr (Or.inr (Or.inr (Or.inr (Or.inr ⟨0, 0, by omega, rfl, by omega⟩))))
  · by_cases q : j < 4
    · rw [nx5 q]
      exact Or.inr (Or.inr (Or.inr (Or.inr (Or.inr ⟨s, j + 1, by omega, rfl, by omega⟩))))
    · obtain rfl : j = 4 := by omega
      rw [nx5s]
      exact Or.inr (Or.inr (Or.inr (Or.inr (Or.inr ⟨s + 1, 0, by omega, rfl, by omega⟩))))
theorem vph_at {cd : Nat → Int32} (hC : 1 ≤ cC cd) (hY : 1 ≤ cY cd) : ∀ t, vph (cC cd) (cY cd) t (ph cd t)
  | 0 => Or.inl ⟨rfl, rfl⟩
  | t + 1 => by
    rw [ph]
    exact vph_nx hC hY (vph_at hC hY t)
theorem good_len {cd : Nat → Int32} {q N : Nat} (hC : 1 ≤ cC cd) (hY : 1 ≤ cY cd) (h : tGood cd q N) : q = snP (cC cd) (cY cd) N := by
  have h1 := vph_at hC hY q
  rw [h.2.1] at h1
  rcases h1 with ⟨e, -⟩ | ⟨e, -⟩ | ⟨e, -⟩ | ⟨c, -, e, -⟩ | ⟨c, y, -, -, e, -⟩ | ⟨s, j, -, e, e2⟩
  · cases e
  · cases e
  · cases e
  · cases e
  · cases e
  · cases e
    exact e2
theorem ph_1 (cd : Nat → Int32) : ph cd 1 = (1, 0, 0) := rfl
theorem ph_2 (cd : Nat → Int32) : ph cd 2 = (2, 0, 0) := rfl
section CG
variable {cd ce : Nat → Int32} {q : Nat}
theorem cCY_cg (h : ∀ u, u < q → cd u = ce u) (h3 : 3 ≤ q) : cC cd = cC ce ∧ cY cd = cY ce := ⟨by unfold cC; rw [h 1 (by omega)], by unfold cY; rw [h 2 (by omega)]⟩
theorem ph_cg (h : ∀ u, u < q → cd u = ce u) : ∀ u, u ≤ q → ph cd u = ph ce u := by
  by_cases h3 : 3 ≤ q
  · obtain ⟨e1, e2⟩ := cCY_cg h h3
    intro u _
    induction u with
    | zero => rfl
    | succ u ih => rw [ph, ph, ih (by omega), e1, e2]
  · intro u hu
    rcases (show u = 0 ∨ u = 1 ∨ u = 2 by omega) with rfl | rfl | rfl
    · rfl
    · rw [ph_1, ph_1]
    · rw [ph_2, ph_2]
theorem ok_cg (h : ∀ u, u < q → cd u = ce u) {u : Nat} (hu : u < q) : okp (cC cd) (ph cd u) (cd u) = okp (cC ce) (ph ce u) (ce u) := by
  rw [ph_cg h u (by omega), h u hu]
  by_cases h3 : 3 ≤ q
  · rw [(cCY_cg h h3).1]
  · rcases (show u = 0 ∨ u = 1 by omega) with rfl | rfl
    · rw [show ph ce 0 = (0, 0, 0) from rfl, okp0, okp0]
    · rw [ph_1, okp1, okp1]
theorem pfx_cg (h : ∀ u, u < q → cd u = ce u) {t : Nat} (g : tPfx cd q t) : tPfx ce q t := fun u hu => by
  obtain ⟨g1, g2⟩ := g u hu
  exact ⟨g1, by rw [← ok_cg h g1]; exact g2⟩
theorem bad_cg (h : ∀ u, u < q → cd u = ce u) {t : Nat} (g : tBad cd q t) : tBad ce q t := by
  have ht := g.1.le
  refine ⟨pfx_cg h g.1, fun z => g.2.1 ⟨z.1, by rw [ok_cg h z.1]; exact z.2⟩, fun z => g.2.2 ⟨z.1, ?_⟩⟩
  obtain ⟨s, h1, h2⟩ := z.2
  exact ⟨s, h1, by rw [ph_cg h t ht]; exact h2⟩
theorem good_cg (h : ∀ u, u < q → cd u = ce u) {N : Nat} (g : tGood cd q N) : tGood ce q N := ⟨pfx_cg h g.1, by rw [← ph_cg h q (Nat.le_refl q)]; exact g.2.1, g.2.2⟩
end CG
theorem gn_lt {C Y c y s : Nat} (hc : c < C) (hy : y < Y) (hs : 1 ≤ s) : gnP Y c y < snP C Y s := by
  unfold gnP snP
  have : (c + 1) * (Y + 1) ≤ C * (Y + 1) := Nat.mul_le_mul_right _ hc
  have e := pos_nx c Y
  omega
theorem kdv_ok (x : Int32) : kdv x = 0 ∨ kdv x = 1 ∨ kdv x = 2 := by
  unfold kdv
  split
  · exact Or.inl rfl
  · split
    · exact Or.inr (Or.inl rfl)
    · exact Or.inr (Or.inr rfl)
/-- a TREATY taken on both sides -/
theorem Rel.taken {S M U V M' : xSt} {cd ce : Nat → Int32} {q N N' : Nat} {w : Int32} (hR : Rel S M) (hcd : ∀ u, u < q → cd u = ce u) (h1 : trOk cd q N (su S 0 8 0) U) (h2 : trOkM ce q N' (su (su M 0 0 0) 0 15 w) V) (h3 : takM V N' M') : N = N' ∧ Rel (bgA U) M' := by
  obtain ⟨a1, a2, a3, a4, C, Y, N0, R, a5, a6, a7, a8, a9, a10⟩ := hR
  obtain ⟨g1, hb1, c0, cy0, cn0, cg, cs, cf⟩ := h1
  obtain ⟨g2, hb2, v16, v17, v18, vg, vs, vf⟩ := h2
  obtain ⟨t5, t6, t7, t22, tj, t4, tr, tk⟩ := h3
  obtain rfl : N = N' := good_good (good_cg hcd g1) g2
  have hq := good_len (by omega) (by omega) g1
  have hs1 : 1 ≤ N := g1.2.2.1
  have hs5 : N ≤ 5 := g1.2.2.2
  have h3q : 3 ≤ q := by rw [hq]; unfold snP; omega
  obtain ⟨eC, eY⟩ := cCY_cg hcd h3q
  rw [← eC, ← eY] at vs vg
  rw [← eC] at v16
  rw [← eY] at v17
  have dge : ∀ t, t < q → dg cd t = dg ce t := fun t ht => by unfold dg; rw [hcd t ht]
  have eS : ∀ k, k ≠ 34 → k ≠ 38 → bgA U k = U (sw k) := fun k h1 h2 => by rw [bgA, su_ne h2, sr_ne h1]; rfl
  have uS : ∀ k, k ≠ 10 → k ≠ 11 → ¬ (12 ≤ k ∧ k ≤ 31) → k ≠ 34 → k ≠ 38 → bgA U k = (su S 0 8 0) k := fun k h1 h2 h3 h4 h5 => by
    rw [eS k h4 h5, show sw k = k from (if_neg (by omega)).trans (if_neg (by omega))]
    exact cf k h1 h2 (by omega)
  have mM : ∀ k, k ≠ 0 → k ≠ 11 → k ≠ 12 → ¬ (4 ≤ k ∧ k ≤ 10) → M' k = M k := fun k h1 h2 h3 h4 => by
    rw [tk k h1 h4, vf.1 k h1 h2 h3, su_ne h1, su_ne h1]
  refine ⟨rfl, ?_, ?_, a3.cg (fun k hk => (uS _ (by omega) (by omega) (by omega) (by omega) (by omega)).trans (su_ne (by omega))) (mM 1 (by decide) (by decide) (by decide) (by decide)) (mM 2 (by decide) (by decide) (by decide) (by decide)), a4.cg (fun k hk => (uS _ (by omega) (by omega) (by omega) (by omega) (by omega)).trans (su_ne (by omega))) (mM 3 (by decide) (by decide) (by decide) (by decide)), cC cd, cY cd, N, 0, ⟨?_, ?_, ?_, t5.trans v16, t6.trans v17, t7, Or.inr ⟨hb1.1, hb1.2.1, hb1.2.2.1, hb1.2.2.2, hs1, hs5⟩⟩, ?_, ?_, ?_, ?_, rfl, t22, by omega, fun k hk => absurd hk (Nat.not_lt_zero k)⟩
  · rw [uS 0 (by decide) (by decide) (by decide) (by decide) (by decide), tj 0 (by decide) (by decide) (by decide) (by decide), vf.2 0 (by decide) (by decide) (by decide) (by decide)]
    rfl
  · rw [uS 0 (by decide) (by decide) (by decide) (by decide) (by decide), tj 1 (by decide) (by decide) (by decide) (by decide), vf.2 1 (by decide) (by decide) (by decide) (by decide)]
    exact a2
  · exact c0
  · exact cy0
  · exact cn0
  · intro c y hc hy
    rw [eS (14 + c) (by omega) (by omega), (sw_g (show c < 4 by omega)).1, show U (24 + c) y = _ from (cg c y hc hy).1, t4 (6 * c + y) (by omega), (vg c y hc hy).1, dge _ (by rw [hq]; exact gn_lt hc hy hs1)]
  · intro s hs
    obtain ⟨b1, b2, b3, b4, b5, b6, b7⟩ := cs s hs
    obtain ⟨e1, e2, e3, e4, e5, e6, e7⟩ := vs s hs
    obtain ⟨f1, f2, f3, f4, f5, f6⟩ := tr s hs
    have hp : ∀ i, i ≤ 4 → snP (cC cd) (cY cd) s + i < q := fun i hi => by rw [hq]; unfold snP; omega
    rw [f1, f2, f3, f4, show V 12 (4 * s) = _ from e1, show V 12 (4 * s + 1) = _ from e2, show V 12 (4 * s + 2) = _ from e3, show V 12 (4 * s + 3) = _ from e4, ← hcd _ (hp 1 (by omega)), ← dge _ (hp 2 (by omega)), ← dge _ (hp 3 (by omega)), ← dge _ (hp 4 (by omega))]
    exact ⟨b1, b2, b3, b4, kdv_ok _, _, b5, rfl⟩
  · intro s hs
    obtain ⟨f1, f2, f3, f4, f5, f6⟩ := tr s hs
    refine Or.inl ⟨?_, f5, f6⟩
    show frG 0 (U 34) s = 6
    have : frG 0 (U 34) s = (if (0 : Int32) >>> (nI s &&& 31) &&& 1 = 1 then 0 else 6) := fil_in (by omega)
    rw [this]
    exact if_neg ((by decide +kernel : ∀ s, s < 5 → ¬ (0 : Int32) >>> (nI s &&& 31) &&& 1 = 1) s (by omega))
  · intro s hs1 hs2
    show frG 0 (U 34) s = 6
    have : frG 0 (U 34) s = (if (0 : Int32) >>> (nI s &&& 31) &&& 1 = 1 then 0 else 6) := fil_in (by omega)
    rw [this]
    exact if_neg ((by decide +kernel : ∀ s, s < 5 → ¬ (0 : Int32) >>> (nI s &&& 31) &&& 1 = 1) s (by omega))
/-- treaty: a contract behind which the places may have changed -/
def PairT (l : Launch) (dC : Nat → ClassId) (dI : Nat → Nat → Nat) (cI cZ cS cG : ClassId) (ad bd : Nat → Nat) (As : List Value) (S M : xSt) : Prop :=
  ∃ (pc : Int32 → (Nat → Nat) × xSt → Prop) (pm : Int32 → xSt → Prop), Met l yX5_treaty wsX5_treaty ({ frames := 6, cells := 0, slots := 0, locals := 129 }) (xPc (dC, dI) vwCl (tyl cI cZ cS cG) (cLy cI cZ cS cG ad) 42 ad (.ref (ad 0) :: As) S) (xQt (dC, dI) vwCl cI cZ cS cG ad pc) 0 0 (xA 42 ad) ∧ xMi l yX6_treaty wsX6_treaty ({ frames := 4, cells := 0, slots := 0, locals := 91 }) (dC, dI) vwCl (tyl cI cZ cS cG) (mLy cI cZ bd) 18 bd (.ref (bd 0) :: As) M pm ∧ ∀ r u r' M', pc r u → pm r' M' → r = r' ∧ Rel u.2 M' ∧ (u.1 = ad ∨ u.1 = adS ad)
theorem st_treaty (hI : xI 42 ad) (hJ : xI 18 bd) {S M : xSt} (hR : Rel S M) (x1 x2 x3 x4 : Int32) : PairI l dC dI cI cZ cS cG ad bd yX5_treaty wsX5_treaty ({ frames := 6, cells := 0, slots := 0, locals := 129 }) yX6_treaty wsX6_treaty ({ frames := 4, cells := 0, slots := 0, locals := 91 }) [.int x1, .int x2, .int x3, .int x4] S M ∨ PairT l dC dI cI cZ cS cG ad bd [.int x1, .int x2, .int x3, .int x4] S M := by
  obtain ⟨a1, a2, a3, a4, C, Y, N, R, a5, a6, a7, a8, a9, a10⟩ := id hR
  by_cases hok : wit x1 0 3 = true ∧ wit x2 0 2 = true ∧ agF M (nN x1) x2 x3 x4 = 0
  · obtain ⟨q1, q2, q3⟩ := hok
    refine Or.inr ?_
    obtain ⟨j, hj, rfl⟩ := wit3_ex q1
    rw [nN_nI (by omega)] at q3
    obtain ⟨L, hL, eL⟩ := (a3 j hj).2.1
    have hL2 : S (2 + j) 3 = nI L := by
      rcases (a3 j hj).2.2 with ⟨c1, c2⟩ | ⟨c1, c2, c3, c4⟩
      · exact absurd c2 (ag0 q3).1
      · rw [← c4]; exact eL
    obtain ⟨a, q, haq, rfl, rfl⟩ := hCs_ex (L := L) (by omega) (by rw [← eL]; exact (ag0 q3).2.2)
    have hcd : ∀ u, u < q → (fun u => S (6 + j) (a + u)) u = (fun u => M 3 (60 * j + a + u)) u := fun u hu => by
      show S (6 + j) (a + u) = M 3 (60 * j + a + u)
      rw [Nat.add_assoc]
      exact (a4 j (a + u) hj (by omega)).symm
    refine ⟨_, _, c5_treaty_g hI S j hj L (by rw [su2]; exact hL2) (by omega) x2 q2 a q haq (by rw [row_ag a3 hj]; exact q3), c6_treaty_g hJ M j hj x2 q2 a q q3 (by omega), ?_⟩
    rintro r ⟨ad', S'⟩ r' M' (⟨N1, U, h1, rfl, e1⟩ | ⟨t, h1, rfl, e1, e2⟩) (⟨N2, V, h2, rfl, e3⟩ | ⟨t', h2, rfl, e3⟩)
    · obtain ⟨rfl, hRR⟩ := hR.taken hcd h1 h2 e3
      cases e1
      exact ⟨rfl, hRR, Or.inr rfl⟩
    · exact (bad_good h2 (good_cg hcd h1.1)).elim
    · exact (bad_good (bad_cg hcd h1) h2.1).elim
    · obtain rfl := bad_bad (bad_cg hcd h1) h2
      refine ⟨rfl, ?_, Or.inl e1⟩
      refine hR.keep ?_ ?_ (fun k h0 h10 h11 _ _ _ h22 => (e2 k h10 h11 h22).trans (su_ne h0)) (fun i h0 h1 h15 h16 h17 h18 => ?_) (fun k h0 h11 h12 _ _ => (e3.1 k h0 h11 h12).trans (su_ne h0))
      · rw [e3.2 0 (by decide) (by decide) (by decide) (by decide)]
        exact (congrFun (e2 0 (by decide) (by decide) (by decide)) 8).trans rfl
      · rw [e3.2 1 (by decide) (by decide) (by decide) (by decide)]
        exact (congrFun (e2 0 (by decide) (by decide) (by decide)) 7).trans a2
      · rw [e3.2 i h15 h16 h17 h18, su_self]
        exact upd_z h0
  · refine Or.inl ?_
    have hno : ¬ (wit x1 0 3 = true ∧ wit x2 0 2 = true ∧ rowF (su S 0 8 0) (nN x1) x2 x3 x4 = 0) := by
      rintro ⟨z1, z2, z4⟩
      obtain ⟨j, hj, rfl⟩ := wit3_ex z1
      rw [nN_nI (by omega), row_ag a3 hj] at z4
      rw [nN_nI (by omega)] at hok
      exact hok ⟨z1, z2, z4⟩
    refine ⟨_, _, c5_treaty_f hI S x1 x2 x3 x4 hno, c6_treaty_f hJ M x1 x2 x3 x4 hok, ?_⟩
    rintro r S' r' M' ⟨rfl, rfl⟩ ⟨rfl, rfl⟩
    by_cases q1 : wit x1 0 3 = true
    · obtain ⟨j, hj, rfl⟩ := wit3_ex q1
      rw [nN_nI (by omega), row_ag a3 hj]
      refine ⟨rfl, ?_⟩
      split
      · exact hR.flt _
      · exact hR.flt 0
    · rw [if_neg q1, if_neg q1, if_neg (fun z => q1 z.1), if_neg (fun z => q1 z.1)]
      exact ⟨rfl, hR.flt 0⟩
end ST
