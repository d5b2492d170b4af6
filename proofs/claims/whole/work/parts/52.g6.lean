section ST
variable {l : Launch} {dC : Nat → ClassId} {dI : Nat → Nat → Nat} {cI cZ cS cG : ClassId} {ad bd : Nat → Nat}
/-- how they stand by a set, from the start on -/
theorem relQ_set {S M : xSt} {C Y N : Nat} (hD : RelD S M C Y N) (hN : RelN S M C N) (v : Int32) (g : Nat → Int32) {y : Nat} (hy : y < Y) : RelQ (sr S 37 (frG v g)) (sr M 13 (askG M N v)) N 35 0 y := by
  intro s hs
  have hl := hD.le
  obtain ⟨b1, b2, b3, b4, b5, b6⟩ := hN s hs
  refine ⟨b2, b3, b4, (kpg0 (by omega)).trans b1, b5, ?_⟩
  have e1 : frG v g s = (if v >>> (nI s &&& 31) &&& 1 = 1 then 0 else 6) := fil_in (by omega)
  have e2 : askG M N v s = (if v >>> (nI s &&& 31) &&& 1 = 1 then 0 else M 0 6) := fil_in hs
  show frG v g s = askG M N v s ∨ (nI y < frG v g s ∧ nI y < askG M N v s)
  rw [e1, e2]
  by_cases q : v >>> (nI s &&& 31) &&& 1 = 1
  · rw [if_pos q, if_pos q]
    exact Or.inl rfl
  · rw [if_neg q, if_neg q, hD.2.2.2.2.1]
    exact Or.inr ⟨nI_lt (b := 6) (by omega) (by decide), nI_lt hy (by omega)⟩
theorem relQ_fr {S M : xSt} {N y j : Nat} {v : Int32} (h : RelQ S M N 35 0 y) : RelQ (su S 37 j v) (su M 13 j v) N 35 0 y := by
  intro s hs
  obtain ⟨b1, b2, b3, b4, b5, b6⟩ := h s hs
  refine ⟨b1, b2, b3, b4, b5, ?_⟩
  show upd (S 37) j v s = upd (M 13) j v s ∨ (nI y < upd (S 37) j v s ∧ nI y < upd (M 13) j v s)
  by_cases e : s = j
  · subst e
    rw [upd_at, upd_at]
    exact Or.inl rfl
  · rw [upd_off e, upd_off e]
    exact b6
theorem st_hole (hI : xI 42 ad) (hJ : xI 18 bd) {S M : xSt} (hR : Rel S M) (x1 : Int32) : PairI l dC dI cI cZ cS cG ad bd yX5_hole wsX5_hole ({ frames := 4, cells := 0, slots := 0, locals := 99 }) yX6_hole wsX6_hole ({ frames := 4, cells := 0, slots := 0, locals := 92 }) [.int x1] S M := by
  obtain ⟨a1, a2, a3, a4, C, Y, N, R, a5, a6, a7, a8, a9, a10⟩ := id hR
  have hN := a5N a5
  have hC := a5C a5
  have hY := a5Y a5
  refine ⟨_, _, c5_hole hI S N hN.1 hN.2.2 C hC.1 hC.2.2 Y hY.1 hY.2.2 x1, c6_hole hJ M N hN.2.1 hN.2.2 C hC.2.1 hC.2.2 Y hY.2.1 hY.2.2 x1, ?_⟩
  rintro r S' r' M' ⟨rfl, e2⟩ ⟨rfl, e4⟩
  have hRR : Rel S' M' := by
    rcases e2 with rfl | ⟨g, rfl⟩ <;> rcases e4 with rfl | ⟨h, rfl⟩
    · exact hR
    · exact hR.ask _
    · exact hR.tri _
    · exact (hR.ask _).tri _
  refine ⟨?_, hRR⟩
  rw [hC.1, hC.2.1, hN.1, hN.2.1]
  by_cases q : inR x1 (nI C) = true
  · obtain ⟨c, hc, rfl⟩ := inR_ex q (by omega)
    rw [if_pos q, if_pos q, nN_nI (by omega)]
    exact scan_cong Y 0 (fun y _ hy => T_eq (by rw [sr_ne (by omega)]; exact a6 c y hc (by omega)) (relQ_set a5 a7 _ _ (by omega)))
  · rw [if_neg q, if_neg q]
theorem dsc_cong {p q : Nat → Bool} : ∀ (n : Nat), (∀ j, j < n → p j = q j) → dsc p n = dsc q n
  | 0, _ => rfl
  | n + 1, h => by rw [dsc, dsc, h n (by omega), dsc_cong n (fun j hj => h j (by omega))]
theorem st_when (hI : xI 42 ad) (hJ : xI 18 bd) {S M : xSt} (hR : Rel S M) (x1 : Int32) : PairI l dC dI cI cZ cS cG ad bd yX5_when wsX5_when ({ frames := 4, cells := 0, slots := 0, locals := 99 }) yX6_when wsX6_when ({ frames := 4, cells := 0, slots := 0, locals := 92 }) [.int x1] S M := by
  obtain ⟨a1, a2, a3, a4, C, Y, N, R, a5, a6, a7, a8, a9, a10⟩ := id hR
  have hN := a5N a5
  have hC := a5C a5
  have hY := a5Y a5
  by_cases q : inR x1 (nI N) = true
  · obtain ⟨j, hj, rfl⟩ := inR_ex q (by omega)
    obtain ⟨f, hf, ef⟩ := (a7 j hj).2.2.2.2.2
    refine ⟨_, _, c5_when_t hI S N hN.1 hN.2.2 Y hY.1 hY.2.2 j hj f (by omega) (by rw [(a7 j hj).2.1]; exact ef), c6_when_t hJ M N hN.2.1 hN.2.2 Y hY.2.1 hY.2.2 j hj f (by omega) ef, ?_⟩
    rintro r S' r' M' ⟨rfl, g, rfl⟩ ⟨rfl, h, rfl⟩
    refine ⟨?_, (hR.ask _).tri _⟩
    rw [hN.1, hN.2.1]
    refine dsc_cong (Y + 1) (fun y _ => ?_)
    rw [scan_cong Y 0 (fun z _ hz => T_eq (S := su (sr S 37 (frG (1 <<< (nI N &&& 31) - 1) (S 37))) 37 j (nI y)) (M := su (sr M 13 (askG M N (1 <<< (nI N &&& 31) - 1))) 13 j (nI y)) (N := N) (b := 35) (pg := 0) (by rw [su_ne (by omega), sr_ne (by omega)]; exact a6 f z hf (by omega)) (relQ_fr (relQ_set a5 a7 _ _ (by omega))))]
  · refine ⟨_, _, c5_when_f hI S x1 (by rw [hN.1]; exact q), c6_when_f hJ M x1 (by rw [hN.2.1]; exact q), ?_⟩
    rintro r S' r' M' ⟨rfl, e2⟩ ⟨rfl, e4⟩
    subst e2; subst e4
    exact ⟨rfl, hR⟩
theorem lst_cong {pc pm : Int32 → Int32} {p q : Nat → Bool} (hp : ∀ k, k < 32 → pc (nI k) = pm (nI k)) : ∀ (n i : Nat) (a : Int32), i + n ≤ 32 → (a = -9 ∨ ∃ k, k < 32 ∧ a = nI k) → (∀ j, i ≤ j → j < i + n → p j = q j) → lstL pc p n i a = lstL pm q n i a
  | 0, _, _, _, _, _ => rfl
  | n + 1, i, a, hn, ha, h => by
    rw [lstL, lstL, h i (Nat.le_refl i) (by omega)]
    have e : (if a = -9 ∨ pc (nI i) < pc a then (if q i = true then nI i else a) else a) = (if a = -9 ∨ pm (nI i) < pm a then (if q i = true then nI i else a) else a) := by
      rcases ha with rfl | ⟨k, hk, rfl⟩
      · rw [if_pos (Or.inl rfl), if_pos (Or.inl rfl)]
      · rw [hp k hk, hp i (by omega)]
    rw [e]
    refine lst_cong hp n (i + 1) _ (by omega) ?_ (fun j h1 h2 => h j (by omega) (by omega))
    split
    · split
      · exact Or.inr ⟨i, by omega, rfl⟩
      · exact ha
    · exact ha
theorem pc_eq : ∀ k, k < 32 → bcI (nI k) = pcM (nI k) := fun k hk => by rw [bcI_pcL k hk, pcM, nN_nI (by omega)]
theorem two_le {N : Nat} (h : N ≤ 5) : 2 ^ N ≤ 32 := Nat.pow_le_pow_right (n := 2) (by decide) h
theorem st_least (hI : xI 42 ad) (hJ : xI 18 bd) {S M : xSt} (hR : Rel S M) : PairI l dC dI cI cZ cS cG ad bd yX5_least wsX5_least ({ frames := 5, cells := 0, slots := 0, locals := 123 }) yX6_least wsX6_least ({ frames := 5, cells := 0, slots := 0, locals := 114 }) [] S M := by
  obtain ⟨a1, a2, a3, a4, C, Y, N, R, a5, a6, a7, a8, a9, a10⟩ := id hR
  have hN := a5N a5
  have hC := a5C a5
  have hY := a5Y a5
  have hz := a5z a5
  by_cases h0 : N = 0
  · refine ⟨_, _, c5_least_f hI S (hz.1.mpr h0), c6_least_f hJ M (hz.2.1.mpr h0), ?_⟩
    rintro r S' r' M' ⟨rfl, e2⟩ ⟨rfl, e4⟩
    subst e2; subst e4
    exact ⟨rfl, hR⟩
  · have hC0 : 0 < C := by have := hz.2.2; omega
    refine ⟨_, _, c5_least_t hI S N hN.1 hN.2.2 (by omega) C hC.1 hC.2.2 Y hY.1 hY.2.2, c6_least_t hJ M N hN.2.1 hN.2.2 C hC.2.1 hC.2.2 hC0 Y hY.2.1 hY.2.2, ?_⟩
    rintro r S' r' M' ⟨rfl, g, rfl⟩ ⟨rfl, h, rfl⟩
    have := two_le hN.2.2
    refine ⟨lst_cong pc_eq (2 ^ N) 0 (-9) (by omega) (Or.inl rfl) (fun i _ _ => ?_), (hR.ask _).tri _⟩
    rw [brk_eq (M := sr M 13 (askG M N (nI i))) hC.2.2 (a6.cg (fun c hc => sr_ne (by omega)) rfl) (fun y hy => relQ_set a5 a7 _ _ hy)]
/-- rows asked for, on both sides -/
theorem row_ag {S M : xSt} (h : RelS S M) {k : Nat} (hk : k < 4) (ln i n : Int32) : rowF (su S 0 8 0) k ln i n = agF M k ln i n := by
  unfold rowF agF laneF
  rw [su2]
  rcases (h k hk).2.2 with ⟨c1, c2⟩ | ⟨c1, c2, c3, c4⟩
  · have z1 : ¬ (1 : Int32) = 0 := by decide
    simp only [if_pos c1, if_neg z1, c2]
    simp
  · have e9 := lane_ne c3
    have e0 : ¬ S (2 + k) 1 = 0 := by rw [c1]; decide
    have z2 : ¬ (2 : Int32) = 0 := by decide
    rw [if_neg e0, ← c2, ← c4]
    by_cases q : M 1 k = ln
    · simp [e9, q]
      rw [q] at e9
      simp [e9]
    · simp [e9, q]
theorem ofP_eq (w : Int32) : ofP w = true ↔ (wit w 0 2 = true ∨ wit w 10 13 = true) := by
  unfold ofP wit
  simp only [decide_eq_true_eq]
  rw [show (14 : Int32) ≤ w ↔ 13 < w by
    rw [Int32.le_iff_toInt_le, Int32.lt_iff_toInt_lt, show (14 : Int32).toInt = 14 by decide +kernel, show (13 : Int32).toInt = 13 by decide +kernel]
    omega]
end ST
