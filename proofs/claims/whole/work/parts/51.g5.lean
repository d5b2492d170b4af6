section ST
variable {l : Launch} {dC : Nat → ClassId} {dI : Nat → Nat → Nat} {cI cZ cS cG : ClassId} {ad bd : Nat → Nat}
theorem Rel.ask {S M : xSt} (h : Rel S M) (g : Nat → Int32) : Rel S (sr M 13 g) :=
  h.keep h.1 h.2.1 (fun _ _ _ _ _ _ _ _ => rfl) (fun _ _ _ _ _ _ _ => rfl) (fun k _ _ _ h13 _ => sr_ne h13)
theorem Rel.tri {S M : xSt} (h : Rel S M) (g : Nat → Int32) : Rel (sr S 37 g) M :=
  h.keep h.1 h.2.1 (fun k _ _ _ _ _ h37 _ => sr_ne h37) (fun _ _ _ _ _ _ _ => rfl) (fun _ _ _ _ _ _ => rfl)
theorem wit01 {x : Int32} : wit x 0 1 = true ↔ x = 0 ∨ x = 1 := by
  constructor
  · intro h
    obtain ⟨j, -, h2, rfl⟩ := wit_ex (a := 0) (b := 1) (by decide) (by decide) h
    rcases (show j = 0 ∨ j = 1 by omega) with rfl | rfl
    · exact Or.inl rfl
    · exact Or.inr rfl
  · rintro (rfl | rfl) <;> decide +kernel
theorem st_stakes (hI : xI 42 ad) (hJ : xI 18 bd) {S M : xSt} (hR : Rel S M) (x1 x2 : Int32) : PairI l dC dI cI cZ cS cG ad bd yX5_stakes wsX5_stakes ({ frames := 2, cells := 0, slots := 0, locals := 52 }) yX6_stakes wsX6_stakes ({ frames := 2, cells := 0, slots := 0, locals := 48 }) [.int x1, .int x2] S M := by
  obtain ⟨a1, a2, a3, a4, C, Y, N, R, a5, a6, a7, a8, a9, a10⟩ := id hR
  have hN := a5N a5
  have hC := a5C a5
  have hY := a5Y a5
  refine ⟨_, _, c5_stakes hI S N hN.1 hN.2.2 x1 x2, c6_stakes hJ M N hN.2.1 hN.2.2 x1 x2, ?_⟩
  rintro r S' r' M' ⟨rfl, e2⟩ ⟨rfl, rfl⟩
  subst e2
  rw [hC.1, hC.2.1, hY.1, hY.2.1]
  by_cases q : inR x1 (nI C) = true
  · by_cases q2 : inR x2 (nI Y) = true
    · obtain ⟨k, hk, rfl⟩ := inR_ex q2 (by omega)
      rw [if_pos q, if_pos q, if_pos q2, if_pos q2, if_pos (show inR x1 (nI C) = true ∧ inR (nI k) (nI Y) = true from ⟨q, q2⟩)]
      refine ⟨sumL_cong N 0 0 (fun s _ hs => ?_), hR.ask _⟩
      obtain ⟨b1, b2, b3, b4, b5, b6⟩ := relQ_now a5 a7 a8 hk (M' := sr M 13 (askF M N)) rfl rfl rfl rfl rfl s (by omega)
      exact stk_eq b1 b2 b3 b4 b5 b6
    · rw [if_pos q, if_pos q, if_neg q2, if_neg q2, if_neg (fun z => q2 z.2)]
      exact ⟨rfl, hR⟩
  · rw [if_neg q, if_neg q, if_neg (fun z => q z.1)]
    exact ⟨rfl, hR⟩
theorem st_tempted (hI : xI 42 ad) (hJ : xI 18 bd) {S M : xSt} (hR : Rel S M) (x1 : Int32) : PairI l dC dI cI cZ cS cG ad bd yX5_tempted wsX5_tempted ({ frames := 3, cells := 0, slots := 0, locals := 76 }) yX6_tempted wsX6_tempted ({ frames := 4, cells := 0, slots := 0, locals := 93 }) [.int x1] S M := by
  obtain ⟨a1, a2, a3, a4, C, Y, N, R, a5, a6, a7, a8, a9, a10⟩ := id hR
  have hN := a5N a5
  have hC := a5C a5
  have hY := a5Y a5
  have hz := a5z a5
  have hm := c6_tempted (l := l) (dC := dC) (dI := dI) (cI := cI) (cZ := cZ) (cS := cS) (cG := cG) hJ M N hN.2.1 hN.2.2 C hC.2.1 hC.2.2 Y hY.2.1 hY.2.2 x1
  by_cases h0 : N = 0
  · refine ⟨_, _, c5_tempted_f hI S x1 (Or.inl (hz.1.mpr h0)), hm, ?_⟩
    rintro r S' r' M' ⟨rfl, e2⟩ ⟨rfl, rfl⟩
    subst e2
    rw [if_pos (hz.1.mpr h0), if_pos (hz.2.1.mpr h0), if_pos (hz.2.1.mpr h0)]
    exact ⟨rfl, hR⟩
  · have n1 : ¬ S 12 2 ≤ 0 := fun z => h0 (hz.1.mp z)
    have n2 : ¬ M 0 5 = 0 := fun z => h0 (hz.2.1.mp z)
    by_cases q : inR x1 (nI Y) = true
    · obtain ⟨y, hy, rfl⟩ := inR_ex q (by omega)
      refine ⟨_, _, c5_tempted_t hI S N hN.1 hN.2.2 (by omega) C hC.1 hC.2.2 Y hY.1 hY.2.2 y hy, hm, ?_⟩
      rintro r S' r' M' ⟨rfl, e2⟩ ⟨rfl, rfl⟩
      subst e2
      rw [hY.2.1, if_neg n2, if_pos q, if_neg n2, if_pos q, nN_nI (by omega)]
      exact ⟨set_eq (fun c hc => a6 c y hc hy) (relQ_now a5 a7 a8 hy rfl rfl rfl rfl rfl), hR.ask _⟩
    · refine ⟨_, _, c5_tempted_f hI S x1 (Or.inr (by rw [hY.1]; exact q)), hm, ?_⟩
      rintro r S' r' M' ⟨rfl, e2⟩ ⟨rfl, rfl⟩
      subst e2
      rw [hY.2.1, if_neg n1, if_neg n2, if_neg q, if_neg n2, if_neg q]
      exact ⟨rfl, hR⟩
theorem st_broken (hI : xI 42 ad) (hJ : xI 18 bd) {S M : xSt} (hR : Rel S M) (x1 : Int32) : PairI l dC dI cI cZ cS cG ad bd yX5_broken wsX5_broken ({ frames := 6, cells := 0, slots := 0, locals := 146 }) yX6_broken wsX6_broken ({ frames := 6, cells := 0, slots := 0, locals := 136 }) [.int x1] S M := by
  obtain ⟨a1, a2, a3, a4, C, Y, N, R, a5, a6, a7, a8, a9, a10⟩ := id hR
  have hN := a5N a5
  have hC := a5C a5
  have hY := a5Y a5
  have hz := a5z a5
  refine ⟨_, _, c5_broken hI S N hN.1 hN.2.2 C hC.1 hC.2.2 Y hY.1 hY.2.2 x1, c6_broken hJ M N hN.2.1 hN.2.2 C hC.2.1 hC.2.2 Y hY.2.1 hY.2.2 x1, ?_⟩
  rintro r S' r' M' ⟨rfl, e2⟩ ⟨rfl, rfl⟩
  subst e2
  by_cases q : wit x1 0 1 = true
  · rw [if_pos q, if_pos q, if_pos (wit01.mp q)]
    by_cases h0 : N = 0
    · rw [if_pos (hz.1.mpr h0), if_pos (hz.2.1.mpr h0), if_pos (hz.2.1.mpr h0)]
      exact ⟨rfl, hR⟩
    · rw [if_neg (fun z => h0 (hz.1.mp z)), if_neg (fun z => h0 (hz.2.1.mp z)), if_neg (fun z => h0 (hz.2.1.mp z))]
      have hg : RelG S' (sr M 13 (askF M N)) C Y := a6
      have hq : ∀ y, y < Y → RelQ S' (sr M 13 (askF M N)) N 32 0 y := fun y hy => relQ_now a5 a7 a8 hy rfl rfl rfl rfl rfl
      rw [bc_eq hC.2.2 hY.2.2 hg hq, brk_eq hC.2.2 hg hq]
      exact ⟨rfl, hR.ask _⟩
  · rw [if_neg q, if_neg q, if_neg (fun z => q (wit01.mpr z))]
    exact ⟨rfl, hR⟩
/-- READINGS told alike -/
theorem so_eq {S M : xSt} {C Y N R b : Nat} (hC : C ≤ 4) (hY : Y ≤ 6) (hr : ∀ q, q < R → S 39 q = M 14 q ∧ S 40 q = M 15 q ∧ S 41 q = M 16 q ∧ okN (M 14 q) C ∧ okN (M 15 q) Y) (hg : RelG S M C Y) (h : ∀ y, y < Y → RelQ S M N b 0 y) : cSo S N R b = mSo M N R := by
  unfold cSo mSo
  refine allL_cong R 0 (fun q _ hq => ?_)
  obtain ⟨e1, e2, e3, ⟨c, hc, ec⟩, ⟨y, hy, ey⟩⟩ := hr q (by omega)
  rw [e1, e2, e3, ec, ey, nN_nI (by omega), nN_nI (by omega), T_eq (hg c y hc hy) (h y hy)]
theorem upd2 {f g : Nat → Int32} {j s : Nat} {v : Int32} (h : f s = g s) : upd f j v s = upd g j v s := by
  by_cases e : s = j
  · subst e
    rw [upd_at, upd_at]
  · rw [upd_off e, upd_off e, h]
theorem relQ_w {S M : xSt} {N b y : Nat} {pg : Int32} (h : RelQ S M N b pg y) (hb : b + 2 ≠ 20) (j : Nat) (v : Int32) : RelQ (su S 20 j v) (su M 7 j v) N b pg y := by
  intro s hs
  obtain ⟨b1, b2, b3, b4, b5, b6⟩ := h s hs
  refine ⟨b1, upd2 b2, b3, b4, b5, ?_⟩
  rw [su_ne hb]
  exact b6
theorem relQ_f {S M : xSt} {N b y : Nat} {pg : Int32} (h : RelQ S M N b pg y) (hb : b + 2 ≠ 21) (j : Nat) (v : Int32) : RelQ (su S 21 j v) (su M 8 j v) N b pg y := by
  intro s hs
  obtain ⟨b1, b2, b3, b4, b5, b6⟩ := h s hs
  refine ⟨b1, b2, upd2 b3, b4, b5, ?_⟩
  rw [su_ne hb]
  exact b6
theorem kpg0 {k : Nat → Int32} {s : Nat} (h : s < 5) : kpg 0 k s = k s :=
  if_neg ((by decide +kernel : ∀ s, s < 5 → ¬ (0 : Int32) >>> (nI s &&& 31) &&& 1 = 1) s h)
theorem relQ_k {S M : xSt} {N b y : Nat} (hN : N ≤ 5) (h : RelQ S M N b 0 y) (hb : b + 2 ≠ 18) (j : Nat) {v : Int32} (hv : v = 0 ∨ v = 1 ∨ v = 2) : RelQ (su S 18 j v) (su M 5 j v) N b 0 y := by
  intro s hs
  obtain ⟨b1, b2, b3, b4, b5, b6⟩ := h s hs
  refine ⟨b1, b2, b3, ?_, ?_, ?_⟩
  · rw [kpg0 (by omega)]
    rw [kpg0 (by omega)] at b4
    exact upd2 b4
  · show upd (M 5) j v s = 0 ∨ upd (M 5) j v s = 1 ∨ upd (M 5) j v s = 2
    by_cases e : s = j
    · subst e
      rw [upd_at]
      exact hv
    · rw [upd_off e]
      exact b5
  · rw [su_ne hb]
    exact b6
theorem okN.le {x : Int32} {a b : Nat} (h : okN x a) (hb : a ≤ b) : okN x b := by
  obtain ⟨j, hj, e⟩ := h
  exact ⟨j, by omega, e⟩
theorem st_worths (hI : xI 42 ad) (hJ : xI 18 bd) {S M : xSt} (hR : Rel S M) (x1 : Int32) : PairI l dC dI cI cZ cS cG ad bd yX5_worths wsX5_worths ({ frames := 5, cells := 0, slots := 0, locals := 125 }) yX6_worths wsX6_worths ({ frames := 4, cells := 0, slots := 0, locals := 91 }) [.int x1] S M := by
  obtain ⟨a1, a2, a3, a4, C, Y, N, R, a5, a6, a7, a8, a9, a10⟩ := id hR
  have hN := a5N a5
  have hC := a5C a5
  have hY := a5Y a5
  have hc := c5_worths (l := l) (dC := dC) (dI := dI) (cI := cI) (cZ := cZ) (cS := cS) (cG := cG) hI S N hN.1 hN.2.2 R a10.1 a10.2.2.1 (fun q hq => by rw [(a10.2.2.2 q hq).1, (a10.2.2.2 q hq).2.1]; exact ⟨(a10.2.2.2 q hq).2.2.2.1.le hC.2.2, (a10.2.2.2 q hq).2.2.2.2.le hY.2.2⟩) x1
  by_cases q : inR x1 (nI N) = true
  · obtain ⟨j, hj, rfl⟩ := inR_ex q (by omega)
    refine ⟨_, _, hc, c6_worths_t hJ M N hN.2.1 hN.2.2 R a10.2.1 a10.2.2.1 (fun q hq => ⟨(a10.2.2.2 q hq).2.2.2.1.le hC.2.2, (a10.2.2.2 q hq).2.2.2.2.le hY.2.2⟩) j hj, ?_⟩
    rintro r S' r' M' ⟨rfl, e2⟩ ⟨rfl, g, rfl⟩
    subst e2
    rw [hN.1, if_pos q, nN_nI (by omega)]
    refine ⟨orL_cong 10 0 0 (fun v _ hv => ?_), hR.ask _⟩
    rw [so_eq (S := su S' 20 j (nI v)) (b := 32) (M := su (sr M 13 (askF M N)) 7 j (nI v)) hC.2.2 hY.2.2 a10.2.2.2 (a6.cg (fun c hc => su_ne (by omega)) rfl) (fun y hy => relQ_w (relQ_now a5 a7 a8 hy (M' := sr M 13 (askF M N)) rfl rfl rfl rfl rfl) (by decide) j (nI v))]
  · refine ⟨_, _, hc, c6_worths_f hJ M x1 (by rw [hN.2.1]; exact q), ?_⟩
    rintro r S' r' M' ⟨rfl, e2⟩ ⟨rfl, rfl⟩
    subst e2
    rw [hN.1, if_neg q]
    exact ⟨rfl, hR⟩
theorem st_fondness (hI : xI 42 ad) (hJ : xI 18 bd) {S M : xSt} (hR : Rel S M) (x1 : Int32) : PairI l dC dI cI cZ cS cG ad bd yX5_fondness wsX5_fondness ({ frames := 5, cells := 0, slots := 0, locals := 125 }) yX6_fondness wsX6_fondness ({ frames := 4, cells := 0, slots := 0, locals := 91 }) [.int x1] S M := by
  obtain ⟨a1, a2, a3, a4, C, Y, N, R, a5, a6, a7, a8, a9, a10⟩ := id hR
  have hN := a5N a5
  have hC := a5C a5
  have hY := a5Y a5
  have hc := c5_fondness (l := l) (dC := dC) (dI := dI) (cI := cI) (cZ := cZ) (cS := cS) (cG := cG) hI S N hN.1 hN.2.2 R a10.1 a10.2.2.1 (fun q hq => by rw [(a10.2.2.2 q hq).1, (a10.2.2.2 q hq).2.1]; exact ⟨(a10.2.2.2 q hq).2.2.2.1.le hC.2.2, (a10.2.2.2 q hq).2.2.2.2.le hY.2.2⟩) x1
  by_cases q : inR x1 (nI N) = true
  · obtain ⟨j, hj, rfl⟩ := inR_ex q (by omega)
    refine ⟨_, _, hc, c6_fondness_t hJ M N hN.2.1 hN.2.2 R a10.2.1 a10.2.2.1 (fun q hq => ⟨(a10.2.2.2 q hq).2.2.2.1.le hC.2.2, (a10.2.2.2 q hq).2.2.2.2.le hY.2.2⟩) j hj, ?_⟩
    rintro r S' r' M' ⟨rfl, e2⟩ ⟨rfl, g, rfl⟩
    subst e2
    rw [hN.1, if_pos q, nN_nI (by omega)]
    refine ⟨orL_cong 4 0 0 (fun v _ hv => ?_), hR.ask _⟩
    rw [so_eq (S := su S' 21 j (nI v)) (b := 32) (M := su (sr M 13 (askF M N)) 8 j (nI v)) hC.2.2 hY.2.2 a10.2.2.2 (a6.cg (fun c hc => su_ne (by omega)) rfl) (fun y hy => relQ_f (relQ_now a5 a7 a8 hy (M' := sr M 13 (askF M N)) rfl rfl rfl rfl rfl) (by decide) j (nI v))]
  · refine ⟨_, _, hc, c6_fondness_f hJ M x1 (by rw [hN.2.1]; exact q), ?_⟩
    rintro r S' r' M' ⟨rfl, e2⟩ ⟨rfl, rfl⟩
    subst e2
    rw [hN.1, if_neg q]
    exact ⟨rfl, hR⟩
theorem st_kinds (hI : xI 42 ad) (hJ : xI 18 bd) {S M : xSt} (hR : Rel S M) (x1 : Int32) : PairI l dC dI cI cZ cS cG ad bd yX5_kinds wsX5_kinds ({ frames := 5, cells := 0, slots := 0, locals := 125 }) yX6_kinds wsX6_kinds ({ frames := 4, cells := 0, slots := 0, locals := 91 }) [.int x1] S M := by
  obtain ⟨a1, a2, a3, a4, C, Y, N, R, a5, a6, a7, a8, a9, a10⟩ := id hR
  have hN := a5N a5
  have hC := a5C a5
  have hY := a5Y a5
  have hc := c5_kinds (l := l) (dC := dC) (dI := dI) (cI := cI) (cZ := cZ) (cS := cS) (cG := cG) hI S N hN.1 hN.2.2 R a10.1 a10.2.2.1 (fun q hq => by rw [(a10.2.2.2 q hq).1, (a10.2.2.2 q hq).2.1]; exact ⟨(a10.2.2.2 q hq).2.2.2.1.le hC.2.2, (a10.2.2.2 q hq).2.2.2.2.le hY.2.2⟩) x1
  by_cases q : inR x1 (nI N) = true
  · obtain ⟨j, hj, rfl⟩ := inR_ex q (by omega)
    refine ⟨_, _, hc, c6_kinds_t hJ M N hN.2.1 hN.2.2 R a10.2.1 a10.2.2.1 (fun q hq => ⟨(a10.2.2.2 q hq).2.2.2.1.le hC.2.2, (a10.2.2.2 q hq).2.2.2.2.le hY.2.2⟩) j hj, ?_⟩
    rintro r S' r' M' ⟨rfl, e2⟩ ⟨rfl, g, rfl⟩
    subst e2
    rw [hN.1, if_pos q, nN_nI (by omega)]
    refine ⟨orL_cong 3 0 0 (fun v _ hv => ?_), hR.ask _⟩
    have hv3 : nI v = 0 ∨ nI v = 1 ∨ nI v = 2 := (by decide +kernel : ∀ v, v < 3 → nI v = 0 ∨ nI v = 1 ∨ nI v = 2) v (by omega)
    rw [so_eq (S := su S' 18 j (nI v)) (b := 32) (M := su (sr M 13 (askF M N)) 5 j (nI v)) hC.2.2 hY.2.2 a10.2.2.2 (a6.cg (fun c hc => su_ne (by omega)) rfl) (fun y hy => relQ_k hN.2.2 (relQ_now a5 a7 a8 hy (M' := sr M 13 (askF M N)) rfl rfl rfl rfl rfl) (by decide) j hv3)]
  · refine ⟨_, _, hc, c6_kinds_f hJ M x1 (by rw [hN.2.1]; exact q), ?_⟩
    rintro r S' r' M' ⟨rfl, e2⟩ ⟨rfl, rfl⟩
    subst e2
    rw [hN.1, if_neg q]
    exact ⟨rfl, hR⟩
end ST
