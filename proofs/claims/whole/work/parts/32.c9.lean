section C9
variable {l : Launch} {dC : Nat → ClassId} {dI : Nat → Nat → Nat} {cI cZ cS cG : ClassId} {ad bd : Nat → Nat}
set_option maxHeartbeats 4000000 in
set_option maxRecDepth 100000 in
theorem c4_readsSons (hI : xI 42 ad) (S : xSt) (q : Nat) (hq : S 10 1 = nI q) (hq60 : q ≤ 60) (cd : Nat → Int32) (hcd : ∀ u, u < q → S 11 u = cd u) (hp : S 10 2 = nI (snP (cC cd) (cY cd) 0)) (hA0 : tAt cd q (snP (cC cd) (cY cd) 0) (5, 0, 0)) (hC0 : S 22 0 = nI (cC cd)) (hC2 : 2 ≤ cC cd) (hC4 : cC cd ≤ 4) : xMi l yX4_readsSons wsX4_readsSons ({ frames := 4, cells := 0, slots := 0, locals := 86 }) (dC, dI) vwCl (tyl cI cZ cS cG) (cLy cI cZ cS cG ad) 42 ad [.ref (ad 22), .ref (ad 10)] S (fun r S' => (r = 1 ∧ ∃ N, tGood cd q N ∧ S' 22 2 = nI N ∧ S' 22 0 = S 22 0 ∧ S' 22 1 = S 22 1 ∧ sonR cd (S' 28) (S' 29) (S' 30) (S' 31) (cC cd) (cY cd) N ∧ (∀ k, k ≠ 10 → k ≠ 22 → ¬ (28 ≤ k ∧ k ≤ 31) → S' k = S k)) ∨ (r = 0 ∧ ∃ t, tBad cd q t ∧ S' 10 2 = nI t ∧ frm S S')) := by
  refine xM_of (cc := cX4_readsSons) (nL := 3) (ret := (some .boolean)) (by decide) rfl (Nat.le_of_ble_eq_true rfl) ?_
  intro p e s m below meth c ls B hl hK hP
  obtain ⟨hx, hb, hml, hown, hts, hr, hlocks⟩ := B
  have hl : lv_has ls 3 [(0, .ref (ad 22)), (1, .ref (ad 10))] := hl
  have hS : va_S (xA 42 ad) s.heap s.heap [] := va_S.rf
  have hAd : ∀ k, k < 42 → xA 42 ad (ad k) := xA_in
  have hinX4 : ∀ w ∈ wsX40, w ∈ wsX4_readsSons := fun _ h => List.mem_cons_of_mem _ (List.mem_append_left _ (List.mem_append_right _ h))
  have hF : CallFix p m c cX4_readsSons 3 s _ wsX4_readsSons RX4 := ⟨hx, hb, hml, hown, hts⟩
  have L2 : ∀ (n : Nat) (sv : Nat) (T : xSt) (hi : sv + n = 5) (hA : tAt cd q (snP (cC cd) (cY cd) sv) (5, sv, 0)) (htq1 : 1 ≤ sv → snP (cC cd) (cY cd) sv < q) (hT10 : T 10 = upd (S 10) 2 (nI (snP (cC cd) (cY cd) sv))) (hTf : (∀ k, k ≠ 10 → k ≠ 22 → ¬ (28 ≤ k ∧ k ≤ 31) → T k = S k)) (hT22 : T 22 0 = S 22 0 ∧ T 22 1 = S 22 1) (hg : sonR cd (T 28) (T 29) (T 30) (T 31) (cC cd) (cY cd) sv) (H : Heap) (locs : List Loc) (ls : Array Slot), va_P (dC, dI) vwCl (xW (cLy cI cZ cS cG ad) 42 ad T) H → va_S (xA 42 ad) s.heap H locs → lv_has ls 3 [(0, .ref (ad 22)), (1, .ref (ad 10)), (2, .int (nI sv))] → W p l e ({ frames := 4, cells := 0, slots := 0, locals := 86 }) s m ([.ref (ad 22), .ref (ad 10)] : List Value).toArray below meth c H locs 0 0 (MQ below (xQi (dC, dI) vwCl (cLy cI cZ cS cG ad) 42 ad (fun r S' => (r = 1 ∧ ∃ N, tGood cd q N ∧ S' 22 2 = nI N ∧ S' 22 0 = S 22 0 ∧ S' 22 1 = S 22 1 ∧ sonR cd (S' 28) (S' 29) (S' 30) (S' 31) (cC cd) (cY cd) N ∧ (∀ k, k ≠ 10 → k ≠ 22 → ¬ (28 ≤ k ∧ k ≤ 31) → S' k = S k)) ∨ (r = 0 ∧ ∃ t, tBad cd q t ∧ S' 10 2 = nI t ∧ frm S S'))) ([.ref (ad 22), .ref (ad 10)] : List Value).toArray s 0 0 (xA 42 ad)) (F0 m 2 ls []) := by
    intro n
    induction n with
    | zero =>
      intro sv T hi hA htq1 hT10 hTf hT22 hg H locs ls hP hS hl
      have hTq : T 10 1 = nI q := (congrFun hT10 1).trans hq
      have hTp : T 10 2 = nI (snP (cC cd) (cY cd) sv) := congrFun hT10 2
      have hcT : ∀ u, u < q → T 11 u = cd u := fun u h => (congrFun (hTf 11 (by decide) (by decide) (by decide)) u).trans (hcd u h)
      refine lv_iload_n hx hb dX4_readsSons_2 rfl (lv_at hl 2 rfl) ?_
      refine lv_iconst (v := 5) hx hb dX4_readsSons_3 (by decide +kernel) ?_
      refine lv_icmp_ge (tgt := 40) hx hb dX4_readsSons_4 (by decide) (fun _ => ?_) (fun hc => absurd (nI_le (a := 5) (by omega) (by omega)) hc)
      refine lv_iconst (v := 0) hx hb dX4_readsSons_40 (by decide +kernel) ?_
      refine x_zret hx hb hr hlocks hP hS dX4_readsSons_41 (Or.inl rfl) ?_
      obtain rfl : sv = 5 := by omega
      exact Or.inr ⟨rfl, _, hA.bad (fun z => by have z2 := z.2; rw [okp5x] at z2; cases z2) (fun z => absurd (htq1 (by decide)) (by omega)), hTp, fun k h1 h2 => hTf k h1 (by omega) (by omega)⟩
    | succ n ih =>
      intro sv T hi hA htq1 hT10 hTf hT22 hg H locs ls hP hS hl
      have hTq : T 10 1 = nI q := (congrFun hT10 1).trans hq
      have hTp : T 10 2 = nI (snP (cC cd) (cY cd) sv) := congrFun hT10 2
      have hcT : ∀ u, u < q → T 11 u = cd u := fun u h => (congrFun (hTf 11 (by decide) (by decide) (by decide)) u).trans (hcd u h)
      refine lv_iload_n hx hb dX4_readsSons_2 rfl (lv_at hl 2 rfl) ?_
      refine lv_iconst (v := 5) hx hb dX4_readsSons_3 (by decide +kernel) ?_
      refine lv_icmp_ge (tgt := 40) hx hb dX4_readsSons_4 (by decide) (fun hc => absurd hc (nI_ge (b := 5) (by omega) (by omega))) (fun _ => ?_)
      refine lv_aload_n hx hb dX4_readsSons_7 rfl (lv_at hl 0 rfl) ?_
      refine lv_aload_n hx hb dX4_readsSons_8 rfl (lv_at hl 1 rfl) ?_
      refine lv_iload_n hx hb dX4_readsSons_9 rfl (lv_at hl 2 rfl) ?_
      refine x_calli (x_runV (As := [.ref (ad 10), .int (nI sv)]) (rest := []) hF (c4_readsSon hI T q hTq hq60 cd hcT (snP (cC cd) (cY cd) sv) sv hTp hA (by omega) htq1 (hT22.1.trans hC0) hC2 hC4) (cwV 2 hts gX4_readsSons_X4_readsSon rfl rfl rfl (by decide +kernel) ⟨Nat.le_of_ble_eq_true rfl, Nat.le_of_ble_eq_true rfl⟩) hK hP (by decide) rfl rfl rfl hl.1 rfl (Nat.le_of_ble_eq_true rfl) dX4_readsSons_10 ⟨Nat.zero_le _, Nat.zero_le _⟩) hS hAd (fun r10 S10 H locs hw hP _ hS => ?_)
      rcases hw with ⟨rfl, hA2, g10, g28, g29, g30, g31, gf, b2, b3, b4⟩ | ⟨rfl, t', hB, gp, gf⟩
      · skip
        refine lv_if_ne (tgt := 18) hx hb dX4_readsSons_13 (by decide) (fun _ => ?_) (fun hc => absurd hc (by decide))
        refine lv_aload_n hx hb dX4_readsSons_18 rfl (lv_at hl 0 rfl) ?_
        refine lv_iload_n hx hb dX4_readsSons_19 rfl (lv_at hl 2 rfl) ?_
        refine lv_iconst (v := 1) hx hb dX4_readsSons_20 (by decide +kernel) ?_
        refine lv_iadd hx hb dX4_readsSons_21 ?_
        refine x_put hx hb hts hinX4 tyX4 tyX4_ok nmX4 hown hK hI hAd hP hS 22 (by decide) rfl rfl 2 (by decide) (hts _ (List.mem_of_getElem? (i := 1) rfl)) rfl (upd (S10 22) 2 ((nI sv) + 1)) rfl rfl rfl (Nat.le_of_ble_eq_true rfl) dX4_readsSons_22 (fun H locs hP hS => ?_)
        have hP : va_P (dC, dI) vwCl (xW (cLy cI cZ cS cG ad) 42 ad (su S10 22 2 ((nI sv) + 1))) H := hP
        refine lv_aload_n hx hb dX4_readsSons_25 rfl (lv_at hl 1 rfl) ?_
        refine x_calli (x_runV (As := []) (rest := []) hF (c3_isAtEnd hI (su S10 22 2 (nI sv + 1)) q (snP (cC cd) (cY cd) sv + 5) ((congrFun g10 1).trans hTq) (congrFun g10 2) hA2.1.le hq60) (cwV 0 hts gX4_readsSons_X3_isAtEnd rfl rfl rfl (by decide +kernel) ⟨Nat.le_of_ble_eq_true rfl, Nat.le_of_ble_eq_true rfl⟩) hK hP (by decide) rfl rfl rfl hl.1 rfl (Nat.le_of_ble_eq_true rfl) dX4_readsSons_26 ⟨Nat.zero_le _, Nat.zero_le _⟩) hS hAd (fun r26 S26 H locs hw hP _ hS => ?_)
        obtain ⟨hw, eS26⟩ := hw
        rw [eS26] at hP
        by_cases q26 : snP (cC cd) (cY cd) sv + 5 < q
        · have hw : r26 = 0 := hw.trans (if_pos q26)
          subst hw
          refine lv_if_eq (tgt := 34) hx hb dX4_readsSons_29 (by decide) (fun _ => ?_) (fun hc => absurd (by decide) hc)
          refine lv_iinc (v := nI (sv + 1)) (lv' := [(2, .int (nI (sv + 1))), (0, .ref (ad 22)), (1, .ref (ad 10))]) hx hb dX4_readsSons_34 hl (k := 2) rfl (nI_1 _) (by decide) rfl (fun ls hl => ?_)
          refine lv_goto (tgt := 2) hx hb dX4_readsSons_37 (by decide) ?_
          exact ih (sv + 1) (su S10 22 2 (nI sv + 1)) (by omega) (by rw [← snP_s]; exact hA2) (fun _ => by rw [← snP_s]; exact q26) (by rw [← snP_s]; exact (su_ne (by decide)).trans (g10.trans (by rw [hT10, upd_upd]))) (fun k h1 h2 h3 => (su_ne h2).trans ((gf k h1 h3).trans (hTf k h1 h2 h3))) ⟨(congrFun (gf 22 (by decide) (by decide)) 0).trans hT22.1, (congrFun (gf 22 (by decide) (by decide)) 1).trans hT22.2⟩ (sonR_ext hg ((su_ne (by decide)).trans g28) ((su_ne (by decide)).trans g29) ((su_ne (by decide)).trans g30) ((su_ne (by decide)).trans g31) rfl rfl rfl rfl b2 b3 b4) H locs ls hP hS (lv_sub hl [1, 2, 0] rfl)
        · have hw : r26 = 1 := hw.trans (if_neg q26)
          subst hw
          refine lv_if_eq (tgt := 34) hx hb dX4_readsSons_29 (by decide) (fun hc => absurd hc (by decide)) (fun _ => ?_)
          refine lv_iconst (v := 1) hx hb dX4_readsSons_32 (by decide +kernel) ?_
          refine x_zret hx hb hr hlocks hP hS dX4_readsSons_33 (Or.inr rfl) ?_
          have hqe : q = snP (cC cd) (cY cd) sv + 5 := Nat.le_antisymm (by omega) hA2.1.le
          exact Or.inl ⟨rfl, sv + 1, ⟨by rw [hqe]; rw [hqe] at hA2; exact hA2.1, by rw [hqe]; rw [hqe] at hA2; exact hA2.2, by omega, by omega⟩, by rw [nI_succ]; exact su_at _ _ _ _, (congrFun (gf 22 (by decide) (by decide)) 0).trans hT22.1, (congrFun (gf 22 (by decide) (by decide)) 1).trans hT22.2, sonR_ext hg ((su_ne (by decide)).trans g28) ((su_ne (by decide)).trans g29) ((su_ne (by decide)).trans g30) ((su_ne (by decide)).trans g31) rfl rfl rfl rfl b2 b3 b4, fun k h1 h2 h3 => (su_ne h2).trans ((gf k h1 h3).trans (hTf k h1 h2 h3))⟩
      · skip
        refine lv_if_ne (tgt := 18) hx hb dX4_readsSons_13 (by decide) (fun hc => absurd (by decide) hc) (fun _ => ?_)
        refine lv_iconst (v := 0) hx hb dX4_readsSons_16 (by decide +kernel) ?_
        refine x_zret hx hb hr hlocks hP hS dX4_readsSons_17 (Or.inl rfl) ?_
        exact Or.inr ⟨rfl, _, hB, gp, fun k h1 h2 => (gf k h1 h2).trans (hTf k h1 (by omega) (by omega))⟩
  refine lv_iconst (v := 0) hx hb dX4_readsSons_0 (by decide +kernel) ?_
  refine lv_istore_n (lv' := [(2, .int 0), (0, .ref (ad 22)), (1, .ref (ad 10))]) hx hb dX4_readsSons_1 rfl hl (by decide) rfl (fun ls hl => ?_)
  exact L2 5 0 S rfl hA0 (fun h => absurd h (by decide)) (by rw [← hp, upd_same]) (fun _ _ _ _ => rfl) ⟨rfl, rfl⟩ (fun s' h => absurd h (Nat.not_lt_zero _)) _ _ ls hP hS (lv_sub hl [1, 2, 0] rfl)

set_option maxHeartbeats 4000000 in
set_option maxRecDepth 100000 in
theorem c4_readsAll (hI : xI 42 ad) (S : xSt) (q : Nat) (hq : S 10 1 = nI q) (hq60 : q ≤ 60) (cd : Nat → Int32) (hcd : ∀ u, u < q → S 11 u = cd u) (hp : S 10 2 = nI 0) : xMi l yX4_readsAll wsX4_readsAll ({ frames := 5, cells := 0, slots := 0, locals := 108 }) (dC, dI) vwCl (tyl cI cZ cS cG) (cLy cI cZ cS cG ad) 42 ad [.ref (ad 22), .ref (ad 10)] S (fun r S' => (r = 1 ∧ ∃ N, tGood cd q N ∧ (2 ≤ cC cd ∧ cC cd ≤ 4 ∧ 1 ≤ cY cd ∧ cY cd ≤ 6) ∧ S' 22 0 = nI (cC cd) ∧ S' 22 1 = nI (cY cd) ∧ S' 22 2 = nI N ∧ gnR cd (fun c' y' => S' (24 + c') y') (cC cd) (cY cd) ∧ sonR cd (S' 28) (S' 29) (S' 30) (S' 31) (cC cd) (cY cd) N ∧ frm S S') ∨ (r = 0 ∧ ∃ t, tBad cd q t ∧ S' 10 2 = nI t ∧ frm S S')) := by
  refine xM_of (cc := cX4_readsAll) (nL := 2) (ret := (some .boolean)) (by decide) rfl (Nat.le_of_ble_eq_true rfl) ?_
  intro p e s m below meth c ls B hl hK hP
  obtain ⟨hx, hb, hml, hown, hts, hr, hlocks⟩ := B
  have hl : lv_has ls 2 [(0, .ref (ad 22)), (1, .ref (ad 10))] := hl
  have hS : va_S (xA 42 ad) s.heap s.heap [] := va_S.rf
  have hAd : ∀ k, k < 42 → xA 42 ad (ad k) := xA_in
  have hF : CallFix p m c cX4_readsAll 2 s _ wsX4_readsAll RX4 := ⟨hx, hb, hml, hown, hts⟩
  refine lv_aload_n hx hb dX4_readsAll_0 rfl (lv_at hl 0 rfl) ?_
  refine lv_aload_n hx hb dX4_readsAll_1 rfl (lv_at hl 1 rfl) ?_
  refine x_calli (x_runV (As := [.ref (ad 10)]) (rest := []) hF (c4_readsHead hI S q hq hq60 cd hcd hp) (cwV 1 hts gX4_readsAll_X4_readsHead rfl rfl rfl (by decide +kernel) ⟨Nat.le_of_ble_eq_true rfl, Nat.le_of_ble_eq_true rfl⟩) hK hP (by decide) rfl rfl rfl hl.1 rfl (Nat.le_of_ble_eq_true rfl) dX4_readsAll_2 ⟨Nat.zero_le _, Nat.zero_le _⟩) hS hAd (fun r2 S2 H locs hw hP _ hS => ?_)
  rcases hw with ⟨rfl, hA3, ⟨hC2, hC4, hY1, hY6⟩, eS2⟩ | ⟨rfl, t, hB, eS2⟩
  · skip
    have i10 : S2 10 = upd (S 10) 2 (nI 3) := by rw [eS2]; rfl
    have i22 : S2 22 0 = nI (cC cd) ∧ S2 22 1 = nI (cY cd) := by rw [eS2]; exact ⟨rfl, rfl⟩
    have if2 : ∀ k, k ≠ 10 → k ≠ 22 → S2 k = S k := fun k h1 h2 => by rw [eS2, su_ne h2, su_ne h2, su_ne h1]
    refine lv_if_eq (tgt := 28) hx hb dX4_readsAll_5 (by decide) (fun hc => absurd hc (by decide)) (fun _ => ?_)
    refine lv_aload_n hx hb dX4_readsAll_8 rfl (lv_at hl 0 rfl) ?_
    refine lv_aload_n hx hb dX4_readsAll_9 rfl (lv_at hl 1 rfl) ?_
    refine x_calli (x_runV (As := [.ref (ad 10)]) (rest := []) hF (c4_readsGains hI S2 q ((congrFun i10 1).trans hq) hq60 cd (fun u h => (congrFun (if2 11 (by decide) (by decide)) u).trans (hcd u h)) (congrFun i10 2) hA3 i22.1 i22.2 hC2 hC4 hY1 hY6) (cwV 1 hts gX4_readsAll_X4_readsGains rfl rfl rfl (by decide +kernel) ⟨Nat.le_of_ble_eq_true rfl, Nat.le_of_ble_eq_true rfl⟩) hK hP (by decide) rfl rfl rfl hl.1 rfl (Nat.le_of_ble_eq_true rfl) dX4_readsAll_10 ⟨Nat.zero_le _, Nat.zero_le _⟩) hS hAd (fun r10 S10 H locs hw hP _ hS => ?_)
    rcases hw with ⟨rfl, hA5, j10, jf, jg⟩ | ⟨rfl, t, hB, jp, jf⟩
    · skip
      refine lv_if_eq (tgt := 28) hx hb dX4_readsAll_13 (by decide) (fun hc => absurd hc (by decide)) (fun _ => ?_)
      refine lv_aload_n hx hb dX4_readsAll_16 rfl (lv_at hl 0 rfl) ?_
      refine lv_aload_n hx hb dX4_readsAll_17 rfl (lv_at hl 1 rfl) ?_
      refine x_calli (x_runV (As := [.ref (ad 10)]) (rest := []) hF (c4_readsSons hI S10 q ((congrFun j10 1).trans ((congrFun i10 1).trans hq)) hq60 cd (fun u h => (congrFun (jf 11 (by decide) (by decide)) u).trans ((congrFun (if2 11 (by decide) (by decide)) u).trans (hcd u h))) (congrFun j10 2) hA5 ((congrFun (jf 22 (by decide) (by decide)) 0).trans i22.1) hC2 hC4) (cwV 1 hts gX4_readsAll_X4_readsSons rfl rfl rfl (by decide +kernel) ⟨Nat.le_of_ble_eq_true rfl, Nat.le_of_ble_eq_true rfl⟩) hK hP (by decide) rfl rfl rfl hl.1 rfl (Nat.le_of_ble_eq_true rfl) dX4_readsAll_18 ⟨Nat.zero_le _, Nat.zero_le _⟩) hS hAd (fun r18 S18 H locs hw hP _ hS => ?_)
      rcases hw with ⟨rfl, N, hG, k2, k0, k1, ks, kf⟩ | ⟨rfl, t, hB, kp, kf⟩
      · skip
        refine lv_if_eq (tgt := 28) hx hb dX4_readsAll_21 (by decide) (fun hc => absurd hc (by decide)) (fun _ => ?_)
        refine lv_iconst (v := 1) hx hb dX4_readsAll_24 (by decide +kernel) ?_
        refine lv_goto (tgt := 29) hx hb dX4_readsAll_25 (by decide) ?_
        refine x_zret hx hb hr hlocks hP hS dX4_readsAll_29 (Or.inr rfl) ?_
        exact Or.inl ⟨rfl, N, hG, ⟨hC2, hC4, hY1, hY6⟩, k0.trans ((congrFun (jf 22 (by decide) (by decide)) 0).trans i22.1), k1.trans ((congrFun (jf 22 (by decide) (by decide)) 1).trans i22.2), k2, fun c' y' h1 h2 => by show S18 (24 + c') y' = _ ∧ _; rw [kf (24 + c') (by omega) (by omega) (by omega)]; exact jg c' y' h1 h2, ks, fun k h1 h2 => (kf k h1 (by omega) (by omega)).trans ((jf k h1 (by omega)).trans (if2 k h1 (by omega)))⟩
      · skip
        refine lv_if_eq (tgt := 28) hx hb dX4_readsAll_21 (by decide) (fun _ => ?_) (fun hc => absurd (by decide) hc)
        refine lv_iconst (v := 0) hx hb dX4_readsAll_28 (by decide +kernel) ?_
        refine x_zret hx hb hr hlocks hP hS dX4_readsAll_29 (Or.inl rfl) ?_
        exact Or.inr ⟨rfl, t, hB, kp, fun k h1 h2 => (kf k h1 h2).trans ((jf k h1 (by omega)).trans (if2 k h1 (by omega)))⟩
    · skip
      refine lv_if_eq (tgt := 28) hx hb dX4_readsAll_13 (by decide) (fun _ => ?_) (fun hc => absurd (by decide) hc)
      refine lv_iconst (v := 0) hx hb dX4_readsAll_28 (by decide +kernel) ?_
      refine x_zret hx hb hr hlocks hP hS dX4_readsAll_29 (Or.inl rfl) ?_
      exact Or.inr ⟨rfl, t, hB, jp, fun k h1 h2 => (jf k h1 h2).trans (if2 k h1 (by omega))⟩
  · skip
    refine lv_if_eq (tgt := 28) hx hb dX4_readsAll_5 (by decide) (fun _ => ?_) (fun hc => absurd (by decide) hc)
    refine lv_iconst (v := 0) hx hb dX4_readsAll_28 (by decide +kernel) ?_
    refine x_zret hx hb hr hlocks hP hS dX4_readsAll_29 (Or.inl rfl) ?_
    exact Or.inr ⟨rfl, t, hB, by rw [eS2]; rfl, fun k h1 h2 => by rw [eS2, su_ne h1]⟩

end C9
