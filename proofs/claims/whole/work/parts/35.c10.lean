section C10
variable {l : Launch} {dC : Nat → ClassId} {dI : Nat → Nat → Nat} {cI cZ cS cG : ClassId} {ad bd : Nat → Nat}
set_option maxHeartbeats 4000000 in
set_option maxRecDepth 100000 in
theorem c5_treaty_f (hI : xI 42 ad) (S : xSt) (kn ln i n : Int32) (hno : ¬ (wit kn 0 3 = true ∧ wit ln 0 2 = true ∧ rowF (su S 0 8 0) (nN kn) ln i n = 0)) : xMi l yX5_treaty wsX5_treaty ({ frames := 6, cells := 0, slots := 0, locals := 129 }) (dC, dI) vwCl (tyl cI cZ cS cG) (cLy cI cZ cS cG ad) 42 ad [.ref (ad 0), .int kn, .int ln, .int i, .int n] S (fun r S' => r = (if wit kn 0 3 then (if wit ln 0 2 then -10 - rowF (su S 0 8 0) (nN kn) ln i n else -2) else -1) ∧ S' = (if wit kn 0 3 = true ∧ wit ln 0 2 = true then su S 0 8 (rowF (su S 0 8 0) (nN kn) ln i n) else su S 0 8 0)) := by
  refine xM_of (cc := cX5_treaty) (nL := 6) (ret := (some .int)) (by decide) rfl (Nat.le_of_ble_eq_true rfl) ?_
  intro p e s m below meth c ls B hl hK hP
  obtain ⟨hx, hb, hml, hown, hts, hr, hlocks⟩ := B
  have hl : lv_has ls 6 [(0, .ref (ad 0)), (1, .int kn), (2, .int ln), (3, .int i), (4, .int n)] := hl
  have hS : va_S (xA 42 ad) s.heap s.heap [] := va_S.rf
  have hAd : ∀ k, k < 42 → xA 42 ad (ad k) := xA_in
  have hinX5 : ∀ w ∈ wsX50, w ∈ wsX5_treaty := fun _ h => List.mem_cons_of_mem _ (List.mem_append_left _ (List.mem_append_left _ (List.mem_append_left _ (List.mem_append_left _ (List.mem_append_left _ (List.mem_append_right _ h))))))
  have hF : CallFix p m c cX5_treaty 6 s _ wsX5_treaty RX5 := ⟨hx, hb, hml, hown, hts⟩
  refine lv_aload_n hx hb dX5_treaty_0 rfl (lv_at hl 0 rfl) ?_
  refine lv_iconst (v := 0) hx hb dX5_treaty_1 (by decide +kernel) ?_
  refine x_put hx hb hts hinX5 tyX5 tyX5_ok nmX5 hown hK hI hAd hP hS 0 (by decide) rfl rfl 8 (by decide) (hts _ (List.mem_of_getElem? (i := 1) rfl)) rfl (upd (S 0) 8 0) rfl rfl rfl (Nat.le_of_ble_eq_true rfl) dX5_treaty_2 (fun H locs hP hS => ?_)
  have hP : va_P (dC, dI) vwCl (xW (cLy cI cZ cS cG ad) 42 ad (su S 0 8 0)) H := hP
  refine lv_iload_n hx hb dX5_treaty_5 rfl (lv_at hl 1 rfl) ?_
  refine x_calli (x_runS (As := [.int kn]) (rest := []) hF (c5_isSheet hI (su S 0 8 0) kn ) (va_cwS 1 hts gX5_treaty_X5_isSheet rfl rfl rfl (by decide +kernel) ⟨Nat.le_of_ble_eq_true rfl, Nat.le_of_ble_eq_true rfl⟩) hK hP rfl hl.1 rfl (Nat.le_of_ble_eq_true rfl) dX5_treaty_6 ⟨Nat.zero_le _, Nat.zero_le _⟩) hS hAd (fun r6 S6 H locs hw hP _ hS => ?_)
  obtain ⟨hw, eS6⟩ := hw
  rw [eS6] at hP
  by_cases q6 : wit kn 0 3 = true
  · have hw : r6 = 1 := hw.trans (if_pos q6)
    subst hw
    obtain ⟨j6, hj6, rfl⟩ := wit3_ex q6
    have en6 : nN (nI j6) = j6 := nN_nI (by omega)
    refine lv_if_ne (tgt := 14) hx hb dX5_treaty_9 (by decide) (fun _ => ?_) (fun hc => absurd hc (by decide))
    refine lv_iload_n hx hb dX5_treaty_14 rfl (lv_at hl 2 rfl) ?_
    refine x_calli (x_runS (As := [.int ln]) (rest := []) hF (c5_isLane hI (su S 0 8 0) ln ) (va_cwS 1 hts gX5_treaty_X5_isLane rfl rfl rfl (by decide +kernel) ⟨Nat.le_of_ble_eq_true rfl, Nat.le_of_ble_eq_true rfl⟩) hK hP rfl hl.1 rfl (Nat.le_of_ble_eq_true rfl) dX5_treaty_15 ⟨Nat.zero_le _, Nat.zero_le _⟩) hS hAd (fun r15 S15 H locs hw hP _ hS => ?_)
    obtain ⟨hw, eS15⟩ := hw
    rw [eS15] at hP
    by_cases q15 : wit ln 0 2 = true
    · have hw : r15 = 1 := hw.trans (if_pos q15)
      subst hw
      refine lv_if_ne (tgt := 24) hx hb dX5_treaty_18 (by decide) (fun _ => ?_) (fun hc => absurd hc (by decide))
      refine lv_aload_n hx hb dX5_treaty_24 rfl (lv_at hl 0 rfl) ?_
      refine x_get (v := .ref (ad 1)) hx hb hts hinX5 hown hK hP 0 (by decide) rfl rfl 0 (by decide) (hts _ (List.mem_of_getElem? (i := 2) rfl)) rfl dX5_treaty_25 ?_
      refine lv_iload_n hx hb dX5_treaty_28 rfl (lv_at hl 1 rfl) ?_
      refine x_aald (v := .ref (ad (2 + j6))) hx hb hK hP 1 2 (by decide) rfl rfl rfl j6 rfl (by omega) (by decide) (if_pos_rf (by omega)) dX5_treaty_29 ?_
      refine lv_iload_n hx hb dX5_treaty_30 rfl (lv_at hl 2 rfl) ?_
      refine lv_iload_n hx hb dX5_treaty_31 rfl (lv_at hl 3 rfl) ?_
      refine lv_iload hx hb dX5_treaty_32 (lv_at hl 4 rfl) ?_
      refine x_calli (x_runS (As := [.ref (ad (2 + j6)), .int ln, .int i, .int n]) (rest := []) hF (c5_rowFault hI (su S 0 8 0) j6 (by omega) ln i n ) (va_cwS 4 hts gX5_treaty_X5_rowFault rfl rfl rfl (by decide +kernel) ⟨Nat.le_of_ble_eq_true rfl, Nat.le_of_ble_eq_true rfl⟩) hK hP rfl hl.1 rfl (Nat.le_of_ble_eq_true rfl) dX5_treaty_34 ⟨Nat.zero_le _, Nat.zero_le _⟩) hS hAd (fun r34 S34 H locs hw hP _ hS => ?_)
      obtain ⟨er34, eS34⟩ := hw
      rw [eS34] at hP
      refine lv_istore (lv' := [(5, .int r34), (0, .ref (ad 0)), (1, .int (nI j6)), (2, .int ln), (3, .int i), (4, .int n)]) hx hb dX5_treaty_37 hl (by decide) rfl (fun ls hl => ?_)
      refine lv_iload hx hb dX5_treaty_39 (lv_at hl 0 rfl) ?_
      refine lv_if_eq (tgt := 51) hx hb dX5_treaty_41 (by decide) (fun c41 => ?_) (fun c41 => ?_)
      · exact absurd ⟨q6, q15, by rw [en6]; subst er34; exact c41⟩ hno
      · refine lv_aload_n hx hb dX5_treaty_44 rfl (lv_at hl 1 rfl) ?_
        refine lv_iload hx hb dX5_treaty_45 (lv_at hl 0 rfl) ?_
        refine x_calli (x_runV (As := [.int r34]) (rest := []) hF (c5_faulted hI (su S 0 8 0) r34 ) (cwV 1 hts gX5_treaty_X5_faulted rfl rfl rfl (by decide +kernel) ⟨Nat.le_of_ble_eq_true rfl, Nat.le_of_ble_eq_true rfl⟩) hK hP (by decide) rfl rfl rfl hl.1 rfl (Nat.le_of_ble_eq_true rfl) dX5_treaty_47 ⟨Nat.zero_le _, Nat.zero_le _⟩) hS hAd (fun r47 S47 H locs hw hP _ hS => ?_)
        obtain ⟨er47, eS47⟩ := hw
        rw [eS47] at hP
        refine x_iret hx hb hr hlocks hP hS dX5_treaty_50 ?_
        subst er34; subst er47
        exact ⟨by first | (simp [su_su, su_at, q6, en6, q15, c41]; done) | grind, by first | (simp [su_su, su_at, q6, en6, q15, c41]; done) | grind⟩
    · have hw : r15 = 0 := hw.trans (if_neg q15)
      subst hw
      refine lv_if_ne (tgt := 24) hx hb dX5_treaty_18 (by decide) (fun hc => absurd (by decide) hc) (fun _ => ?_)
      refine lv_bipush (v := (-2)) hx hb dX5_treaty_21 (by decide +kernel) ?_
      refine x_iret hx hb hr hlocks hP hS dX5_treaty_23 ?_
      skip
      exact ⟨by first | (simp [su_su, su_at, q6, en6, q15]; done) | grind, by first | (simp [su_su, su_at, q6, en6, q15]; done) | grind⟩
  · have hw : r6 = 0 := hw.trans (if_neg q6)
    subst hw
    refine lv_if_ne (tgt := 14) hx hb dX5_treaty_9 (by decide) (fun hc => absurd (by decide) hc) (fun _ => ?_)
    refine lv_iconst (v := (-1)) hx hb dX5_treaty_12 (by decide +kernel) ?_
    refine x_iret hx hb hr hlocks hP hS dX5_treaty_13 ?_
    skip
    exact ⟨by first | (simp [su_su, su_at, q6]; done) | grind, by first | (simp [su_su, su_at, q6]; done) | grind⟩

set_option maxHeartbeats 4000000 in
set_option maxRecDepth 100000 in
theorem c5_treaty_g (hI : xI 42 ad) (S : xSt) (k0 : Nat) (hk0 : k0 < 4) (L : Nat) (hL : (su S 0 8 0) (2 + k0) 3 = nI L) (hL60 : L ≤ 60) (ln : Int32) (hln : wit ln 0 2 = true) (a q : Nat) (haq : a + q ≤ L) (hrf : rowF (su S 0 8 0) k0 ln (nI a) (nI q) = 0) : Met l yX5_treaty wsX5_treaty ({ frames := 6, cells := 0, slots := 0, locals := 129 }) (xPc (dC, dI) vwCl (tyl cI cZ cS cG) (cLy cI cZ cS cG ad) 42 ad [.ref (ad 0), .int (nI k0), .int ln, .int (nI a), .int (nI q)] S) (xQt (dC, dI) vwCl cI cZ cS cG ad (fun r u => (∃ N U, trOk (fun u => S (6 + k0) (a + u)) q N (su S 0 8 0) U ∧ r = nI N ∧ u = (adS ad, bgA U)) ∨ (∃ t, tBad (fun u => S (6 + k0) (a + u)) q t ∧ r = -100 - nI t ∧ u.1 = ad ∧ ∀ k, k ≠ 10 → k ≠ 11 → ¬ (22 ≤ k ∧ k ≤ 31) → u.2 k = (su S 0 8 0) k))) 0 0 (xA 42 ad) := by
  refine xM_of (cc := cX5_treaty) (nL := 6) (ret := (some .int)) (by decide) rfl (Nat.le_of_ble_eq_true rfl) ?_
  intro p e s m below meth c ls B hl hK hP
  obtain ⟨hx, hb, hml, hown, hts, hr, hlocks⟩ := B
  have hl : lv_has ls 6 [(0, .ref (ad 0)), (1, .int (nI k0)), (2, .int ln), (3, .int (nI a)), (4, .int (nI q))] := hl
  have hS : va_S (xA 42 ad) s.heap s.heap [] := va_S.rf
  have hAd : ∀ k, k < 42 → xA 42 ad (ad k) := xA_in
  have hinX3 : ∀ w ∈ wsX30, w ∈ wsX5_treaty := fun _ h => List.mem_cons_of_mem _ (List.mem_append_left _ (List.mem_append_left _ (List.mem_append_left _ (List.mem_append_left _ (List.mem_append_right _ h)))))
  have hinX4 : ∀ w ∈ wsX40, w ∈ wsX5_treaty := fun _ h => List.mem_cons_of_mem _ (List.mem_append_left _ (List.mem_append_left _ (List.mem_append_left _ (List.mem_append_right _ h))))
  have hinX5 : ∀ w ∈ wsX50, w ∈ wsX5_treaty := fun _ h => List.mem_cons_of_mem _ (List.mem_append_left _ (List.mem_append_left _ (List.mem_append_left _ (List.mem_append_left _ (List.mem_append_left _ (List.mem_append_right _ h))))))
  have hF : CallFix p m c cX5_treaty 6 s _ wsX5_treaty RX5 := ⟨hx, hb, hml, hown, hts⟩
  refine lv_aload_n hx hb dX5_treaty_0 rfl (lv_at hl 0 rfl) ?_
  refine lv_iconst (v := 0) hx hb dX5_treaty_1 (by decide +kernel) ?_
  refine x_put hx hb hts hinX5 tyX5 tyX5_ok nmX5 hown hK hI hAd hP hS 0 (by decide) rfl rfl 8 (by decide) (hts _ (List.mem_of_getElem? (i := 1) rfl)) rfl (upd (S 0) 8 0) rfl rfl rfl (Nat.le_of_ble_eq_true rfl) dX5_treaty_2 (fun H locs hP hS => ?_)
  have hP : va_P (dC, dI) vwCl (xW (cLy cI cZ cS cG ad) 42 ad (su S 0 8 0)) H := hP
  refine lv_iload_n hx hb dX5_treaty_5 rfl (lv_at hl 1 rfl) ?_
  refine x_calli (x_runS (As := [.int (nI k0)]) (rest := []) hF (c5_isSheet hI (su S 0 8 0) (nI k0) ) (va_cwS 1 hts gX5_treaty_X5_isSheet rfl rfl rfl (by decide +kernel) ⟨Nat.le_of_ble_eq_true rfl, Nat.le_of_ble_eq_true rfl⟩) hK hP rfl hl.1 rfl (Nat.le_of_ble_eq_true rfl) dX5_treaty_6 ⟨Nat.zero_le _, Nat.zero_le _⟩) hS hAd (fun r6 S6 H locs hw hP _ hS => ?_)
  obtain ⟨hw, eS6⟩ := hw
  rw [eS6] at hP
  by_cases q6 : wit (nI k0) 0 3 = true
  · have hw : r6 = 1 := hw.trans (if_pos q6)
    subst hw
    refine lv_if_ne (tgt := 14) hx hb dX5_treaty_9 (by decide) (fun _ => ?_) (fun hc => absurd hc (by decide))
    refine lv_iload_n hx hb dX5_treaty_14 rfl (lv_at hl 2 rfl) ?_
    refine x_calli (x_runS (As := [.int ln]) (rest := []) hF (c5_isLane hI (su S 0 8 0) ln ) (va_cwS 1 hts gX5_treaty_X5_isLane rfl rfl rfl (by decide +kernel) ⟨Nat.le_of_ble_eq_true rfl, Nat.le_of_ble_eq_true rfl⟩) hK hP rfl hl.1 rfl (Nat.le_of_ble_eq_true rfl) dX5_treaty_15 ⟨Nat.zero_le _, Nat.zero_le _⟩) hS hAd (fun r15 S15 H locs hw hP _ hS => ?_)
    obtain ⟨hw, eS15⟩ := hw
    rw [eS15] at hP
    by_cases q15 : wit ln 0 2 = true
    · have hw : r15 = 1 := hw.trans (if_pos q15)
      subst hw
      refine lv_if_ne (tgt := 24) hx hb dX5_treaty_18 (by decide) (fun _ => ?_) (fun hc => absurd hc (by decide))
      refine lv_aload_n hx hb dX5_treaty_24 rfl (lv_at hl 0 rfl) ?_
      refine x_get (v := .ref (ad 1)) hx hb hts hinX5 hown hK hP 0 (by decide) rfl rfl 0 (by decide) (hts _ (List.mem_of_getElem? (i := 2) rfl)) rfl dX5_treaty_25 ?_
      refine lv_iload_n hx hb dX5_treaty_28 rfl (lv_at hl 1 rfl) ?_
      refine x_aald (v := .ref (ad (2 + k0))) hx hb hK hP 1 2 (by decide) rfl rfl rfl k0 rfl (by omega) (by decide) (if_pos_rf (by omega)) dX5_treaty_29 ?_
      refine lv_iload_n hx hb dX5_treaty_30 rfl (lv_at hl 2 rfl) ?_
      refine lv_iload_n hx hb dX5_treaty_31 rfl (lv_at hl 3 rfl) ?_
      refine lv_iload hx hb dX5_treaty_32 (lv_at hl 4 rfl) ?_
      refine x_calli (x_runS (As := [.ref (ad (2 + k0)), .int ln, .int (nI a), .int (nI q)]) (rest := []) hF (c5_rowFault hI (su S 0 8 0) k0 (by omega) ln (nI a) (nI q) ) (va_cwS 4 hts gX5_treaty_X5_rowFault rfl rfl rfl (by decide +kernel) ⟨Nat.le_of_ble_eq_true rfl, Nat.le_of_ble_eq_true rfl⟩) hK hP rfl hl.1 rfl (Nat.le_of_ble_eq_true rfl) dX5_treaty_34 ⟨Nat.zero_le _, Nat.zero_le _⟩) hS hAd (fun r34 S34 H locs hw hP _ hS => ?_)
      obtain ⟨er34, eS34⟩ := hw
      rw [eS34] at hP
      have er34 : r34 = 0 := er34.trans hrf
      subst er34
      refine lv_istore (lv' := [(5, .int 0), (0, .ref (ad 0)), (1, .int (nI k0)), (2, .int ln), (3, .int (nI a)), (4, .int (nI q))]) hx hb dX5_treaty_37 hl (by decide) rfl (fun ls hl => ?_)
      refine lv_iload hx hb dX5_treaty_39 (lv_at hl 0 rfl) ?_
      refine lv_if_eq (tgt := 51) hx hb dX5_treaty_41 (by decide) (fun _ => ?_) (fun hc => absurd (by decide) hc)
      refine lv_aload_n hx hb dX5_treaty_51 rfl (lv_at hl 1 rfl) ?_
      refine x_get (v := .ref (ad 10)) hx hb hts hinX5 hown hK hP 0 (by decide) rfl rfl 1 (by decide) (hts _ (List.mem_of_getElem? (i := 3) rfl)) rfl dX5_treaty_52 ?_
      refine lv_aload_n hx hb dX5_treaty_55 rfl (lv_at hl 1 rfl) ?_
      refine x_get (v := .ref (ad 1)) hx hb hts hinX5 hown hK hP 0 (by decide) rfl rfl 0 (by decide) (hts _ (List.mem_of_getElem? (i := 2) rfl)) rfl dX5_treaty_56 ?_
      refine lv_iload_n hx hb dX5_treaty_59 rfl (lv_at hl 2 rfl) ?_
      refine x_aald (v := .ref (ad (2 + k0))) hx hb hK hP 1 2 (by decide) rfl rfl rfl k0 rfl (by omega) (by decide) (if_pos_rf (by omega)) dX5_treaty_60 ?_
      refine lv_iload_n hx hb dX5_treaty_61 rfl (lv_at hl 4 rfl) ?_
      refine lv_iload hx hb dX5_treaty_62 (lv_at hl 5 rfl) ?_
      refine x_callv (x_runV (As := [.ref (ad (2 + k0)), .int (nI a), .int (nI q)]) (rest := []) hF (c3_open hI (su S 0 8 0) k0 hk0 L hL hL60 a q haq) (cwV 3 hts gX5_treaty_X3_open rfl rfl rfl (by decide +kernel) ⟨Nat.le_of_ble_eq_true rfl, Nat.le_of_ble_eq_true rfl⟩) hK hP (by decide) rfl rfl rfl hl.1 rfl (Nat.le_of_ble_eq_true rfl) dX5_treaty_64 ⟨Nat.zero_le _, Nat.zero_le _⟩) hS hAd (fun S64 H locs hw hP _ hS => ?_)
      rw [hw] at hP
      rw [← hw] at hP
      have o1 : S64 10 1 = nI q := by rw [hw]; rfl
      have o2 : S64 10 2 = nI 0 := by rw [hw]; rfl
      have o3 : ∀ u, u < q → S64 11 u = (fun u => S (6 + k0) (a + u)) u := fun u h => by rw [hw, sr_self, fil_in h]; exact congrFun (su_ne (show 6 + k0 ≠ 0 by omega)) _
      have of : ∀ k, k ≠ 10 → k ≠ 11 → S64 k = (su S 0 8 0) k := fun k h1 h2 => by rw [hw, sr_ne h2, su_ne h1, su_ne h1]
      refine lv_aload_n hx hb dX5_treaty_67 rfl (lv_at hl 1 rfl) ?_
      refine x_get (v := .ref (ad 22)) hx hb hts hinX5 hown hK hP 0 (by decide) rfl rfl 3 (by decide) (hts _ (List.mem_of_getElem? (i := 4) rfl)) rfl dX5_treaty_68 ?_
      refine lv_aload_n hx hb dX5_treaty_71 rfl (lv_at hl 1 rfl) ?_
      refine x_get (v := .ref (ad 10)) hx hb hts hinX5 hown hK hP 0 (by decide) rfl rfl 1 (by decide) (hts _ (List.mem_of_getElem? (i := 3) rfl)) rfl dX5_treaty_72 ?_
      refine x_calli (x_runV (As := [.ref (ad 10)]) (rest := []) hF (c4_readsAll hI S64 q o1 (by omega) (fun u => S (6 + k0) (a + u)) o3 o2) (cwV 1 hts gX5_treaty_X4_readsAll rfl rfl rfl (by decide +kernel) ⟨Nat.le_of_ble_eq_true rfl, Nat.le_of_ble_eq_true rfl⟩) hK hP (by decide) rfl rfl rfl hl.1 rfl (Nat.le_of_ble_eq_true rfl) dX5_treaty_75 ⟨Nat.zero_le _, Nat.zero_le _⟩) hS hAd (fun r75 S75 H locs hw hP _ hS => ?_)
      rcases hw with ⟨rfl, N, hG, hb0, kc, ky, kn2, kg, ks, kf⟩ | ⟨rfl, t, hB, kp, kf⟩
      · skip
        refine lv_if_ne (tgt := 92) hx hb dX5_treaty_78 (by decide) (fun _ => ?_) (fun hc => absurd hc (by decide))
        refine lv_aload_n hx hb dX5_treaty_92 rfl (lv_at hl 1 rfl) ?_
        refine va_callv (x_runV (As := []) (rest := []) hF (c5_beginAnew hI S75) (cwV 0 hts gX5_treaty_X5_beginAnew rfl rfl rfl (by decide +kernel) ⟨Nat.le_of_ble_eq_true rfl, Nat.le_of_ble_eq_true rfl⟩) hK hP (by decide) rfl rfl rfl hl.1 rfl (Nat.le_of_ble_eq_true rfl) dX5_treaty_93 ⟨Nat.zero_le _, Nat.zero_le _⟩) hS (fun q _ h => h) (fun q h => h) (fun u t H locs ht hvm hw hB hz hq9 hS => ?_)
        have hP : va_P (dC, dI) vwCl (xW (cLy cI cZ cS cG (adS ad)) 42 (adS ad) u) H := by rw [← ht]; exact hB
        rw [hw] at hP
        refine lv_aload_n hx hb dX5_treaty_96 rfl (lv_at hl 1 rfl) ?_
        refine x_get (ad := adS ad) (v := .ref (adS ad 12)) hx hb hts hinX5 hown hK hP 0 (by decide) rfl rfl 2 (by decide) (hts _ (List.mem_of_getElem? (i := 6) rfl)) rfl dX5_treaty_97 ?_
        refine x_get (ad := adS ad) (v := .int (S75 22 2)) hx hb hts hinX4 hown hK hP 12 (by decide) rfl rfl 2 (by decide) (hts _ (List.mem_of_getElem? (i := 7) rfl)) rfl dX5_treaty_100 ?_
        refine x_tret hx hb hr hlocks hP hS dX5_treaty_103 ?_
        exact Or.inl ⟨N, S75, ⟨hG, hb0, kc, ky, kn2, kg, ks, fun k h1 h2 h3 => (kf k h1 h3).trans (of k h1 h2)⟩, kn2, rfl⟩
      · skip
        refine lv_if_ne (tgt := 92) hx hb dX5_treaty_78 (by decide) (fun hc => absurd (by decide) hc) (fun _ => ?_)
        refine lv_bipush (v := (-100)) hx hb dX5_treaty_81 (by decide +kernel) ?_
        refine lv_aload_n hx hb dX5_treaty_83 rfl (lv_at hl 1 rfl) ?_
        refine x_get (v := .ref (ad 10)) hx hb hts hinX5 hown hK hP 0 (by decide) rfl rfl 1 (by decide) (hts _ (List.mem_of_getElem? (i := 3) rfl)) rfl dX5_treaty_84 ?_
        refine x_get (v := .int (S75 10 2)) hx hb hts hinX3 hown hK hP 10 (by decide) rfl rfl 2 (by decide) (hts _ (List.mem_of_getElem? (i := 5) rfl)) rfl dX5_treaty_87 ?_
        refine lv_isub hx hb dX5_treaty_90 ?_
        refine x_tret hx hb hr hlocks hP hS dX5_treaty_91 ?_
        rw [show S75 10 2 = nI t from kp]
        exact Or.inr ⟨t, hB, rfl, rfl, fun k h1 h2 h3 => (kf k h1 h3).trans (of k h1 h2)⟩
    · have hw : r15 = 0 := hw.trans (if_neg q15)
      subst hw
      exact absurd hln q15
  · have hw : r6 = 0 := hw.trans (if_neg q6)
    subst hw
    exact absurd (wit3_of hk0) q6

end C10
