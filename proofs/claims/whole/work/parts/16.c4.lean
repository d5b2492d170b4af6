section C4
variable {l : Launch} {dC : Nat → ClassId} {dI : Nat → Nat → Nat} {cI cZ cS cG : ClassId} {ad bd : Nat → Nat}
set_option maxHeartbeats 4000000 in
set_option maxRecDepth 100000 in
theorem c5_sheet (hI : xI 42 ad) (S : xSt) (kn ln n : Int32) : xMi l yX5_sheet wsX5_sheet ({ frames := 2, cells := 0, slots := 0, locals := 63 }) (dC, dI) vwCl (tyl cI cZ cS cG) (cLy cI cZ cS cG ad) 42 ad [.ref (ad 0), .int kn, .int ln, .int n] S (fun r S' => r = (if wit kn 0 3 then (if wit ln 0 2 ∧ ¬ 60 < n then (if n < 0 then -14 else 1) else -2) else -1) ∧ S' = (if wit kn 0 3 then (if wit ln 0 2 ∧ ¬ 60 < n then (if n < 0 then su (su S 0 8 0) 0 8 4 else shN (su S 0 8 0) (nN kn) ln n) else (su S 0 8 0)) else (su S 0 8 0))) := by
  refine xM_of (cc := cX5_sheet) (nL := 4) (ret := (some .int)) (by decide) rfl (Nat.le_of_ble_eq_true rfl) ?_
  intro p e s m below meth c ls B hl hK hP
  obtain ⟨hx, hb, hml, hown, hts, hr, hlocks⟩ := B
  have hl : lv_has ls 4 [(0, .ref (ad 0)), (1, .int kn), (2, .int ln), (3, .int n)] := hl
  have hS : va_S (xA 42 ad) s.heap s.heap [] := va_S.rf
  have hAd : ∀ k, k < 42 → xA 42 ad (ad k) := xA_in
  have hinX5 : ∀ w ∈ wsX50, w ∈ wsX5_sheet := fun _ h => List.mem_cons_of_mem _ (List.mem_append_left _ (List.mem_append_right _ h))
  have hF : CallFix p m c cX5_sheet 4 s _ wsX5_sheet RX5 := ⟨hx, hb, hml, hown, hts⟩
  refine lv_aload_n hx hb dX5_sheet_0 rfl (lv_at hl 0 rfl) ?_
  refine lv_iconst (v := 0) hx hb dX5_sheet_1 (by decide +kernel) ?_
  refine x_put hx hb hts hinX5 tyX5 tyX5_ok nmX5 hown hK hI hAd hP hS 0 (by decide) rfl rfl 8 (by decide) (hts _ (List.mem_of_getElem? (i := 1) rfl)) rfl (upd (S 0) 8 0) rfl rfl rfl (Nat.le_of_ble_eq_true rfl) dX5_sheet_2 (fun H locs hP hS => ?_)
  have hP : va_P (dC, dI) vwCl (xW (cLy cI cZ cS cG ad) 42 ad (su S 0 8 0)) H := hP
  obtain ⟨S1, eS1⟩ : ∃ z, z = su S 0 8 0 := ⟨_, rfl⟩
  rw [← eS1] at hP 
  refine lv_iload_n hx hb dX5_sheet_5 rfl (lv_at hl 1 rfl) ?_
  refine x_calli (x_runS (As := [.int kn]) (rest := []) hF (c5_isSheet hI S1 kn ) (va_cwS 1 hts gX5_sheet_X5_isSheet rfl rfl rfl (by decide +kernel) ⟨Nat.le_of_ble_eq_true rfl, Nat.le_of_ble_eq_true rfl⟩) hK hP rfl hl.1 rfl (Nat.le_of_ble_eq_true rfl) dX5_sheet_6 ⟨Nat.zero_le _, Nat.zero_le _⟩) hS hAd (fun r6 S6 H locs hw hP _ hS => ?_)
  obtain ⟨hw, eS6⟩ := hw
  rw [eS6] at hP
  by_cases q6 : wit kn 0 3 = true
  · have hw : r6 = 1 := hw.trans (if_pos q6)
    subst hw
    obtain ⟨j6, hj6, rfl⟩ := wit3_ex q6
    have en6 : nN (nI j6) = j6 := nN_nI (by omega)
    refine lv_if_ne (tgt := 14) hx hb dX5_sheet_9 (by decide) (fun _ => ?_) (fun hc => absurd hc (by decide))
    refine lv_iload_n hx hb dX5_sheet_14 rfl (lv_at hl 2 rfl) ?_
    refine x_calli (x_runS (As := [.int ln]) (rest := []) hF (c5_isLane hI S1 ln ) (va_cwS 1 hts gX5_sheet_X5_isLane rfl rfl rfl (by decide +kernel) ⟨Nat.le_of_ble_eq_true rfl, Nat.le_of_ble_eq_true rfl⟩) hK hP rfl hl.1 rfl (Nat.le_of_ble_eq_true rfl) dX5_sheet_15 ⟨Nat.zero_le _, Nat.zero_le _⟩) hS hAd (fun r15 S15 H locs hw hP _ hS => ?_)
    obtain ⟨hw, eS15⟩ := hw
    rw [eS15] at hP
    by_cases q15 : wit ln 0 2 = true
    · have hw : r15 = 1 := hw.trans (if_pos q15)
      subst hw
      refine lv_if_eq (tgt := 27) hx hb dX5_sheet_18 (by decide) (fun hc => absurd hc (by decide)) (fun _ => ?_)
      refine lv_iload_n hx hb dX5_sheet_21 rfl (lv_at hl 3 rfl) ?_
      refine lv_bipush (v := 60) hx hb dX5_sheet_22 (by decide +kernel) ?_
      refine lv_icmp_le (tgt := 30) hx hb dX5_sheet_24 (by decide) (fun c24 => ?_) (fun c24 => ?_)
      · have d24 := Int32.not_lt.mpr c24
        refine lv_iload_n hx hb dX5_sheet_30 rfl (lv_at hl 3 rfl) ?_
        refine lv_if_ge (tgt := 40) hx hb dX5_sheet_31 (by decide) (fun c31 => ?_) (fun c31 => ?_)
        · have d31 := Int32.not_lt.mpr c31
          obtain ⟨n0, hn0, rfl⟩ := nI_of2 (M := 60) (n := 60) (by decide +kernel) d31 c24
          refine lv_aload_n hx hb dX5_sheet_40 rfl (lv_at hl 0 rfl) ?_
          refine x_get (v := .ref (ad 1)) hx hb hts hinX5 hown hK hP 0 (by decide) rfl rfl 0 (by decide) (hts _ (List.mem_of_getElem? (i := 2) rfl)) rfl dX5_sheet_41 ?_
          refine lv_iload_n hx hb dX5_sheet_44 rfl (lv_at hl 1 rfl) ?_
          refine x_aald (v := .ref (ad (2 + j6))) hx hb hK hP 1 2 (by decide) rfl rfl rfl j6 rfl (by omega) (by decide) (if_pos_rf (by omega)) dX5_sheet_45 ?_
          refine lv_iload_n hx hb dX5_sheet_46 rfl (lv_at hl 2 rfl) ?_
          refine lv_iload_n hx hb dX5_sheet_47 rfl (lv_at hl 3 rfl) ?_
          refine x_callv (x_runV (As := [.int ln, .int (nI n0)]) (rest := []) hF (c2_begin hI S1 j6 (by omega) ln n0 hn0) (cwV 2 hts gX5_sheet_X2_begin rfl rfl rfl (by decide +kernel) ⟨Nat.le_of_ble_eq_true rfl, Nat.le_of_ble_eq_true rfl⟩) hK hP (by omega) (cLy_sheet (by omega) _) rfl rfl hl.1 rfl (Nat.le_of_ble_eq_true rfl) dX5_sheet_48 ⟨Nat.zero_le _, Nat.zero_le _⟩) hS hAd (fun S48 H locs hw hP _ hS => ?_)
          rw [hw] at hP
          refine lv_iconst (v := 1) hx hb dX5_sheet_51 (by decide +kernel) ?_
          refine x_iret hx hb hr hlocks hP hS dX5_sheet_52 ?_
          subst eS1
          exact ⟨by first | (simp [su_su, q6, en6, q15, c24, d24, c31, d31]; done) | (simp [su2, su6, q6, en6, q15, c24, d24, c31, d31]; done) | grind, by first | (simp [su_su, q6, en6, q15, c24, d24, c31, d31]; done) | (simp [su2, su6, q6, en6, q15, c24, d24, c31, d31]; done) | grind⟩
        · have d31 := Int32.not_le.mp c31
          refine lv_aload_n hx hb dX5_sheet_34 rfl (lv_at hl 0 rfl) ?_
          refine lv_iconst (v := 4) hx hb dX5_sheet_35 (by decide +kernel) ?_
          refine x_calli (x_runV (As := [.int 4]) (rest := []) hF (c5_faulted hI S1 4 ) (cwV 1 hts gX5_sheet_X5_faulted rfl rfl rfl (by decide +kernel) ⟨Nat.le_of_ble_eq_true rfl, Nat.le_of_ble_eq_true rfl⟩) hK hP (by decide) rfl rfl rfl hl.1 rfl (Nat.le_of_ble_eq_true rfl) dX5_sheet_36 ⟨Nat.zero_le _, Nat.zero_le _⟩) hS hAd (fun r36 S36 H locs hw hP _ hS => ?_)
          obtain ⟨er36, eS36⟩ := hw
          rw [eS36] at hP
          refine x_iret hx hb hr hlocks hP hS dX5_sheet_39 ?_
          subst eS1; subst er36
          exact ⟨by first | (simp [su_su, q6, en6, q15, c24, d24, c31, d31]; done) | (simp [su2, su6, q6, en6, q15, c24, d24, c31, d31]; done) | grind, by first | (simp [su_su, q6, en6, q15, c24, d24, c31, d31]; done) | (simp [su2, su6, q6, en6, q15, c24, d24, c31, d31]; done) | grind⟩
      · have d24 := Int32.not_le.mp c24
        refine lv_bipush (v := (-2)) hx hb dX5_sheet_27 (by decide +kernel) ?_
        refine x_iret hx hb hr hlocks hP hS dX5_sheet_29 ?_
        subst eS1
        exact ⟨by first | (simp [su_su, q6, en6, q15, c24, d24]; done) | (simp [su2, su6, q6, en6, q15, c24, d24]; done) | grind, by first | (simp [su_su, q6, en6, q15, c24, d24]; done) | (simp [su2, su6, q6, en6, q15, c24, d24]; done) | grind⟩
    · have hw : r15 = 0 := hw.trans (if_neg q15)
      subst hw
      refine lv_if_eq (tgt := 27) hx hb dX5_sheet_18 (by decide) (fun _ => ?_) (fun hc => absurd (by decide) hc)
      refine lv_bipush (v := (-2)) hx hb dX5_sheet_27 (by decide +kernel) ?_
      refine x_iret hx hb hr hlocks hP hS dX5_sheet_29 ?_
      subst eS1
      exact ⟨by first | (simp [su_su, q6, en6, q15]; done) | (simp [su2, su6, q6, en6, q15]; done) | grind, by first | (simp [su_su, q6, en6, q15]; done) | (simp [su2, su6, q6, en6, q15]; done) | grind⟩
  · have hw : r6 = 0 := hw.trans (if_neg q6)
    subst hw
    refine lv_if_ne (tgt := 14) hx hb dX5_sheet_9 (by decide) (fun hc => absurd (by decide) hc) (fun _ => ?_)
    refine lv_iconst (v := (-1)) hx hb dX5_sheet_12 (by decide +kernel) ?_
    refine x_iret hx hb hr hlocks hP hS dX5_sheet_13 ?_
    subst eS1
    exact ⟨by first | (simp [su_su, q6]; done) | (simp [su2, su6, q6]; done) | grind, by first | (simp [su_su, q6]; done) | (simp [su2, su6, q6]; done) | grind⟩

set_option maxHeartbeats 4000000 in
set_option maxRecDepth 100000 in
theorem c5_lose (hI : xI 42 ad) (S : xSt) (kn : Int32) : xMi l yX5_lose wsX5_lose ({ frames := 1, cells := 0, slots := 0, locals := 20 }) (dC, dI) vwCl (tyl cI cZ cS cG) (cLy cI cZ cS cG ad) 42 ad [.ref (ad 0), .int kn] S (fun r S' => r = (if wit kn 0 3 then (if S (2 + nN kn) 1 = 0 then 0 else 1) else -1) ∧ S' = (if wit kn 0 3 then su S (2 + nN kn) 1 0 else S)) := by
  refine xM_of (cc := cX5_lose) (nL := 3) (ret := (some .int)) (by decide) rfl (Nat.le_of_ble_eq_true rfl) ?_
  intro p e s m below meth c ls B hl hK hP
  obtain ⟨hx, hb, hml, hown, hts, hr, hlocks⟩ := B
  have hl : lv_has ls 3 [(0, .ref (ad 0)), (1, .int kn)] := hl
  have hS : va_S (xA 42 ad) s.heap s.heap [] := va_S.rf
  have hAd : ∀ k, k < 42 → xA 42 ad (ad k) := xA_in
  have hinX2 : ∀ w ∈ wsX20, w ∈ wsX5_lose := fun _ h => List.mem_cons_of_mem _ (List.mem_append_right _ h)
  have hinX5 : ∀ w ∈ wsX50, w ∈ wsX5_lose := fun _ h => List.mem_cons_of_mem _ (List.mem_append_left _ (List.mem_append_right _ h))
  have hF : CallFix p m c cX5_lose 3 s _ wsX5_lose RX5 := ⟨hx, hb, hml, hown, hts⟩
  refine lv_iload_n hx hb dX5_lose_0 rfl (lv_at hl 1 rfl) ?_
  refine x_calli (x_runS (As := [.int kn]) (rest := []) hF (c5_isSheet hI S kn ) (va_cwS 1 hts gX5_lose_X5_isSheet rfl rfl rfl (by decide +kernel) ⟨Nat.le_of_ble_eq_true rfl, Nat.le_of_ble_eq_true rfl⟩) hK hP rfl hl.1 rfl (Nat.le_of_ble_eq_true rfl) dX5_lose_1 ⟨Nat.zero_le _, Nat.zero_le _⟩) hS hAd (fun r1 S1 H locs hw hP _ hS => ?_)
  obtain ⟨hw, eS1⟩ := hw
  rw [eS1] at hP
  by_cases q1 : wit kn 0 3 = true
  · have hw : r1 = 1 := hw.trans (if_pos q1)
    subst hw
    obtain ⟨j1, hj1, rfl⟩ := wit3_ex q1
    have en1 : nN (nI j1) = j1 := nN_nI (by omega)
    refine lv_if_ne (tgt := 9) hx hb dX5_lose_4 (by decide) (fun _ => ?_) (fun hc => absurd hc (by decide))
    refine lv_aload_n hx hb dX5_lose_9 rfl (lv_at hl 0 rfl) ?_
    refine x_get (v := .ref (ad 1)) hx hb hts hinX5 hown hK hP 0 (by decide) rfl rfl 0 (by decide) (hts _ (List.mem_of_getElem? (i := 1) rfl)) rfl dX5_lose_10 ?_
    refine lv_iload_n hx hb dX5_lose_13 rfl (lv_at hl 1 rfl) ?_
    refine x_aald (v := .ref (ad (2 + j1))) hx hb hK hP 1 2 (by decide) rfl rfl rfl j1 rfl (by omega) (by decide) (if_pos_rf (by omega)) dX5_lose_14 ?_
    refine x_get (v := .int (S (2 + j1) 1)) hx hb hts hinX2 hown hK hP (2 + j1) (by omega) (cLy_sheet (by omega) _) rfl 1 (by decide) (hts _ (List.mem_of_getElem? (i := 2) rfl)) rfl dX5_lose_15 ?_
    refine lv_topi (fun x18 ex18 => ?_)
    refine lv_istore_n (lv' := [(2, .int x18), (0, .ref (ad 0)), (1, .int (nI j1))]) hx hb dX5_lose_18 rfl hl (by decide) rfl (fun ls hl => ?_)
    refine lv_aload_n hx hb dX5_lose_19 rfl (lv_at hl 1 rfl) ?_
    refine x_get (v := .ref (ad 1)) hx hb hts hinX5 hown hK hP 0 (by decide) rfl rfl 0 (by decide) (hts _ (List.mem_of_getElem? (i := 1) rfl)) rfl dX5_lose_20 ?_
    refine lv_iload_n hx hb dX5_lose_23 rfl (lv_at hl 2 rfl) ?_
    refine x_aald (v := .ref (ad (2 + j1))) hx hb hK hP 1 2 (by decide) rfl rfl rfl j1 rfl (by omega) (by decide) (if_pos_rf (by omega)) dX5_lose_24 ?_
    refine lv_iconst (v := 0) hx hb dX5_lose_25 (by decide +kernel) ?_
    refine x_put hx hb hts hinX2 tyX2 tyX2_ok nmX2 hown hK hI hAd hP hS (2 + j1) (by omega) (cLy_sheet (by omega) _) rfl 1 (by decide) (hts _ (List.mem_of_getElem? (i := 2) rfl)) rfl (upd (S (2 + j1)) 1 0) ((cLy_sheet (by omega) _).trans rfl) (by decide +kernel) rfl (Nat.le_of_ble_eq_true rfl) dX5_lose_26 (fun H locs hP hS => ?_)
    have hP : va_P (dC, dI) vwCl (xW (cLy cI cZ cS cG ad) 42 ad (su S (2 + j1) 1 0)) H := hP
    refine lv_iload_n hx hb dX5_lose_29 rfl (lv_at hl 0 rfl) ?_
    refine lv_if_eq (tgt := 37) hx hb dX5_lose_30 (by decide) (fun c30 => ?_) (fun c30 => ?_)
    · refine lv_iconst (v := 0) hx hb dX5_lose_37 (by decide +kernel) ?_
      refine x_iret hx hb hr hlocks hP hS dX5_lose_38 ?_
      subst ex18
      exact ⟨by first | (simp [q1, en1, c30]; done) | grind, by first | (simp [q1, en1, c30]; done) | grind⟩
    · refine lv_iconst (v := 1) hx hb dX5_lose_33 (by decide +kernel) ?_
      refine lv_goto (tgt := 38) hx hb dX5_lose_34 (by decide) ?_
      refine x_iret hx hb hr hlocks hP hS dX5_lose_38 ?_
      subst ex18
      exact ⟨by first | (simp [q1, en1, c30]; done) | grind, by first | (simp [q1, en1, c30]; done) | grind⟩
  · have hw : r1 = 0 := hw.trans (if_neg q1)
    subst hw
    refine lv_if_ne (tgt := 9) hx hb dX5_lose_4 (by decide) (fun hc => absurd (by decide) hc) (fun _ => ?_)
    refine lv_iconst (v := (-1)) hx hb dX5_lose_7 (by decide +kernel) ?_
    refine x_iret hx hb hr hlocks hP hS dX5_lose_8 ?_
    skip
    exact ⟨by first | (simp [q1]; done) | grind, by first | (simp [q1]; done) | grind⟩

set_option maxHeartbeats 4000000 in
set_option maxRecDepth 100000 in
theorem c5_put (hI : xI 42 ad) (S : xSt) (hsh : ∀ k, k < 4 → okN ((su S 0 8 0) (2 + k) 3) 61) (kn i v : Int32) : xMi l yX5_put wsX5_put ({ frames := 2, cells := 0, slots := 0, locals := 43 }) (dC, dI) vwCl (tyl cI cZ cS cG) (cLy cI cZ cS cG ad) 42 ad [.ref (ad 0), .int kn, .int i, .int v] S (fun r S' => r = (if wit kn 0 3 then (if (su S 0 8 0) (2 + nN kn) 1 = 0 then -11 else if inR i ((su S 0 8 0) (2 + nN kn) 3) then 1 else -13) else -1) ∧ S' = (if wit kn 0 3 then (if (su S 0 8 0) (2 + nN kn) 1 = 0 then su (su S 0 8 0) 0 8 1 else if inR i ((su S 0 8 0) (2 + nN kn) 3) then su (su S 0 8 0) (6 + nN kn) (nN i) (cutL ((su S 0 8 0) (2 + nN kn) 2) v) else su (su S 0 8 0) 0 8 3) else (su S 0 8 0))) := by
  refine xM_of (cc := cX5_put) (nL := 4) (ret := (some .int)) (by decide) rfl (Nat.le_of_ble_eq_true rfl) ?_
  intro p e s m below meth c ls B hl hK hP
  obtain ⟨hx, hb, hml, hown, hts, hr, hlocks⟩ := B
  have hl : lv_has ls 4 [(0, .ref (ad 0)), (1, .int kn), (2, .int i), (3, .int v)] := hl
  have hS : va_S (xA 42 ad) s.heap s.heap [] := va_S.rf
  have hAd : ∀ k, k < 42 → xA 42 ad (ad k) := xA_in
  have hinX2 : ∀ w ∈ wsX20, w ∈ wsX5_put := fun _ h => List.mem_cons_of_mem _ (List.mem_append_right _ h)
  have hinX5 : ∀ w ∈ wsX50, w ∈ wsX5_put := fun _ h => List.mem_cons_of_mem _ (List.mem_append_left _ (List.mem_append_right _ h))
  have hF : CallFix p m c cX5_put 4 s _ wsX5_put RX5 := ⟨hx, hb, hml, hown, hts⟩
  refine lv_aload_n hx hb dX5_put_0 rfl (lv_at hl 0 rfl) ?_
  refine lv_iconst (v := 0) hx hb dX5_put_1 (by decide +kernel) ?_
  refine x_put hx hb hts hinX5 tyX5 tyX5_ok nmX5 hown hK hI hAd hP hS 0 (by decide) rfl rfl 8 (by decide) (hts _ (List.mem_of_getElem? (i := 1) rfl)) rfl (upd (S 0) 8 0) rfl rfl rfl (Nat.le_of_ble_eq_true rfl) dX5_put_2 (fun H locs hP hS => ?_)
  have hP : va_P (dC, dI) vwCl (xW (cLy cI cZ cS cG ad) 42 ad (su S 0 8 0)) H := hP
  obtain ⟨S1, eS1⟩ : ∃ z, z = su S 0 8 0 := ⟨_, rfl⟩
  rw [← eS1] at hP hsh
  refine lv_iload_n hx hb dX5_put_5 rfl (lv_at hl 1 rfl) ?_
  refine x_calli (x_runS (As := [.int kn]) (rest := []) hF (c5_isSheet hI S1 kn ) (va_cwS 1 hts gX5_put_X5_isSheet rfl rfl rfl (by decide +kernel) ⟨Nat.le_of_ble_eq_true rfl, Nat.le_of_ble_eq_true rfl⟩) hK hP rfl hl.1 rfl (Nat.le_of_ble_eq_true rfl) dX5_put_6 ⟨Nat.zero_le _, Nat.zero_le _⟩) hS hAd (fun r6 S6 H locs hw hP _ hS => ?_)
  obtain ⟨hw, eS6⟩ := hw
  rw [eS6] at hP
  by_cases q6 : wit kn 0 3 = true
  · have hw : r6 = 1 := hw.trans (if_pos q6)
    subst hw
    obtain ⟨j6, hj6, rfl⟩ := wit3_ex q6
    have en6 : nN (nI j6) = j6 := nN_nI (by omega)
    obtain ⟨L, hL61, hL⟩ := hsh j6 hj6
    have hL60 : L ≤ 60 := by omega
    refine lv_if_ne (tgt := 14) hx hb dX5_put_9 (by decide) (fun _ => ?_) (fun hc => absurd hc (by decide))
    refine lv_aload_n hx hb dX5_put_14 rfl (lv_at hl 0 rfl) ?_
    refine x_get (v := .ref (ad 1)) hx hb hts hinX5 hown hK hP 0 (by decide) rfl rfl 0 (by decide) (hts _ (List.mem_of_getElem? (i := 2) rfl)) rfl dX5_put_15 ?_
    refine lv_iload_n hx hb dX5_put_18 rfl (lv_at hl 1 rfl) ?_
    refine x_aald (v := .ref (ad (2 + j6))) hx hb hK hP 1 2 (by decide) rfl rfl rfl j6 rfl (by omega) (by decide) (if_pos_rf (by omega)) dX5_put_19 ?_
    refine x_get (v := .int (S1 (2 + j6) 1)) hx hb hts hinX2 hown hK hP (2 + j6) (by omega) (cLy_sheet (by omega) _) rfl 1 (by decide) (hts _ (List.mem_of_getElem? (i := 3) rfl)) rfl dX5_put_20 ?_
    refine lv_if_ne (tgt := 32) hx hb dX5_put_23 (by decide) (fun c23 => ?_) (fun c23 => ?_)
    · refine lv_aload_n hx hb dX5_put_32 rfl (lv_at hl 0 rfl) ?_
      refine x_get (v := .ref (ad 1)) hx hb hts hinX5 hown hK hP 0 (by decide) rfl rfl 0 (by decide) (hts _ (List.mem_of_getElem? (i := 2) rfl)) rfl dX5_put_33 ?_
      refine lv_iload_n hx hb dX5_put_36 rfl (lv_at hl 1 rfl) ?_
      refine x_aald (v := .ref (ad (2 + j6))) hx hb hK hP 1 2 (by decide) rfl rfl rfl j6 rfl (by omega) (by decide) (if_pos_rf (by omega)) dX5_put_37 ?_
      refine lv_iload_n hx hb dX5_put_38 rfl (lv_at hl 2 rfl) ?_
      refine x_calli (x_runV (As := [.int i]) (rest := []) hF (c2_hasCell hI S1 j6 (by omega) i ) (cwV 1 hts gX5_put_X2_hasCell rfl rfl rfl (by decide +kernel) ⟨Nat.le_of_ble_eq_true rfl, Nat.le_of_ble_eq_true rfl⟩) hK hP (by omega) (cLy_sheet (by omega) _) rfl rfl hl.1 rfl (Nat.le_of_ble_eq_true rfl) dX5_put_39 ⟨Nat.zero_le _, Nat.zero_le _⟩) hS hAd (fun r39 S39 H locs hw hP _ hS => ?_)
      obtain ⟨hw, eS39⟩ := hw
      rw [eS39] at hP
      by_cases q39 : inR i (S1 (2 + j6) 3) = true
      · have hw : r39 = 1 := hw.trans (if_pos q39)
        subst hw
        refine lv_if_ne (tgt := 51) hx hb dX5_put_42 (by decide) (fun _ => ?_) (fun hc => absurd hc (by decide))
        refine lv_aload_n hx hb dX5_put_51 rfl (lv_at hl 0 rfl) ?_
        refine x_get (v := .ref (ad 1)) hx hb hts hinX5 hown hK hP 0 (by decide) rfl rfl 0 (by decide) (hts _ (List.mem_of_getElem? (i := 2) rfl)) rfl dX5_put_52 ?_
        refine lv_iload_n hx hb dX5_put_55 rfl (lv_at hl 1 rfl) ?_
        refine x_aald (v := .ref (ad (2 + j6))) hx hb hK hP 1 2 (by decide) rfl rfl rfl j6 rfl (by omega) (by decide) (if_pos_rf (by omega)) dX5_put_56 ?_
        refine lv_iload_n hx hb dX5_put_57 rfl (lv_at hl 2 rfl) ?_
        refine lv_iload_n hx hb dX5_put_58 rfl (lv_at hl 3 rfl) ?_
        refine x_callv (x_runV (As := [.int i, .int v]) (rest := []) hF (c2_write hI S1 j6 (by omega) L hL hL60 i v ) (cwV 2 hts gX5_put_X2_write rfl rfl rfl (by decide +kernel) ⟨Nat.le_of_ble_eq_true rfl, Nat.le_of_ble_eq_true rfl⟩) hK hP (by omega) (cLy_sheet (by omega) _) rfl rfl hl.1 rfl (Nat.le_of_ble_eq_true rfl) dX5_put_59 ⟨Nat.zero_le _, Nat.zero_le _⟩) hS hAd (fun S59 H locs hw hP _ hS => ?_)
        rw [hw] at hP
        refine lv_iconst (v := 1) hx hb dX5_put_62 (by decide +kernel) ?_
        refine x_iret hx hb hr hlocks hP hS dX5_put_63 ?_
        subst eS1
        exact ⟨by first | (simp [su_su, q6, en6, c23, q39]; done) | (simp [su2, su6, q6, en6, c23, q39]; done) | grind, by first | (simp [su_su, q6, en6, c23, q39]; done) | (simp [su2, su6, q6, en6, c23, q39]; done) | grind⟩
      · have hw : r39 = 0 := hw.trans (if_neg q39)
        subst hw
        refine lv_if_ne (tgt := 51) hx hb dX5_put_42 (by decide) (fun hc => absurd (by decide) hc) (fun _ => ?_)
        refine lv_aload_n hx hb dX5_put_45 rfl (lv_at hl 0 rfl) ?_
        refine lv_iconst (v := 3) hx hb dX5_put_46 (by decide +kernel) ?_
        refine x_calli (x_runV (As := [.int 3]) (rest := []) hF (c5_faulted hI S1 3 ) (cwV 1 hts gX5_put_X5_faulted rfl rfl rfl (by decide +kernel) ⟨Nat.le_of_ble_eq_true rfl, Nat.le_of_ble_eq_true rfl⟩) hK hP (by decide) rfl rfl rfl hl.1 rfl (Nat.le_of_ble_eq_true rfl) dX5_put_47 ⟨Nat.zero_le _, Nat.zero_le _⟩) hS hAd (fun r47 S47 H locs hw hP _ hS => ?_)
        obtain ⟨er47, eS47⟩ := hw
        rw [eS47] at hP
        refine x_iret hx hb hr hlocks hP hS dX5_put_50 ?_
        subst eS1; subst er47
        exact ⟨by first | (simp [su_su, q6, en6, c23, q39]; done) | (simp [su2, su6, q6, en6, c23, q39]; done) | grind, by first | (simp [su_su, q6, en6, c23, q39]; done) | (simp [su2, su6, q6, en6, c23, q39]; done) | grind⟩
    · refine lv_aload_n hx hb dX5_put_26 rfl (lv_at hl 0 rfl) ?_
      refine lv_iconst (v := 1) hx hb dX5_put_27 (by decide +kernel) ?_
      refine x_calli (x_runV (As := [.int 1]) (rest := []) hF (c5_faulted hI S1 1 ) (cwV 1 hts gX5_put_X5_faulted rfl rfl rfl (by decide +kernel) ⟨Nat.le_of_ble_eq_true rfl, Nat.le_of_ble_eq_true rfl⟩) hK hP (by decide) rfl rfl rfl hl.1 rfl (Nat.le_of_ble_eq_true rfl) dX5_put_28 ⟨Nat.zero_le _, Nat.zero_le _⟩) hS hAd (fun r28 S28 H locs hw hP _ hS => ?_)
      obtain ⟨er28, eS28⟩ := hw
      rw [eS28] at hP
      refine x_iret hx hb hr hlocks hP hS dX5_put_31 ?_
      subst eS1; subst er28
      exact ⟨by first | (simp [su_su, q6, en6, c23]; done) | (simp [su2, su6, q6, en6, c23]; done) | grind, by first | (simp [su_su, q6, en6, c23]; done) | (simp [su2, su6, q6, en6, c23]; done) | grind⟩
  · have hw : r6 = 0 := hw.trans (if_neg q6)
    subst hw
    refine lv_if_ne (tgt := 14) hx hb dX5_put_9 (by decide) (fun hc => absurd (by decide) hc) (fun _ => ?_)
    refine lv_iconst (v := (-1)) hx hb dX5_put_12 (by decide +kernel) ?_
    refine x_iret hx hb hr hlocks hP hS dX5_put_13 ?_
    subst eS1
    exact ⟨by first | (simp [su_su, q6]; done) | (simp [su2, su6, q6]; done) | grind, by first | (simp [su_su, q6]; done) | (simp [su2, su6, q6]; done) | grind⟩

set_option maxHeartbeats 4000000 in
set_option maxRecDepth 100000 in
theorem c5_cell (hI : xI 42 ad) (S : xSt) (hsh : ∀ k, k < 4 → okN ((su S 0 8 0) (2 + k) 3) 61) (kn i ln : Int32) : xMl l yX5_cell wsX5_cell ({ frames := 2, cells := 0, slots := 0, locals := 42 }) (dC, dI) vwCl (tyl cI cZ cS cG) (cLy cI cZ cS cG ad) 42 ad [.ref (ad 0), .int kn, .int i, .int ln] S (fun r S' => r = (if wit kn 0 3 ∧ wit ln 0 2 then (if (if laneF (su S 0 8 0) (nN kn) ln = 0 then (if inR i ((su S 0 8 0) (2 + nN kn) 3) then 0 else 3) else laneF (su S 0 8 0) (nN kn) ln) = 0 then ((su S 0 8 0) (6 + nN kn) (nN i)).toInt64 else -9223372036854775808) else -9223372036854775808) ∧ S' = (if wit kn 0 3 ∧ wit ln 0 2 then su (su S 0 8 0) 0 8 (if laneF (su S 0 8 0) (nN kn) ln = 0 then (if inR i ((su S 0 8 0) (2 + nN kn) 3) then 0 else 3) else laneF (su S 0 8 0) (nN kn) ln) else (su S 0 8 0))) := by
  refine xM_of (cc := cX5_cell) (nL := 5) (ret := (some .long)) (by decide) rfl (Nat.le_of_ble_eq_true rfl) ?_
  intro p e s m below meth c ls B hl hK hP
  obtain ⟨hx, hb, hml, hown, hts, hr, hlocks⟩ := B
  have hl : lv_has ls 5 [(0, .ref (ad 0)), (1, .int kn), (2, .int i), (3, .int ln)] := hl
  have hS : va_S (xA 42 ad) s.heap s.heap [] := va_S.rf
  have hAd : ∀ k, k < 42 → xA 42 ad (ad k) := xA_in
  have hinX5 : ∀ w ∈ wsX50, w ∈ wsX5_cell := fun _ h => List.mem_cons_of_mem _ (List.mem_append_left _ (List.mem_append_right _ h))
  have hF : CallFix p m c cX5_cell 5 s _ wsX5_cell RX5 := ⟨hx, hb, hml, hown, hts⟩
  refine lv_aload_n hx hb dX5_cell_0 rfl (lv_at hl 0 rfl) ?_
  refine lv_iconst (v := 0) hx hb dX5_cell_1 (by decide +kernel) ?_
  refine x_put hx hb hts hinX5 tyX5 tyX5_ok nmX5 hown hK hI hAd hP hS 0 (by decide) rfl rfl 8 (by decide) (hts _ (List.mem_of_getElem? (i := 1) rfl)) rfl (upd (S 0) 8 0) rfl rfl rfl (Nat.le_of_ble_eq_true rfl) dX5_cell_2 (fun H locs hP hS => ?_)
  have hP : va_P (dC, dI) vwCl (xW (cLy cI cZ cS cG ad) 42 ad (su S 0 8 0)) H := hP
  obtain ⟨S1, eS1⟩ : ∃ z, z = su S 0 8 0 := ⟨_, rfl⟩
  rw [← eS1] at hP hsh
  refine lv_iload_n hx hb dX5_cell_5 rfl (lv_at hl 1 rfl) ?_
  refine x_calli (x_runS (As := [.int kn]) (rest := []) hF (c5_isSheet hI S1 kn ) (va_cwS 1 hts gX5_cell_X5_isSheet rfl rfl rfl (by decide +kernel) ⟨Nat.le_of_ble_eq_true rfl, Nat.le_of_ble_eq_true rfl⟩) hK hP rfl hl.1 rfl (Nat.le_of_ble_eq_true rfl) dX5_cell_6 ⟨Nat.zero_le _, Nat.zero_le _⟩) hS hAd (fun r6 S6 H locs hw hP _ hS => ?_)
  obtain ⟨hw, eS6⟩ := hw
  rw [eS6] at hP
  by_cases q6 : wit kn 0 3 = true
  · have hw : r6 = 1 := hw.trans (if_pos q6)
    subst hw
    obtain ⟨j6, hj6, rfl⟩ := wit3_ex q6
    have en6 : nN (nI j6) = j6 := nN_nI (by omega)
    obtain ⟨L, hL61, hL⟩ := hsh j6 hj6
    have hL60 : L ≤ 60 := by omega
    refine lv_if_eq (tgt := 19) hx hb dX5_cell_9 (by decide) (fun hc => absurd hc (by decide)) (fun _ => ?_)
    refine lv_iload_n hx hb dX5_cell_12 rfl (lv_at hl 3 rfl) ?_
    refine x_calli (x_runS (As := [.int ln]) (rest := []) hF (c5_isLane hI S1 ln ) (va_cwS 1 hts gX5_cell_X5_isLane rfl rfl rfl (by decide +kernel) ⟨Nat.le_of_ble_eq_true rfl, Nat.le_of_ble_eq_true rfl⟩) hK hP rfl hl.1 rfl (Nat.le_of_ble_eq_true rfl) dX5_cell_13 ⟨Nat.zero_le _, Nat.zero_le _⟩) hS hAd (fun r13 S13 H locs hw hP _ hS => ?_)
    obtain ⟨hw, eS13⟩ := hw
    rw [eS13] at hP
    by_cases q13 : wit ln 0 2 = true
    · have hw : r13 = 1 := hw.trans (if_pos q13)
      subst hw
      refine lv_if_ne (tgt := 23) hx hb dX5_cell_16 (by decide) (fun _ => ?_) (fun hc => absurd hc (by decide))
      refine lv_aload_n hx hb dX5_cell_23 rfl (lv_at hl 0 rfl) ?_
      refine x_get (v := .ref (ad 1)) hx hb hts hinX5 hown hK hP 0 (by decide) rfl rfl 0 (by decide) (hts _ (List.mem_of_getElem? (i := 3) rfl)) rfl dX5_cell_24 ?_
      refine lv_iload_n hx hb dX5_cell_27 rfl (lv_at hl 1 rfl) ?_
      refine x_aald (v := .ref (ad (2 + j6))) hx hb hK hP 1 2 (by decide) rfl rfl rfl j6 rfl (by omega) (by decide) (if_pos_rf (by omega)) dX5_cell_28 ?_
      refine lv_iload_n hx hb dX5_cell_29 rfl (lv_at hl 3 rfl) ?_
      refine x_calli (x_runS (As := [.ref (ad (2 + j6)), .int ln]) (rest := []) hF (c5_laneFault hI S1 j6 (by omega) ln ) (va_cwS 2 hts gX5_cell_X5_laneFault rfl rfl rfl (by decide +kernel) ⟨Nat.le_of_ble_eq_true rfl, Nat.le_of_ble_eq_true rfl⟩) hK hP rfl hl.1 rfl (Nat.le_of_ble_eq_true rfl) dX5_cell_30 ⟨Nat.zero_le _, Nat.zero_le _⟩) hS hAd (fun r30 S30 H locs hw hP _ hS => ?_)
      obtain ⟨er30, eS30⟩ := hw
      rw [eS30] at hP
      refine lv_istore (lv' := [(4, .int r30), (0, .ref (ad 0)), (1, .int (nI j6)), (2, .int i), (3, .int ln)]) hx hb dX5_cell_33 hl (by decide) rfl (fun ls hl => ?_)
      refine lv_iload hx hb dX5_cell_35 (lv_at hl 0 rfl) ?_
      refine lv_if_ne (tgt := 56) hx hb dX5_cell_37 (by decide) (fun c37 => ?_) (fun c37 => ?_)
      · refine lv_aload_n hx hb dX5_cell_56 rfl (lv_at hl 1 rfl) ?_
        refine lv_iload hx hb dX5_cell_57 (lv_at hl 0 rfl) ?_
        refine x_put hx hb hts hinX5 tyX5 tyX5_ok nmX5 hown hK hI hAd hP hS 0 (by decide) rfl rfl 8 (by decide) (hts _ (List.mem_of_getElem? (i := 1) rfl)) rfl (upd (S1 0) 8 r30) rfl rfl rfl (Nat.le_of_ble_eq_true rfl) dX5_cell_59 (fun H locs hP hS => ?_)
        have hP : va_P (dC, dI) vwCl (xW (cLy cI cZ cS cG ad) 42 ad (su S1 0 8 r30)) H := hP
        refine lv_iload hx hb dX5_cell_62 (lv_at hl 0 rfl) ?_
        refine lv_if_ne (tgt := 81) hx hb dX5_cell_64 (by decide) (fun c64 => ?_) (fun c64 => ?_)
        · refine lv_ldc2 (v := (-9223372036854775808)) hx hb hown (hts _ (List.mem_of_getElem? (i := 2) rfl)) dX5_cell_81 ?_
          refine x_lret hx hb hr hlocks hP hS dX5_cell_84 ?_
          subst eS1; subst er30
          exact ⟨by first | (simp [su_su, q6, en6, q13, c37, c64]; done) | (simp [su2, su6, q6, en6, q13, c37, c64]; done) | grind, by first | (simp [su_su, q6, en6, q13, c37, c64]; done) | (simp [su2, su6, q6, en6, q13, c37, c64]; done) | grind⟩
        · refine lv_aload_n hx hb dX5_cell_67 rfl (lv_at hl 1 rfl) ?_
          refine x_get (v := .ref (ad 1)) hx hb hts hinX5 hown hK hP 0 (by decide) rfl rfl 0 (by decide) (hts _ (List.mem_of_getElem? (i := 3) rfl)) rfl dX5_cell_68 ?_
          refine lv_iload_n hx hb dX5_cell_71 rfl (lv_at hl 2 rfl) ?_
          refine x_aald (v := .ref (ad (2 + j6))) hx hb hK hP 1 2 (by decide) rfl rfl rfl j6 rfl (by omega) (by decide) (if_pos_rf (by omega)) dX5_cell_72 ?_
          refine lv_iload_n hx hb dX5_cell_73 rfl (lv_at hl 3 rfl) ?_
          refine x_calli (x_runV (As := [.int i]) (rest := []) hF (c2_at hI (su S1 0 8 r30) j6 (by omega) L (by rw [su2]; exact hL) hL60 i) (cwV 1 hts gX5_cell_X2_at rfl rfl rfl (by decide +kernel) ⟨Nat.le_of_ble_eq_true rfl, Nat.le_of_ble_eq_true rfl⟩) hK hP (by omega) (cLy_sheet (by omega) _) rfl rfl hl.1 rfl (Nat.le_of_ble_eq_true rfl) dX5_cell_74 ⟨Nat.zero_le _, Nat.zero_le _⟩) hS hAd (fun r74 S74 H locs hw hP _ hS => ?_)
          obtain ⟨er74, eS74⟩ := hw
          rw [eS74] at hP
          refine lv_i2l hx hb dX5_cell_77 rfl ?_
          refine lv_goto (tgt := 84) hx hb dX5_cell_78 (by decide) ?_
          refine x_lret hx hb hr hlocks hP hS dX5_cell_84 ?_
          subst eS1; subst er30; subst er74
          exact ⟨by first | (simp [su_su, q6, en6, q13, c37, c64]; done) | (simp [su2, su6, q6, en6, q13, c37, c64]; done) | grind, by first | (simp [su_su, q6, en6, q13, c37, c64]; done) | (simp [su2, su6, q6, en6, q13, c37, c64]; done) | grind⟩
      · refine lv_aload_n hx hb dX5_cell_40 rfl (lv_at hl 1 rfl) ?_
        refine x_get (v := .ref (ad 1)) hx hb hts hinX5 hown hK hP 0 (by decide) rfl rfl 0 (by decide) (hts _ (List.mem_of_getElem? (i := 3) rfl)) rfl dX5_cell_41 ?_
        refine lv_iload_n hx hb dX5_cell_44 rfl (lv_at hl 2 rfl) ?_
        refine x_aald (v := .ref (ad (2 + j6))) hx hb hK hP 1 2 (by decide) rfl rfl rfl j6 rfl (by omega) (by decide) (if_pos_rf (by omega)) dX5_cell_45 ?_
        refine lv_iload_n hx hb dX5_cell_46 rfl (lv_at hl 3 rfl) ?_
        refine x_calli (x_runV (As := [.int i]) (rest := []) hF (c2_hasCell hI S1 j6 (by omega) i ) (cwV 1 hts gX5_cell_X2_hasCell rfl rfl rfl (by decide +kernel) ⟨Nat.le_of_ble_eq_true rfl, Nat.le_of_ble_eq_true rfl⟩) hK hP (by omega) (cLy_sheet (by omega) _) rfl rfl hl.1 rfl (Nat.le_of_ble_eq_true rfl) dX5_cell_47 ⟨Nat.zero_le _, Nat.zero_le _⟩) hS hAd (fun r47 S47 H locs hw hP _ hS => ?_)
        obtain ⟨hw, eS47⟩ := hw
        rw [eS47] at hP
        by_cases q47 : inR i (S1 (2 + j6) 3) = true
        · have hw : r47 = 1 := hw.trans (if_pos q47)
          subst hw
          refine lv_if_ne (tgt := 56) hx hb dX5_cell_50 (by decide) (fun _ => ?_) (fun hc => absurd hc (by decide))
          refine lv_aload_n hx hb dX5_cell_56 rfl (lv_at hl 1 rfl) ?_
          refine lv_iload hx hb dX5_cell_57 (lv_at hl 0 rfl) ?_
          refine x_put hx hb hts hinX5 tyX5 tyX5_ok nmX5 hown hK hI hAd hP hS 0 (by decide) rfl rfl 8 (by decide) (hts _ (List.mem_of_getElem? (i := 1) rfl)) rfl (upd (S1 0) 8 r30) rfl rfl rfl (Nat.le_of_ble_eq_true rfl) dX5_cell_59 (fun H locs hP hS => ?_)
          have hP : va_P (dC, dI) vwCl (xW (cLy cI cZ cS cG ad) 42 ad (su S1 0 8 r30)) H := hP
          refine lv_iload hx hb dX5_cell_62 (lv_at hl 0 rfl) ?_
          refine lv_if_ne (tgt := 81) hx hb dX5_cell_64 (by decide) (fun c64 => ?_) (fun c64 => ?_)
          · refine lv_ldc2 (v := (-9223372036854775808)) hx hb hown (hts _ (List.mem_of_getElem? (i := 2) rfl)) dX5_cell_81 ?_
            refine x_lret hx hb hr hlocks hP hS dX5_cell_84 ?_
            subst eS1; subst er30
            exact ⟨by first | (simp [su_su, q6, en6, q13, c37, q47, c64]; done) | (simp [su2, su6, q6, en6, q13, c37, q47, c64]; done) | grind, by first | (simp [su_su, q6, en6, q13, c37, q47, c64]; done) | (simp [su2, su6, q6, en6, q13, c37, q47, c64]; done) | grind⟩
          · refine lv_aload_n hx hb dX5_cell_67 rfl (lv_at hl 1 rfl) ?_
            refine x_get (v := .ref (ad 1)) hx hb hts hinX5 hown hK hP 0 (by decide) rfl rfl 0 (by decide) (hts _ (List.mem_of_getElem? (i := 3) rfl)) rfl dX5_cell_68 ?_
            refine lv_iload_n hx hb dX5_cell_71 rfl (lv_at hl 2 rfl) ?_
            refine x_aald (v := .ref (ad (2 + j6))) hx hb hK hP 1 2 (by decide) rfl rfl rfl j6 rfl (by omega) (by decide) (if_pos_rf (by omega)) dX5_cell_72 ?_
            refine lv_iload_n hx hb dX5_cell_73 rfl (lv_at hl 3 rfl) ?_
            refine x_calli (x_runV (As := [.int i]) (rest := []) hF (c2_at hI (su S1 0 8 r30) j6 (by omega) L (by rw [su2]; exact hL) hL60 i) (cwV 1 hts gX5_cell_X2_at rfl rfl rfl (by decide +kernel) ⟨Nat.le_of_ble_eq_true rfl, Nat.le_of_ble_eq_true rfl⟩) hK hP (by omega) (cLy_sheet (by omega) _) rfl rfl hl.1 rfl (Nat.le_of_ble_eq_true rfl) dX5_cell_74 ⟨Nat.zero_le _, Nat.zero_le _⟩) hS hAd (fun r74 S74 H locs hw hP _ hS => ?_)
            obtain ⟨er74, eS74⟩ := hw
            rw [eS74] at hP
            refine lv_i2l hx hb dX5_cell_77 rfl ?_
            refine lv_goto (tgt := 84) hx hb dX5_cell_78 (by decide) ?_
            refine x_lret hx hb hr hlocks hP hS dX5_cell_84 ?_
            subst eS1; subst er30; subst er74
            exact ⟨by first | (simp [su_su, q6, en6, q13, c37, q47, c64]; done) | (simp [su2, su6, q6, en6, q13, c37, q47, c64]; done) | grind, by first | (simp [su_su, q6, en6, q13, c37, q47, c64]; done) | (simp [su2, su6, q6, en6, q13, c37, q47, c64]; done) | grind⟩
        · have hw : r47 = 0 := hw.trans (if_neg q47)
          subst hw
          refine lv_if_ne (tgt := 56) hx hb dX5_cell_50 (by decide) (fun hc => absurd (by decide) hc) (fun _ => ?_)
          refine lv_iconst (v := 3) hx hb dX5_cell_53 (by decide +kernel) ?_
          refine lv_istore (lv' := [(4, .int 3), (0, .ref (ad 0)), (1, .int (nI j6)), (2, .int i), (3, .int ln)]) hx hb dX5_cell_54 hl (by decide) rfl (fun ls hl => ?_)
          refine lv_aload_n hx hb dX5_cell_56 rfl (lv_at hl 1 rfl) ?_
          refine lv_iload hx hb dX5_cell_57 (lv_at hl 0 rfl) ?_
          refine x_put hx hb hts hinX5 tyX5 tyX5_ok nmX5 hown hK hI hAd hP hS 0 (by decide) rfl rfl 8 (by decide) (hts _ (List.mem_of_getElem? (i := 1) rfl)) rfl (upd (S1 0) 8 3) rfl rfl rfl (Nat.le_of_ble_eq_true rfl) dX5_cell_59 (fun H locs hP hS => ?_)
          have hP : va_P (dC, dI) vwCl (xW (cLy cI cZ cS cG ad) 42 ad (su S1 0 8 3)) H := hP
          refine lv_iload hx hb dX5_cell_62 (lv_at hl 0 rfl) ?_
          refine lv_if_ne (tgt := 81) hx hb dX5_cell_64 (by decide) (fun _ => ?_) (fun hc => absurd hc (by decide))
          refine lv_ldc2 (v := (-9223372036854775808)) hx hb hown (hts _ (List.mem_of_getElem? (i := 2) rfl)) dX5_cell_81 ?_
          refine x_lret hx hb hr hlocks hP hS dX5_cell_84 ?_
          subst eS1; subst er30
          exact ⟨by first | (simp [su_su, q6, en6, q13, c37, q47]; done) | (simp [su2, su6, q6, en6, q13, c37, q47]; done) | grind, by first | (simp [su_su, q6, en6, q13, c37, q47]; done) | (simp [su2, su6, q6, en6, q13, c37, q47]; done) | grind⟩
    · have hw : r13 = 0 := hw.trans (if_neg q13)
      subst hw
      refine lv_if_ne (tgt := 23) hx hb dX5_cell_16 (by decide) (fun hc => absurd (by decide) hc) (fun _ => ?_)
      refine lv_ldc2 (v := (-9223372036854775808)) hx hb hown (hts _ (List.mem_of_getElem? (i := 2) rfl)) dX5_cell_19 ?_
      refine x_lret hx hb hr hlocks hP hS dX5_cell_22 ?_
      subst eS1
      exact ⟨by first | (simp [su_su, q6, en6, q13]; done) | (simp [su2, su6, q6, en6, q13]; done) | grind, by first | (simp [su_su, q6, en6, q13]; done) | (simp [su2, su6, q6, en6, q13]; done) | grind⟩
  · have hw : r6 = 0 := hw.trans (if_neg q6)
    subst hw
    refine lv_if_eq (tgt := 19) hx hb dX5_cell_9 (by decide) (fun _ => ?_) (fun hc => absurd (by decide) hc)
    refine lv_ldc2 (v := (-9223372036854775808)) hx hb hown (hts _ (List.mem_of_getElem? (i := 2) rfl)) dX5_cell_19 ?_
    refine x_lret hx hb hr hlocks hP hS dX5_cell_22 ?_
    subst eS1
    exact ⟨by first | (simp [su_su, q6]; done) | (simp [su2, su6, q6]; done) | grind, by first | (simp [su_su, q6]; done) | (simp [su2, su6, q6]; done) | grind⟩

set_option maxHeartbeats 4000000 in
set_option maxRecDepth 100000 in
theorem c5_copy (hI : xI 42 ad) (S : xSt) (hsh : ∀ k, k < 4 → okN ((su S 0 8 0) (2 + k) 3) 61) (kn i on jn n : Int32) : xMi l yX5_copy wsX5_copy ({ frames := 1, cells := 0, slots := 0, locals := 40 }) (dC, dI) vwCl (tyl cI cZ cS cG) (cLy cI cZ cS cG ad) 42 ad [.ref (ad 0), .int kn, .int i, .int on, .int jn, .int n] S (fun r S' => r = (if wit kn 0 3 ∧ wit on 0 3 then (if (su S 0 8 0) (2 + nN kn) 1 = 0 ∨ (su S 0 8 0) (2 + nN on) 1 = 0 then -11 else if (su S 0 8 0) (2 + nN kn) 2 = (su S 0 8 0) (2 + nN on) 2 then (if hCs i n ((su S 0 8 0) (2 + nN kn) 3) ∧ hCs jn n ((su S 0 8 0) (2 + nN on) 3) then n else -13) else -12) else -1) ∧ S' = (if wit kn 0 3 ∧ wit on 0 3 then (if (su S 0 8 0) (2 + nN kn) 1 = 0 ∨ (su S 0 8 0) (2 + nN on) 1 = 0 then su (su S 0 8 0) 0 8 1 else if (su S 0 8 0) (2 + nN kn) 2 = (su S 0 8 0) (2 + nN on) 2 then (if hCs i n ((su S 0 8 0) (2 + nN kn) 3) ∧ hCs jn n ((su S 0 8 0) (2 + nN on) 3) then sr (su S 0 8 0) (6 + nN on) (va_cpy ((su S 0 8 0) (6 + nN kn)) ((su S 0 8 0) (6 + nN on)) (nN i) (nN jn) (nN n)) else su (su S 0 8 0) 0 8 3) else su (su S 0 8 0) 0 8 2) else (su S 0 8 0))) := by
  refine xM_of (cc := cX5_copy) (nL := 8) (ret := (some .int)) (by decide) rfl (Nat.le_of_ble_eq_true rfl) ?_
  intro p e s m below meth c ls B hl hK hP
  obtain ⟨hx, hb, hml, hown, hts, hr, hlocks⟩ := B
  have hl : lv_has ls 8 [(0, .ref (ad 0)), (1, .int kn), (2, .int i), (3, .int on), (4, .int jn), (5, .int n)] := hl
  have hS : va_S (xA 42 ad) s.heap s.heap [] := va_S.rf
  have hAd : ∀ k, k < 42 → xA 42 ad (ad k) := xA_in
  have hinX2 : ∀ w ∈ wsX20, w ∈ wsX5_copy := fun _ h => List.mem_cons_of_mem _ (List.mem_append_right _ h)
  have hinX5 : ∀ w ∈ wsX50, w ∈ wsX5_copy := fun _ h => List.mem_cons_of_mem _ (List.mem_append_left _ (List.mem_append_right _ h))
  have hF : CallFix p m c cX5_copy 8 s _ wsX5_copy RX5 := ⟨hx, hb, hml, hown, hts⟩
  refine lv_aload_n hx hb dX5_copy_0 rfl (lv_at hl 0 rfl) ?_
  refine lv_iconst (v := 0) hx hb dX5_copy_1 (by decide +kernel) ?_
  refine x_put hx hb hts hinX5 tyX5 tyX5_ok nmX5 hown hK hI hAd hP hS 0 (by decide) rfl rfl 8 (by decide) (hts _ (List.mem_of_getElem? (i := 1) rfl)) rfl (upd (S 0) 8 0) rfl rfl rfl (Nat.le_of_ble_eq_true rfl) dX5_copy_2 (fun H locs hP hS => ?_)
  have hP : va_P (dC, dI) vwCl (xW (cLy cI cZ cS cG ad) 42 ad (su S 0 8 0)) H := hP
  obtain ⟨S1, eS1⟩ : ∃ z, z = su S 0 8 0 := ⟨_, rfl⟩
  rw [← eS1] at hP hsh
  refine lv_iload_n hx hb dX5_copy_5 rfl (lv_at hl 1 rfl) ?_
  refine x_calli (x_runS (As := [.int kn]) (rest := []) hF (c5_isSheet hI S1 kn ) (va_cwS 1 hts gX5_copy_X5_isSheet rfl rfl rfl (by decide +kernel) ⟨Nat.le_of_ble_eq_true rfl, Nat.le_of_ble_eq_true rfl⟩) hK hP rfl hl.1 rfl (Nat.le_of_ble_eq_true rfl) dX5_copy_6 ⟨Nat.zero_le _, Nat.zero_le _⟩) hS hAd (fun r6 S6 H locs hw hP _ hS => ?_)
  obtain ⟨hw, eS6⟩ := hw
  rw [eS6] at hP
  by_cases q6 : wit kn 0 3 = true
  · have hw : r6 = 1 := hw.trans (if_pos q6)
    subst hw
    obtain ⟨j6, hj6, rfl⟩ := wit3_ex q6
    have en6 : nN (nI j6) = j6 := nN_nI (by omega)
    obtain ⟨La, hL61a, hLa⟩ := hsh j6 hj6
    have hL60a : La ≤ 60 := by omega
    refine lv_if_eq (tgt := 19) hx hb dX5_copy_9 (by decide) (fun hc => absurd hc (by decide)) (fun _ => ?_)
    refine lv_iload_n hx hb dX5_copy_12 rfl (lv_at hl 3 rfl) ?_
    refine x_calli (x_runS (As := [.int on]) (rest := []) hF (c5_isSheet hI S1 on ) (va_cwS 1 hts gX5_copy_X5_isSheet rfl rfl rfl (by decide +kernel) ⟨Nat.le_of_ble_eq_true rfl, Nat.le_of_ble_eq_true rfl⟩) hK hP rfl hl.1 rfl (Nat.le_of_ble_eq_true rfl) dX5_copy_13 ⟨Nat.zero_le _, Nat.zero_le _⟩) hS hAd (fun r13 S13 H locs hw hP _ hS => ?_)
    obtain ⟨hw, eS13⟩ := hw
    rw [eS13] at hP
    by_cases q13 : wit on 0 3 = true
    · have hw : r13 = 1 := hw.trans (if_pos q13)
      subst hw
      obtain ⟨j13, hj13, rfl⟩ := wit3_ex q13
      have en13 : nN (nI j13) = j13 := nN_nI (by omega)
      obtain ⟨Lb, hL61b, hLb⟩ := hsh j13 hj13
      have hL60b : Lb ≤ 60 := by omega
      refine lv_if_ne (tgt := 21) hx hb dX5_copy_16 (by decide) (fun _ => ?_) (fun hc => absurd hc (by decide))
      refine lv_aload_n hx hb dX5_copy_21 rfl (lv_at hl 0 rfl) ?_
      refine x_get (v := .ref (ad 1)) hx hb hts hinX5 hown hK hP 0 (by decide) rfl rfl 0 (by decide) (hts _ (List.mem_of_getElem? (i := 2) rfl)) rfl dX5_copy_22 ?_
      refine lv_iload_n hx hb dX5_copy_25 rfl (lv_at hl 1 rfl) ?_
      refine x_aald (v := .ref (ad (2 + j6))) hx hb hK hP 1 2 (by decide) rfl rfl rfl j6 rfl (by omega) (by decide) (if_pos_rf (by omega)) dX5_copy_26 ?_
      refine lv_astore (lv' := [(6, .ref (ad (2 + j6))), (0, .ref (ad 0)), (1, .int (nI j6)), (2, .int i), (3, .int (nI j13)), (4, .int jn), (5, .int n)]) hx hb dX5_copy_27 hl (by decide) rfl (fun ls hl => ?_)
      refine lv_aload_n hx hb dX5_copy_29 rfl (lv_at hl 1 rfl) ?_
      refine x_get (v := .ref (ad 1)) hx hb hts hinX5 hown hK hP 0 (by decide) rfl rfl 0 (by decide) (hts _ (List.mem_of_getElem? (i := 2) rfl)) rfl dX5_copy_30 ?_
      refine lv_iload_n hx hb dX5_copy_33 rfl (lv_at hl 4 rfl) ?_
      refine x_aald (v := .ref (ad (2 + j13))) hx hb hK hP 1 2 (by decide) rfl rfl rfl j13 rfl (by omega) (by decide) (if_pos_rf (by omega)) dX5_copy_34 ?_
      refine lv_astore (lv' := [(7, .ref (ad (2 + j13))), (6, .ref (ad (2 + j6))), (0, .ref (ad 0)), (1, .int (nI j6)), (2, .int i), (3, .int (nI j13)), (4, .int jn), (5, .int n)]) hx hb dX5_copy_35 hl (by decide) rfl (fun ls hl => ?_)
      refine lv_aload hx hb dX5_copy_37 (lv_at hl 1 rfl) ?_
      refine x_get (v := .int (S1 (2 + j6) 1)) hx hb hts hinX2 hown hK hP (2 + j6) (by omega) (cLy_sheet (by omega) _) rfl 1 (by decide) (hts _ (List.mem_of_getElem? (i := 3) rfl)) rfl dX5_copy_39 ?_
      refine lv_if_eq (tgt := 53) hx hb dX5_copy_42 (by decide) (fun c42 => ?_) (fun c42 => ?_)
      · refine lv_aload_n hx hb dX5_copy_53 rfl (lv_at hl 2 rfl) ?_
        refine lv_iconst (v := 1) hx hb dX5_copy_54 (by decide +kernel) ?_
        refine x_calli (x_runV (As := [.int 1]) (rest := []) hF (c5_faulted hI S1 1 ) (cwV 1 hts gX5_copy_X5_faulted rfl rfl rfl (by decide +kernel) ⟨Nat.le_of_ble_eq_true rfl, Nat.le_of_ble_eq_true rfl⟩) hK hP (by decide) rfl rfl rfl hl.1 rfl (Nat.le_of_ble_eq_true rfl) dX5_copy_55 ⟨Nat.zero_le _, Nat.zero_le _⟩) hS hAd (fun r55 S55 H locs hw hP _ hS => ?_)
        obtain ⟨er55, eS55⟩ := hw
        rw [eS55] at hP
        refine x_iret hx hb hr hlocks hP hS dX5_copy_58 ?_
        subst eS1; subst er55
        exact ⟨by first | (simp [su_su, q6, en6, q13, en13, c42]; done) | (simp [su2, su6, q6, en6, q13, en13, c42]; done) | grind, by first | (simp [su_su, q6, en6, q13, en13, c42]; done) | (simp [su2, su6, q6, en6, q13, en13, c42]; done) | grind⟩
      · refine lv_aload hx hb dX5_copy_45 (lv_at hl 0 rfl) ?_
        refine x_get (v := .int (S1 (2 + j13) 1)) hx hb hts hinX2 hown hK hP (2 + j13) (by omega) (cLy_sheet (by omega) _) rfl 1 (by decide) (hts _ (List.mem_of_getElem? (i := 3) rfl)) rfl dX5_copy_47 ?_
        refine lv_if_ne (tgt := 59) hx hb dX5_copy_50 (by decide) (fun c50 => ?_) (fun c50 => ?_)
        · refine lv_aload hx hb dX5_copy_59 (lv_at hl 1 rfl) ?_
          refine x_get (v := .int (S1 (2 + j6) 2)) hx hb hts hinX2 hown hK hP (2 + j6) (by omega) (cLy_sheet (by omega) _) rfl 2 (by decide) (hts _ (List.mem_of_getElem? (i := 4) rfl)) rfl dX5_copy_61 ?_
          refine lv_aload hx hb dX5_copy_64 (lv_at hl 0 rfl) ?_
          refine x_get (v := .int (S1 (2 + j13) 2)) hx hb hts hinX2 hown hK hP (2 + j13) (by omega) (cLy_sheet (by omega) _) rfl 2 (by decide) (hts _ (List.mem_of_getElem? (i := 4) rfl)) rfl dX5_copy_66 ?_
          refine lv_icmp_eq (tgt := 78) hx hb dX5_copy_69 (by decide) (fun c69 => ?_) (fun c69 => ?_)
          · refine lv_aload hx hb dX5_copy_78 (lv_at hl 1 rfl) ?_
            refine lv_iload_n hx hb dX5_copy_80 rfl (lv_at hl 4 rfl) ?_
            refine lv_iload hx hb dX5_copy_81 (lv_at hl 7 rfl) ?_
            refine x_calli (x_runV (As := [.int i, .int n]) (rest := []) hF (c2_hasCells hI S1 j6 (by omega) i n ) (cwV 2 hts gX5_copy_X2_hasCells rfl rfl rfl (by decide +kernel) ⟨Nat.le_of_ble_eq_true rfl, Nat.le_of_ble_eq_true rfl⟩) hK hP (by omega) (cLy_sheet (by omega) _) rfl rfl hl.1 rfl (Nat.le_of_ble_eq_true rfl) dX5_copy_83 ⟨Nat.zero_le _, Nat.zero_le _⟩) hS hAd (fun r83 S83 H locs hw hP _ hS => ?_)
            obtain ⟨hw, eS83⟩ := hw
            rw [eS83] at hP
            by_cases q83 : hCs i n (S1 (2 + j6) 3) = true
            · have hw : r83 = 1 := hw.trans (if_pos q83)
              subst hw
              refine lv_if_eq (tgt := 101) hx hb dX5_copy_86 (by decide) (fun hc => absurd hc (by decide)) (fun _ => ?_)
              refine lv_aload hx hb dX5_copy_89 (lv_at hl 0 rfl) ?_
              refine lv_iload hx hb dX5_copy_91 (lv_at hl 6 rfl) ?_
              refine lv_iload hx hb dX5_copy_93 (lv_at hl 7 rfl) ?_
              refine x_calli (x_runV (As := [.int jn, .int n]) (rest := []) hF (c2_hasCells hI S1 j13 (by omega) jn n ) (cwV 2 hts gX5_copy_X2_hasCells rfl rfl rfl (by decide +kernel) ⟨Nat.le_of_ble_eq_true rfl, Nat.le_of_ble_eq_true rfl⟩) hK hP (by omega) (cLy_sheet (by omega) _) rfl rfl hl.1 rfl (Nat.le_of_ble_eq_true rfl) dX5_copy_95 ⟨Nat.zero_le _, Nat.zero_le _⟩) hS hAd (fun r95 S95 H locs hw hP _ hS => ?_)
              obtain ⟨hw, eS95⟩ := hw
              rw [eS95] at hP
              by_cases q95 : hCs jn n (S1 (2 + j13) 3) = true
              · have hw : r95 = 1 := hw.trans (if_pos q95)
                subst hw
                refine lv_if_ne (tgt := 107) hx hb dX5_copy_98 (by decide) (fun _ => ?_) (fun hc => absurd hc (by decide))
                refine lv_aload hx hb dX5_copy_107 (lv_at hl 1 rfl) ?_
                refine x_get (v := .ref (ad (6 + j6))) hx hb hts hinX2 hown hK hP (2 + j6) (by omega) (cLy_sheet (by omega) _) rfl 0 (by decide) (hts _ (List.mem_of_getElem? (i := 5) rfl)) rfl dX5_copy_109 ?_
                refine lv_iload_n hx hb dX5_copy_112 rfl (lv_at hl 4 rfl) ?_
                refine lv_aload hx hb dX5_copy_113 (lv_at hl 0 rfl) ?_
                refine x_get (v := .ref (ad (6 + j13))) hx hb hts hinX2 hown hK hP (2 + j13) (by omega) (cLy_sheet (by omega) _) rfl 0 (by decide) (hts _ (List.mem_of_getElem? (i := 5) rfl)) rfl dX5_copy_115 ?_
                refine lv_iload hx hb dX5_copy_118 (lv_at hl 6 rfl) ?_
                refine lv_iload hx hb dX5_copy_120 (lv_at hl 7 rfl) ?_
                obtain ⟨a1, n1, h1, rfl, rfl⟩ := hCs_ex hL60a (by rw [← hLa]; exact q83)
                obtain ⟨b1, n2, h2, rfl, en2⟩ := hCs_ex hL60b (by rw [← hLb]; exact q95)
                have en3 : n1 = n2 := (nI_eq (by omega) (by omega)).mp en2
                have g1 : nN (nI a1) = a1 := nN_nI (by omega)
                have g2 : nN (nI b1) = b1 := nN_nI (by omega)
                have g3 : nN (nI n1) = n1 := nN_nI (by omega)
                refine x_copyi hx hb (hml.trans hl.1.symm) hown (hts _ (List.mem_of_getElem? (i := 6) rfl)) (hts _ (List.mem_of_getElem? (i := 7) rfl)) (hts _ (List.mem_of_getElem? (i := 8) rfl)) (hts _ (List.mem_of_getElem? (i := 9) rfl)) hK hI hAd hP hS (6 + j6) (6 + j13) 0 (by omega) (by omega) (cLy_cells (by omega)) (cLy_cells (by omega)) rfl a1 b1 n1 ⟨⟨rfl, rfl, rfl⟩, by omega, by omega, by decide, by decide⟩ (Nat.le_of_ble_eq_true rfl) (Nat.le_of_ble_eq_true rfl) dX5_copy_122 (fun H locs hP hS => ?_)
                refine lv_iload hx hb dX5_copy_125 (lv_at hl 7 rfl) ?_
                refine x_iret hx hb hr hlocks hP hS dX5_copy_127 ?_
                subst eS1
                exact ⟨by first | (simp [su_su, q6, en6, q13, en13, c42, c50, c69, q83, q95, g1, g2, g3]; done) | (simp [su2, su6, q6, en6, q13, en13, c42, c50, c69, q83, q95, g1, g2, g3]; done) | grind, by first | (simp [su_su, q6, en6, q13, en13, c42, c50, c69, q83, q95, g1, g2, g3]; done) | (simp [su2, su6, q6, en6, q13, en13, c42, c50, c69, q83, q95, g1, g2, g3]; done) | grind⟩
              · have hw : r95 = 0 := hw.trans (if_neg q95)
                subst hw
                refine lv_if_ne (tgt := 107) hx hb dX5_copy_98 (by decide) (fun hc => absurd (by decide) hc) (fun _ => ?_)
                refine lv_aload_n hx hb dX5_copy_101 rfl (lv_at hl 2 rfl) ?_
                refine lv_iconst (v := 3) hx hb dX5_copy_102 (by decide +kernel) ?_
                refine x_calli (x_runV (As := [.int 3]) (rest := []) hF (c5_faulted hI S1 3 ) (cwV 1 hts gX5_copy_X5_faulted rfl rfl rfl (by decide +kernel) ⟨Nat.le_of_ble_eq_true rfl, Nat.le_of_ble_eq_true rfl⟩) hK hP (by decide) rfl rfl rfl hl.1 rfl (Nat.le_of_ble_eq_true rfl) dX5_copy_103 ⟨Nat.zero_le _, Nat.zero_le _⟩) hS hAd (fun r103 S103 H locs hw hP _ hS => ?_)
                obtain ⟨er103, eS103⟩ := hw
                rw [eS103] at hP
                refine x_iret hx hb hr hlocks hP hS dX5_copy_106 ?_
                subst eS1; subst er103
                exact ⟨by first | (simp [su_su, q6, en6, q13, en13, c42, c50, c69, q83, q95]; done) | (simp [su2, su6, q6, en6, q13, en13, c42, c50, c69, q83, q95]; done) | grind, by first | (simp [su_su, q6, en6, q13, en13, c42, c50, c69, q83, q95]; done) | (simp [su2, su6, q6, en6, q13, en13, c42, c50, c69, q83, q95]; done) | grind⟩
            · have hw : r83 = 0 := hw.trans (if_neg q83)
              subst hw
              refine lv_if_eq (tgt := 101) hx hb dX5_copy_86 (by decide) (fun _ => ?_) (fun hc => absurd (by decide) hc)
              refine lv_aload_n hx hb dX5_copy_101 rfl (lv_at hl 2 rfl) ?_
              refine lv_iconst (v := 3) hx hb dX5_copy_102 (by decide +kernel) ?_
              refine x_calli (x_runV (As := [.int 3]) (rest := []) hF (c5_faulted hI S1 3 ) (cwV 1 hts gX5_copy_X5_faulted rfl rfl rfl (by decide +kernel) ⟨Nat.le_of_ble_eq_true rfl, Nat.le_of_ble_eq_true rfl⟩) hK hP (by decide) rfl rfl rfl hl.1 rfl (Nat.le_of_ble_eq_true rfl) dX5_copy_103 ⟨Nat.zero_le _, Nat.zero_le _⟩) hS hAd (fun r103 S103 H locs hw hP _ hS => ?_)
              obtain ⟨er103, eS103⟩ := hw
              rw [eS103] at hP
              refine x_iret hx hb hr hlocks hP hS dX5_copy_106 ?_
              subst eS1; subst er103
              exact ⟨by first | (simp [su_su, q6, en6, q13, en13, c42, c50, c69, q83]; done) | (simp [su2, su6, q6, en6, q13, en13, c42, c50, c69, q83]; done) | grind, by first | (simp [su_su, q6, en6, q13, en13, c42, c50, c69, q83]; done) | (simp [su2, su6, q6, en6, q13, en13, c42, c50, c69, q83]; done) | grind⟩
          · refine lv_aload_n hx hb dX5_copy_72 rfl (lv_at hl 2 rfl) ?_
            refine lv_iconst (v := 2) hx hb dX5_copy_73 (by decide +kernel) ?_
            refine x_calli (x_runV (As := [.int 2]) (rest := []) hF (c5_faulted hI S1 2 ) (cwV 1 hts gX5_copy_X5_faulted rfl rfl rfl (by decide +kernel) ⟨Nat.le_of_ble_eq_true rfl, Nat.le_of_ble_eq_true rfl⟩) hK hP (by decide) rfl rfl rfl hl.1 rfl (Nat.le_of_ble_eq_true rfl) dX5_copy_74 ⟨Nat.zero_le _, Nat.zero_le _⟩) hS hAd (fun r74 S74 H locs hw hP _ hS => ?_)
            obtain ⟨er74, eS74⟩ := hw
            rw [eS74] at hP
            refine x_iret hx hb hr hlocks hP hS dX5_copy_77 ?_
            subst eS1; subst er74
            exact ⟨by first | (simp [su_su, q6, en6, q13, en13, c42, c50, c69]; done) | (simp [su2, su6, q6, en6, q13, en13, c42, c50, c69]; done) | grind, by first | (simp [su_su, q6, en6, q13, en13, c42, c50, c69]; done) | (simp [su2, su6, q6, en6, q13, en13, c42, c50, c69]; done) | grind⟩
        · refine lv_aload_n hx hb dX5_copy_53 rfl (lv_at hl 2 rfl) ?_
          refine lv_iconst (v := 1) hx hb dX5_copy_54 (by decide +kernel) ?_
          refine x_calli (x_runV (As := [.int 1]) (rest := []) hF (c5_faulted hI S1 1 ) (cwV 1 hts gX5_copy_X5_faulted rfl rfl rfl (by decide +kernel) ⟨Nat.le_of_ble_eq_true rfl, Nat.le_of_ble_eq_true rfl⟩) hK hP (by decide) rfl rfl rfl hl.1 rfl (Nat.le_of_ble_eq_true rfl) dX5_copy_55 ⟨Nat.zero_le _, Nat.zero_le _⟩) hS hAd (fun r55 S55 H locs hw hP _ hS => ?_)
          obtain ⟨er55, eS55⟩ := hw
          rw [eS55] at hP
          refine x_iret hx hb hr hlocks hP hS dX5_copy_58 ?_
          subst eS1; subst er55
          exact ⟨by first | (simp [su_su, q6, en6, q13, en13, c42, c50]; done) | (simp [su2, su6, q6, en6, q13, en13, c42, c50]; done) | grind, by first | (simp [su_su, q6, en6, q13, en13, c42, c50]; done) | (simp [su2, su6, q6, en6, q13, en13, c42, c50]; done) | grind⟩
    · have hw : r13 = 0 := hw.trans (if_neg q13)
      subst hw
      refine lv_if_ne (tgt := 21) hx hb dX5_copy_16 (by decide) (fun hc => absurd (by decide) hc) (fun _ => ?_)
      refine lv_iconst (v := (-1)) hx hb dX5_copy_19 (by decide +kernel) ?_
      refine x_iret hx hb hr hlocks hP hS dX5_copy_20 ?_
      subst eS1
      exact ⟨by first | (simp [su_su, q6, en6, q13]; done) | (simp [su2, su6, q6, en6, q13]; done) | grind, by first | (simp [su_su, q6, en6, q13]; done) | (simp [su2, su6, q6, en6, q13]; done) | grind⟩
  · have hw : r6 = 0 := hw.trans (if_neg q6)
    subst hw
    refine lv_if_eq (tgt := 19) hx hb dX5_copy_9 (by decide) (fun _ => ?_) (fun hc => absurd (by decide) hc)
    refine lv_iconst (v := (-1)) hx hb dX5_copy_19 (by decide +kernel) ?_
    refine x_iret hx hb hr hlocks hP hS dX5_copy_20 ?_
    subst eS1
    exact ⟨by first | (simp [su_su, q6]; done) | (simp [su2, su6, q6]; done) | grind, by first | (simp [su_su, q6]; done) | (simp [su2, su6, q6]; done) | grind⟩

set_option maxHeartbeats 4000000 in
set_option maxRecDepth 100000 in
theorem c5_reading (hI : xI 42 ad) (S : xSt) (R : Nat) (hR : S 38 3 = nI R) (hR8 : R ≤ 8) (cn yn wn : Int32) (hw01 : wn = 0 ∨ wn = 1) : xMi l yX5_reading wsX5_reading ({ frames := 1, cells := 0, slots := 0, locals := 24 }) (dC, dI) vwCl (tyl cI cZ cS cG) (cLy cI cZ cS cG ad) 42 ad [.ref (ad 0), .int cn, .int yn, .int wn] S (fun r S' => r = (if inR cn (S 12 0) then (if inR yn (S 12 1) then (if nI R < 8 then nI R else -4) else -2) else -1) ∧ S' = (if inR cn (S 12 0) ∧ inR yn (S 12 1) ∧ nI R < 8 then su (su (su (su S 39 R cn) 40 R yn) 41 R wn) 38 3 (nI R + 1) else S)) := by
  refine xM_of (cc := cX5_reading) (nL := 4) (ret := (some .int)) (by decide) rfl (Nat.le_of_ble_eq_true rfl) ?_
  intro p e s m below meth c ls B hl hK hP
  obtain ⟨hx, hb, hml, hown, hts, hr, hlocks⟩ := B
  have hl : lv_has ls 4 [(0, .ref (ad 0)), (1, .int cn), (2, .int yn), (3, .int wn)] := hl
  have hS : va_S (xA 42 ad) s.heap s.heap [] := va_S.rf
  have hAd : ∀ k, k < 42 → xA 42 ad (ad k) := xA_in
  have hinX5 : ∀ w ∈ wsX50, w ∈ wsX5_reading := fun _ h => List.mem_cons_of_mem _ (List.mem_append_left _ (List.mem_append_left _ (List.mem_append_right _ h)))
  have hF : CallFix p m c cX5_reading 4 s _ wsX5_reading RX5 := ⟨hx, hb, hml, hown, hts⟩
  refine lv_aload_n hx hb dX5_reading_0 rfl (lv_at hl 0 rfl) ?_
  refine lv_iload_n hx hb dX5_reading_1 rfl (lv_at hl 1 rfl) ?_
  refine x_calli (x_runV (As := [.int cn]) (rest := []) hF (c5_isCourt hI S cn ) (cwV 1 hts gX5_reading_X5_isCourt rfl rfl rfl (by decide +kernel) ⟨Nat.le_of_ble_eq_true rfl, Nat.le_of_ble_eq_true rfl⟩) hK hP (by decide) rfl rfl rfl hl.1 rfl (Nat.le_of_ble_eq_true rfl) dX5_reading_2 ⟨Nat.zero_le _, Nat.zero_le _⟩) hS hAd (fun r2 S2 H locs hw hP _ hS => ?_)
  obtain ⟨hw, eS2⟩ := hw
  rw [eS2] at hP
  by_cases q2 : inR cn (S 12 0) = true
  · have hw : r2 = 1 := hw.trans (if_pos q2)
    subst hw
    refine lv_if_ne (tgt := 10) hx hb dX5_reading_5 (by decide) (fun _ => ?_) (fun hc => absurd hc (by decide))
    refine lv_aload_n hx hb dX5_reading_10 rfl (lv_at hl 0 rfl) ?_
    refine lv_iload_n hx hb dX5_reading_11 rfl (lv_at hl 2 rfl) ?_
    refine x_calli (x_runV (As := [.int yn]) (rest := []) hF (c5_isYear hI S yn ) (cwV 1 hts gX5_reading_X5_isYear rfl rfl rfl (by decide +kernel) ⟨Nat.le_of_ble_eq_true rfl, Nat.le_of_ble_eq_true rfl⟩) hK hP (by decide) rfl rfl rfl hl.1 rfl (Nat.le_of_ble_eq_true rfl) dX5_reading_12 ⟨Nat.zero_le _, Nat.zero_le _⟩) hS hAd (fun r12 S12 H locs hw hP _ hS => ?_)
    obtain ⟨hw, eS12⟩ := hw
    rw [eS12] at hP
    by_cases q12 : inR yn (S 12 1) = true
    · have hw : r12 = 1 := hw.trans (if_pos q12)
      subst hw
      refine lv_if_ne (tgt := 21) hx hb dX5_reading_15 (by decide) (fun _ => ?_) (fun hc => absurd hc (by decide))
      refine lv_aload_n hx hb dX5_reading_21 rfl (lv_at hl 0 rfl) ?_
      refine x_get (v := .ref (ad 38)) hx hb hts hinX5 hown hK hP 0 (by decide) rfl rfl 6 (by decide) (hts _ (List.mem_of_getElem? (i := 1) rfl)) rfl dX5_reading_22 ?_
      refine lv_iload_n hx hb dX5_reading_25 rfl (lv_at hl 1 rfl) ?_
      refine lv_iload_n hx hb dX5_reading_26 rfl (lv_at hl 2 rfl) ?_
      refine lv_iload_n hx hb dX5_reading_27 rfl (lv_at hl 3 rfl) ?_
      refine x_calli (x_runV (As := [.int cn, .int yn, .int wn]) (rest := []) hF (c0_note hI S R hR hR8 cn yn wn hw01) (cwV 3 hts gX5_reading_X0_note rfl rfl rfl (by decide +kernel) ⟨Nat.le_of_ble_eq_true rfl, Nat.le_of_ble_eq_true rfl⟩) hK hP (by decide) rfl rfl rfl hl.1 rfl (Nat.le_of_ble_eq_true rfl) dX5_reading_28 ⟨Nat.zero_le _, Nat.zero_le _⟩) hS hAd (fun r28 S28 H locs hw hP _ hS => ?_)
      obtain ⟨er28, eS28⟩ := hw
      rw [eS28] at hP
      refine x_iret hx hb hr hlocks hP hS dX5_reading_31 ?_
      subst er28
      exact ⟨by first | (simp [q2, q12]; done) | grind, by first | (simp [q2, q12]; done) | grind⟩
    · have hw : r12 = 0 := hw.trans (if_neg q12)
      subst hw
      refine lv_if_ne (tgt := 21) hx hb dX5_reading_15 (by decide) (fun hc => absurd (by decide) hc) (fun _ => ?_)
      refine lv_bipush (v := (-2)) hx hb dX5_reading_18 (by decide +kernel) ?_
      refine x_iret hx hb hr hlocks hP hS dX5_reading_20 ?_
      skip
      exact ⟨by first | (simp [q2, q12]; done) | grind, by first | (simp [q2, q12]; done) | grind⟩
  · have hw : r2 = 0 := hw.trans (if_neg q2)
    subst hw
    refine lv_if_ne (tgt := 10) hx hb dX5_reading_5 (by decide) (fun hc => absurd (by decide) hc) (fun _ => ?_)
    refine lv_iconst (v := (-1)) hx hb dX5_reading_8 (by decide +kernel) ?_
    refine x_iret hx hb hr hlocks hP hS dX5_reading_9 ?_
    skip
    exact ⟨by first | (simp [q2]; done) | grind, by first | (simp [q2]; done) | grind⟩

set_option maxHeartbeats 4000000 in
set_option maxRecDepth 100000 in
theorem c5_back (hI : xI 42 ad) (S : xSt) (kn : Int32) : xMi l yX5_back wsX5_back ({ frames := 0, cells := 0, slots := 0, locals := 0 }) (dC, dI) vwCl (tyl cI cZ cS cG) (cLy cI cZ cS cG ad) 42 ad [.ref (ad 0), .int kn] S (fun r S' => r = (if wit kn 0 (S 38 3) then S 38 3 - kn else -2) ∧ S' = (if wit kn 0 (S 38 3) then su S 38 3 (S 38 3 - kn) else S)) := by
  refine xM_of (cc := cX5_back) (nL := 2) (ret := (some .int)) (by decide) rfl (Nat.le_of_ble_eq_true rfl) ?_
  intro p e s m below meth c ls B hl hK hP
  obtain ⟨hx, hb, hml, hown, hts, hr, hlocks⟩ := B
  have hl : lv_has ls 2 [(0, .ref (ad 0)), (1, .int kn)] := hl
  have hS : va_S (xA 42 ad) s.heap s.heap [] := va_S.rf
  have hAd : ∀ k, k < 42 → xA 42 ad (ad k) := xA_in
  have hinX0 : ∀ w ∈ wsX00, w ∈ wsX5_back := fun _ h => List.mem_cons_of_mem _ (List.mem_append_right _ h)
  have hinX5 : ∀ w ∈ wsX50, w ∈ wsX5_back := fun _ h => List.mem_cons_of_mem _ (List.mem_append_left _ (List.mem_append_right _ h))
  have hF : CallFix p m c cX5_back 2 s _ wsX5_back RX5 := ⟨hx, hb, hml, hown, hts⟩
  refine lv_iload_n hx hb dX5_back_0 rfl (lv_at hl 1 rfl) ?_
  refine lv_if_lt (tgt := 15) hx hb dX5_back_1 (by decide) (fun c1 => ?_) (fun c1 => ?_)
  · have d1 := Int32.not_le.mpr c1
    refine lv_bipush (v := (-2)) hx hb dX5_back_15 (by decide +kernel) ?_
    refine x_iret hx hb hr hlocks hP hS dX5_back_17 ?_
    skip
    exact ⟨by simp [wit, c1, d1], by simp [wit, c1, d1]⟩
  · have d1 := Int32.not_lt.mp c1
    refine lv_iload_n hx hb dX5_back_4 rfl (lv_at hl 1 rfl) ?_
    refine lv_aload_n hx hb dX5_back_5 rfl (lv_at hl 0 rfl) ?_
    refine x_get (v := .ref (ad 38)) hx hb hts hinX5 hown hK hP 0 (by decide) rfl rfl 6 (by decide) (hts _ (List.mem_of_getElem? (i := 1) rfl)) rfl dX5_back_6 ?_
    refine x_get (v := .int (S 38 3)) hx hb hts hinX0 hown hK hP 38 (by decide) rfl rfl 3 (by decide) (hts _ (List.mem_of_getElem? (i := 2) rfl)) rfl dX5_back_9 ?_
    refine lv_icmp_le (tgt := 18) hx hb dX5_back_12 (by decide) (fun c12 => ?_) (fun c12 => ?_)
    · have d12 := Int32.not_lt.mpr c12
      refine lv_aload_n hx hb dX5_back_18 rfl (lv_at hl 0 rfl) ?_
      refine x_get (v := .ref (ad 38)) hx hb hts hinX5 hown hK hP 0 (by decide) rfl rfl 6 (by decide) (hts _ (List.mem_of_getElem? (i := 1) rfl)) rfl dX5_back_19 ?_
      refine lv_dup hx hb dX5_back_22 rfl ?_
      refine x_get (v := .int (S 38 3)) hx hb hts hinX0 hown hK hP 38 (by decide) rfl rfl 3 (by decide) (hts _ (List.mem_of_getElem? (i := 2) rfl)) rfl dX5_back_23 ?_
      refine lv_iload_n hx hb dX5_back_26 rfl (lv_at hl 1 rfl) ?_
      refine lv_isub hx hb dX5_back_27 ?_
      refine x_put hx hb hts hinX0 tyX0 tyX0_ok nmX0 hown hK hI hAd hP hS 38 (by decide) rfl rfl 3 (by decide) (hts _ (List.mem_of_getElem? (i := 2) rfl)) rfl (upd (S 38) 3 ((S 38 3) - kn)) rfl rfl rfl (Nat.le_of_ble_eq_true rfl) dX5_back_28 (fun H locs hP hS => ?_)
      have hP : va_P (dC, dI) vwCl (xW (cLy cI cZ cS cG ad) 42 ad (su S 38 3 ((S 38 3) - kn))) H := hP
      refine lv_aload_n hx hb dX5_back_31 rfl (lv_at hl 0 rfl) ?_
      refine x_get (v := .ref (ad 38)) hx hb hts hinX5 hown hK hP 0 (by decide) rfl rfl 6 (by decide) (hts _ (List.mem_of_getElem? (i := 1) rfl)) rfl dX5_back_32 ?_
      refine x_get (v := .int ((S 38 3) - kn)) hx hb hts hinX0 hown hK hP 38 (by decide) rfl rfl 3 (by decide) (hts _ (List.mem_of_getElem? (i := 2) rfl)) rfl dX5_back_35 ?_
      refine x_iret hx hb hr hlocks hP hS dX5_back_38 ?_
      skip
      exact ⟨by simp [wit, c1, d1, c12, d12], by simp [wit, c1, d1, c12, d12]⟩
    · have d12 := Int32.not_le.mp c12
      refine lv_bipush (v := (-2)) hx hb dX5_back_15 (by decide +kernel) ?_
      refine x_iret hx hb hr hlocks hP hS dX5_back_17 ?_
      skip
      exact ⟨by simp [wit, c1, d1, c12, d12], by simp [wit, c1, d1, c12, d12]⟩

set_option maxHeartbeats 4000000 in
set_option maxRecDepth 100000 in
theorem c5_fitting_18 (hI : xI 42 ad) (S : xSt) (N : Nat) (hN : S 12 2 = nI N) (hN5 : N ≤ 5) (R : Nat) (hR : S 38 3 = nI R) (hR8 : R ≤ 8) (hrd : ∀ q, q < R → okN (S 39 q) 4 ∧ okN (S 40 q) 6) (j mx : Nat) (hj : j < 5) (hmx : mx < 10) : xMi l yX5_fitting wsX5_fitting ({ frames := 4, cells := 0, slots := 0, locals := 99 }) (dC, dI) vwCl (tyl cI cZ cS cG) (cLy cI cZ cS cG ad) 42 ad [.ref (ad 0), .ref (ad 18), .int (nI j), .int (nI mx)] S (fun r S' => r = orL (fun v => if cSo (su S 18 j (nI v)) N R 32 = true then (1 : Int32) <<< (nI v &&& 31) else 0) (mx + 1) 0 0 ∧ S' = S) := by
  refine xM_of (cc := cX5_fitting) (nL := 7) (ret := (some .int)) (by decide) rfl (Nat.le_of_ble_eq_true rfl) ?_
  intro p e s m below meth c ls B hl hK hP
  obtain ⟨hx, hb, hml, hown, hts, hr, hlocks⟩ := B
  have hl : lv_has ls 7 [(0, .ref (ad 0)), (1, .ref (ad 18)), (2, .int (nI j)), (3, .int (nI mx))] := hl
  have hS : va_S (xA 42 ad) s.heap s.heap [] := va_S.rf
  have hAd : ∀ k, k < 42 → xA 42 ad (ad k) := xA_in
  have hinX5 : ∀ w ∈ wsX50, w ∈ wsX5_fitting := fun _ h => List.mem_cons_of_mem _ (List.mem_append_left _ (List.mem_append_left _ (List.mem_append_left _ (List.mem_append_right _ h))))
  have hF : CallFix p m c cX5_fitting 7 s _ wsX5_fitting RX5 := ⟨hx, hb, hml, hown, hts⟩
  have L11 : ∀ (n : Nat) (i : Nat) (a : Int32) (x : Int32) (hi : i + n = mx + 1) (hv : orL (fun v => if cSo (su S 18 j (nI v)) N R 32 = true then (1 : Int32) <<< (nI v &&& 31) else 0) (mx + 1) 0 0 = orL (fun v => if cSo (su S 18 j (nI v)) N R 32 = true then (1 : Int32) <<< (nI v &&& 31) else 0) n i a) (H : Heap) (locs : List Loc) (ls : Array Slot), va_P (dC, dI) vwCl (xW (cLy cI cZ cS cG ad) 42 ad (su S 18 j x)) H → va_S (xA 42 ad) s.heap H locs → lv_has ls 7 [(0, .ref (ad 0)), (1, .ref (ad 18)), (2, .int (nI j)), (3, .int (nI mx)), (4, .int (S 18 j)), (5, .int a), (6, .int (nI i))] → W p l e ({ frames := 4, cells := 0, slots := 0, locals := 99 }) s m ([.ref (ad 0), .ref (ad 18), .int (nI j), .int (nI mx)] : List Value).toArray below meth c H locs 0 0 (MQ below (xQi (dC, dI) vwCl (cLy cI cZ cS cG ad) 42 ad (fun r S' => r = orL (fun v => if cSo (su S 18 j (nI v)) N R 32 = true then (1 : Int32) <<< (nI v &&& 31) else 0) (mx + 1) 0 0 ∧ S' = S)) ([.ref (ad 0), .ref (ad 18), .int (nI j), .int (nI mx)] : List Value).toArray s 0 0 (xA 42 ad)) (F0 m 11 ls []) := by
    intro n
    induction n with
    | zero =>
      intro i a x hi hv H locs ls hP hS hl
      refine lv_iload hx hb dX5_fitting_11 (lv_at hl 6 rfl) ?_
      refine lv_iload_n hx hb dX5_fitting_13 rfl (lv_at hl 3 rfl) ?_
      refine lv_icmp_gt (tgt := 55) hx hb dX5_fitting_14 (by decide) (fun _ => ?_) (fun hc => absurd (nI_lt (by omega) (by omega)) hc)
      refine lv_aload_n hx hb dX5_fitting_55 rfl (lv_at hl 1 rfl) ?_
      refine lv_iload_n hx hb dX5_fitting_56 rfl (lv_at hl 2 rfl) ?_
      refine lv_iload hx hb dX5_fitting_57 (lv_at hl 4 rfl) ?_
      refine x_iast hx hb hK hI hAd hP hS 18 0 (by decide) (fun _ => rfl) rfl j rfl (by omega) (by decide) dX5_fitting_59 (fun H locs hP hS => ?_)
      rw [su_su, su_same] at hP
      refine lv_iload hx hb dX5_fitting_60 (lv_at hl 5 rfl) ?_
      refine x_iret hx hb hr hlocks hP hS dX5_fitting_62 ?_
      exact ⟨hv.symm, rfl⟩
    | succ n ih =>
      intro i a x hi hv H locs ls hP hS hl
      refine lv_iload hx hb dX5_fitting_11 (lv_at hl 6 rfl) ?_
      refine lv_iload_n hx hb dX5_fitting_13 rfl (lv_at hl 3 rfl) ?_
      refine lv_icmp_gt (tgt := 55) hx hb dX5_fitting_14 (by decide) (fun hc => absurd hc (nI_nlt (by omega) (by omega))) (fun _ => ?_)
      refine lv_aload_n hx hb dX5_fitting_17 rfl (lv_at hl 1 rfl) ?_
      refine lv_iload_n hx hb dX5_fitting_18 rfl (lv_at hl 2 rfl) ?_
      refine lv_iload hx hb dX5_fitting_19 (lv_at hl 6 rfl) ?_
      refine x_iast hx hb hK hI hAd hP hS 18 0 (by decide) (fun _ => rfl) rfl j rfl (by omega) (by decide) dX5_fitting_21 (fun H locs hP hS => ?_)
      rw [su_su] at hP
      refine lv_aload_n hx hb dX5_fitting_22 rfl (lv_at hl 0 rfl) ?_
      refine x_get (v := .ref (ad 38)) hx hb hts hinX5 hown hK hP 0 (by decide) rfl rfl 6 (by decide) (hts _ (List.mem_of_getElem? (i := 1) rfl)) rfl dX5_fitting_23 ?_
      refine lv_aload_n hx hb dX5_fitting_26 rfl (lv_at hl 0 rfl) ?_
      refine x_get (v := .ref (ad 12)) hx hb hts hinX5 hown hK hP 0 (by decide) rfl rfl 2 (by decide) (hts _ (List.mem_of_getElem? (i := 2) rfl)) rfl dX5_fitting_27 ?_
      refine lv_aload_n hx hb dX5_fitting_30 rfl (lv_at hl 0 rfl) ?_
      refine x_get (v := .ref (ad 32)) hx hb hts hinX5 hown hK hP 0 (by decide) rfl rfl 4 (by decide) (hts _ (List.mem_of_getElem? (i := 3) rfl)) rfl dX5_fitting_31 ?_
      refine x_calli (x_runV (As := [.ref (ad 12), .ref (ad 32)]) (rest := []) hF (c0_allSo hI (su S 18 j (nI i)) 32 (Or.inl rfl) N hN hN5 R hR hR8 hrd ) (cwV 2 hts gX5_fitting_X0_allSo rfl rfl rfl (by decide +kernel) ⟨Nat.le_of_ble_eq_true rfl, Nat.le_of_ble_eq_true rfl⟩) hK hP (by decide) rfl rfl rfl hl.1 rfl (Nat.le_of_ble_eq_true rfl) dX5_fitting_34 ⟨Nat.zero_le _, Nat.zero_le _⟩) hS hAd (fun r34 S34 H locs hw hP _ hS => ?_)
      obtain ⟨hw, eS34⟩ := hw
      rw [eS34] at hP
      by_cases q34 : cSo (su S 18 j (nI i)) N R 32 = true
      · have hw : r34 = 1 := hw.trans (if_pos q34)
        subst hw
        refine lv_if_eq (tgt := 49) hx hb dX5_fitting_37 (by decide) (fun hc => absurd hc (by decide)) (fun _ => ?_)
        refine lv_iload hx hb dX5_fitting_40 (lv_at hl 5 rfl) ?_
        refine lv_iconst (v := 1) hx hb dX5_fitting_42 (by decide +kernel) ?_
        refine lv_iload hx hb dX5_fitting_43 (lv_at hl 6 rfl) ?_
        refine lv_ishl hx hb dX5_fitting_45 ?_
        refine lv_ior hx hb dX5_fitting_46 ?_
        refine lv_topi (fun x47 ex47 => ?_)
        refine lv_istore (lv' := [(5, .int x47), (0, .ref (ad 0)), (1, .ref (ad 18)), (2, .int (nI j)), (3, .int (nI mx)), (4, .int (S 18 j)), (6, .int (nI i))]) hx hb dX5_fitting_47 hl (by decide) rfl (fun ls hl => ?_)
        refine lv_iinc (v := nI (i + 1)) (lv' := [(6, .int (nI (i + 1))), (5, .int x47), (0, .ref (ad 0)), (1, .ref (ad 18)), (2, .int (nI j)), (3, .int (nI mx)), (4, .int (S 18 j))]) hx hb dX5_fitting_49 hl (k := 6) rfl (nI_1 _) (by decide) rfl (fun ls hl => ?_)
        refine lv_goto (tgt := 11) hx hb dX5_fitting_52 (by decide) ?_
        exact ih (i + 1) x47 (nI i) (by omega) (hv.trans (congrArg (orL (fun v => if cSo (su S 18 j (nI v)) N R 32 = true then (1 : Int32) <<< (nI v &&& 31) else 0) n (i + 1)) (show a ||| (fun v => if cSo (su S 18 j (nI v)) N R 32 = true then (1 : Int32) <<< (nI v &&& 31) else 0) i = x47 from by subst ex47; simp [q34]))) H locs ls hP hS (lv_sub hl [2, 3, 4, 5, 6, 1, 0] rfl)
      · have hw : r34 = 0 := hw.trans (if_neg q34)
        subst hw
        refine lv_if_eq (tgt := 49) hx hb dX5_fitting_37 (by decide) (fun _ => ?_) (fun hc => absurd (by decide) hc)
        refine lv_iinc (v := nI (i + 1)) (lv' := [(6, .int (nI (i + 1))), (0, .ref (ad 0)), (1, .ref (ad 18)), (2, .int (nI j)), (3, .int (nI mx)), (4, .int (S 18 j)), (5, .int a)]) hx hb dX5_fitting_49 hl (k := 6) rfl (nI_1 _) (by decide) rfl (fun ls hl => ?_)
        refine lv_goto (tgt := 11) hx hb dX5_fitting_52 (by decide) ?_
        exact ih (i + 1) a (nI i) (by omega) (hv.trans (congrArg (orL (fun v => if cSo (su S 18 j (nI v)) N R 32 = true then (1 : Int32) <<< (nI v &&& 31) else 0) n (i + 1)) (show a ||| (fun v => if cSo (su S 18 j (nI v)) N R 32 = true then (1 : Int32) <<< (nI v &&& 31) else 0) i = a from by skip; simp [q34]))) H locs ls hP hS (lv_sub hl [1, 2, 3, 4, 5, 6, 0] rfl)
  refine lv_aload_n hx hb dX5_fitting_0 rfl (lv_at hl 1 rfl) ?_
  refine lv_iload_n hx hb dX5_fitting_1 rfl (lv_at hl 2 rfl) ?_
  refine x_iald (v := S 18 j) hx hb hK hP 18 0 (by decide) rfl rfl j rfl (by omega) (by decide) rfl dX5_fitting_2 ?_
  refine lv_topi (fun x3 ex3 => ?_)
  subst ex3
  refine lv_istore (lv' := [(4, .int (S 18 j)), (0, .ref (ad 0)), (1, .ref (ad 18)), (2, .int (nI j)), (3, .int (nI mx))]) hx hb dX5_fitting_3 hl (by decide) rfl (fun ls hl => ?_)
  refine lv_iconst (v := 0) hx hb dX5_fitting_5 (by decide +kernel) ?_
  refine lv_istore (lv' := [(5, .int 0), (4, .int (S 18 j)), (0, .ref (ad 0)), (1, .ref (ad 18)), (2, .int (nI j)), (3, .int (nI mx))]) hx hb dX5_fitting_6 hl (by decide) rfl (fun ls hl => ?_)
  refine lv_iconst (v := 0) hx hb dX5_fitting_8 (by decide +kernel) ?_
  refine lv_istore (lv' := [(6, .int 0), (5, .int 0), (4, .int (S 18 j)), (0, .ref (ad 0)), (1, .ref (ad 18)), (2, .int (nI j)), (3, .int (nI mx))]) hx hb dX5_fitting_9 hl (by decide) rfl (fun ls hl => ?_)
  have hP : va_P (dC, dI) vwCl (xW (cLy cI cZ cS cG ad) 42 ad (su S 18 j (S 18 j))) s.heap := by rw [su_same]; exact hP
  exact L11 (mx + 1) 0 0 (S 18 j) (Nat.zero_add _) rfl _ _ ls hP hS (lv_sub hl [3, 4, 5, 6, 2, 1, 0] rfl)

set_option maxHeartbeats 4000000 in
set_option maxRecDepth 100000 in
theorem c5_fitting_20 (hI : xI 42 ad) (S : xSt) (N : Nat) (hN : S 12 2 = nI N) (hN5 : N ≤ 5) (R : Nat) (hR : S 38 3 = nI R) (hR8 : R ≤ 8) (hrd : ∀ q, q < R → okN (S 39 q) 4 ∧ okN (S 40 q) 6) (j mx : Nat) (hj : j < 5) (hmx : mx < 10) : xMi l yX5_fitting wsX5_fitting ({ frames := 4, cells := 0, slots := 0, locals := 99 }) (dC, dI) vwCl (tyl cI cZ cS cG) (cLy cI cZ cS cG ad) 42 ad [.ref (ad 0), .ref (ad 20), .int (nI j), .int (nI mx)] S (fun r S' => r = orL (fun v => if cSo (su S 20 j (nI v)) N R 32 = true then (1 : Int32) <<< (nI v &&& 31) else 0) (mx + 1) 0 0 ∧ S' = S) := by
  refine xM_of (cc := cX5_fitting) (nL := 7) (ret := (some .int)) (by decide) rfl (Nat.le_of_ble_eq_true rfl) ?_
  intro p e s m below meth c ls B hl hK hP
  obtain ⟨hx, hb, hml, hown, hts, hr, hlocks⟩ := B
  have hl : lv_has ls 7 [(0, .ref (ad 0)), (1, .ref (ad 20)), (2, .int (nI j)), (3, .int (nI mx))] := hl
  have hS : va_S (xA 42 ad) s.heap s.heap [] := va_S.rf
  have hAd : ∀ k, k < 42 → xA 42 ad (ad k) := xA_in
  have hinX5 : ∀ w ∈ wsX50, w ∈ wsX5_fitting := fun _ h => List.mem_cons_of_mem _ (List.mem_append_left _ (List.mem_append_left _ (List.mem_append_left _ (List.mem_append_right _ h))))
  have hF : CallFix p m c cX5_fitting 7 s _ wsX5_fitting RX5 := ⟨hx, hb, hml, hown, hts⟩
  have L11 : ∀ (n : Nat) (i : Nat) (a : Int32) (x : Int32) (hi : i + n = mx + 1) (hv : orL (fun v => if cSo (su S 20 j (nI v)) N R 32 = true then (1 : Int32) <<< (nI v &&& 31) else 0) (mx + 1) 0 0 = orL (fun v => if cSo (su S 20 j (nI v)) N R 32 = true then (1 : Int32) <<< (nI v &&& 31) else 0) n i a) (H : Heap) (locs : List Loc) (ls : Array Slot), va_P (dC, dI) vwCl (xW (cLy cI cZ cS cG ad) 42 ad (su S 20 j x)) H → va_S (xA 42 ad) s.heap H locs → lv_has ls 7 [(0, .ref (ad 0)), (1, .ref (ad 20)), (2, .int (nI j)), (3, .int (nI mx)), (4, .int (S 20 j)), (5, .int a), (6, .int (nI i))] → W p l e ({ frames := 4, cells := 0, slots := 0, locals := 99 }) s m ([.ref (ad 0), .ref (ad 20), .int (nI j), .int (nI mx)] : List Value).toArray below meth c H locs 0 0 (MQ below (xQi (dC, dI) vwCl (cLy cI cZ cS cG ad) 42 ad (fun r S' => r = orL (fun v => if cSo (su S 20 j (nI v)) N R 32 = true then (1 : Int32) <<< (nI v &&& 31) else 0) (mx + 1) 0 0 ∧ S' = S)) ([.ref (ad 0), .ref (ad 20), .int (nI j), .int (nI mx)] : List Value).toArray s 0 0 (xA 42 ad)) (F0 m 11 ls []) := by
    intro n
    induction n with
    | zero =>
      intro i a x hi hv H locs ls hP hS hl
      refine lv_iload hx hb dX5_fitting_11 (lv_at hl 6 rfl) ?_
      refine lv_iload_n hx hb dX5_fitting_13 rfl (lv_at hl 3 rfl) ?_
      refine lv_icmp_gt (tgt := 55) hx hb dX5_fitting_14 (by decide) (fun _ => ?_) (fun hc => absurd (nI_lt (by omega) (by omega)) hc)
      refine lv_aload_n hx hb dX5_fitting_55 rfl (lv_at hl 1 rfl) ?_
      refine lv_iload_n hx hb dX5_fitting_56 rfl (lv_at hl 2 rfl) ?_
      refine lv_iload hx hb dX5_fitting_57 (lv_at hl 4 rfl) ?_
      refine x_iast hx hb hK hI hAd hP hS 20 0 (by decide) (fun _ => rfl) rfl j rfl (by omega) (by decide) dX5_fitting_59 (fun H locs hP hS => ?_)
      rw [su_su, su_same] at hP
      refine lv_iload hx hb dX5_fitting_60 (lv_at hl 5 rfl) ?_
      refine x_iret hx hb hr hlocks hP hS dX5_fitting_62 ?_
      exact ⟨hv.symm, rfl⟩
    | succ n ih =>
      intro i a x hi hv H locs ls hP hS hl
      refine lv_iload hx hb dX5_fitting_11 (lv_at hl 6 rfl) ?_
      refine lv_iload_n hx hb dX5_fitting_13 rfl (lv_at hl 3 rfl) ?_
      refine lv_icmp_gt (tgt := 55) hx hb dX5_fitting_14 (by decide) (fun hc => absurd hc (nI_nlt (by omega) (by omega))) (fun _ => ?_)
      refine lv_aload_n hx hb dX5_fitting_17 rfl (lv_at hl 1 rfl) ?_
      refine lv_iload_n hx hb dX5_fitting_18 rfl (lv_at hl 2 rfl) ?_
      refine lv_iload hx hb dX5_fitting_19 (lv_at hl 6 rfl) ?_
      refine x_iast hx hb hK hI hAd hP hS 20 0 (by decide) (fun _ => rfl) rfl j rfl (by omega) (by decide) dX5_fitting_21 (fun H locs hP hS => ?_)
      rw [su_su] at hP
      refine lv_aload_n hx hb dX5_fitting_22 rfl (lv_at hl 0 rfl) ?_
      refine x_get (v := .ref (ad 38)) hx hb hts hinX5 hown hK hP 0 (by decide) rfl rfl 6 (by decide) (hts _ (List.mem_of_getElem? (i := 1) rfl)) rfl dX5_fitting_23 ?_
      refine lv_aload_n hx hb dX5_fitting_26 rfl (lv_at hl 0 rfl) ?_
      refine x_get (v := .ref (ad 12)) hx hb hts hinX5 hown hK hP 0 (by decide) rfl rfl 2 (by decide) (hts _ (List.mem_of_getElem? (i := 2) rfl)) rfl dX5_fitting_27 ?_
      refine lv_aload_n hx hb dX5_fitting_30 rfl (lv_at hl 0 rfl) ?_
      refine x_get (v := .ref (ad 32)) hx hb hts hinX5 hown hK hP 0 (by decide) rfl rfl 4 (by decide) (hts _ (List.mem_of_getElem? (i := 3) rfl)) rfl dX5_fitting_31 ?_
      refine x_calli (x_runV (As := [.ref (ad 12), .ref (ad 32)]) (rest := []) hF (c0_allSo hI (su S 20 j (nI i)) 32 (Or.inl rfl) N hN hN5 R hR hR8 hrd ) (cwV 2 hts gX5_fitting_X0_allSo rfl rfl rfl (by decide +kernel) ⟨Nat.le_of_ble_eq_true rfl, Nat.le_of_ble_eq_true rfl⟩) hK hP (by decide) rfl rfl rfl hl.1 rfl (Nat.le_of_ble_eq_true rfl) dX5_fitting_34 ⟨Nat.zero_le _, Nat.zero_le _⟩) hS hAd (fun r34 S34 H locs hw hP _ hS => ?_)
      obtain ⟨hw, eS34⟩ := hw
      rw [eS34] at hP
      by_cases q34 : cSo (su S 20 j (nI i)) N R 32 = true
      · have hw : r34 = 1 := hw.trans (if_pos q34)
        subst hw
        refine lv_if_eq (tgt := 49) hx hb dX5_fitting_37 (by decide) (fun hc => absurd hc (by decide)) (fun _ => ?_)
        refine lv_iload hx hb dX5_fitting_40 (lv_at hl 5 rfl) ?_
        refine lv_iconst (v := 1) hx hb dX5_fitting_42 (by decide +kernel) ?_
        refine lv_iload hx hb dX5_fitting_43 (lv_at hl 6 rfl) ?_
        refine lv_ishl hx hb dX5_fitting_45 ?_
        refine lv_ior hx hb dX5_fitting_46 ?_
        refine lv_topi (fun x47 ex47 => ?_)
        refine lv_istore (lv' := [(5, .int x47), (0, .ref (ad 0)), (1, .ref (ad 20)), (2, .int (nI j)), (3, .int (nI mx)), (4, .int (S 20 j)), (6, .int (nI i))]) hx hb dX5_fitting_47 hl (by decide) rfl (fun ls hl => ?_)
        refine lv_iinc (v := nI (i + 1)) (lv' := [(6, .int (nI (i + 1))), (5, .int x47), (0, .ref (ad 0)), (1, .ref (ad 20)), (2, .int (nI j)), (3, .int (nI mx)), (4, .int (S 20 j))]) hx hb dX5_fitting_49 hl (k := 6) rfl (nI_1 _) (by decide) rfl (fun ls hl => ?_)
        refine lv_goto (tgt := 11) hx hb dX5_fitting_52 (by decide) ?_
        exact ih (i + 1) x47 (nI i) (by omega) (hv.trans (congrArg (orL (fun v => if cSo (su S 20 j (nI v)) N R 32 = true then (1 : Int32) <<< (nI v &&& 31) else 0) n (i + 1)) (show a ||| (fun v => if cSo (su S 20 j (nI v)) N R 32 = true then (1 : Int32) <<< (nI v &&& 31) else 0) i = x47 from by subst ex47; simp [q34]))) H locs ls hP hS (lv_sub hl [2, 3, 4, 5, 6, 1, 0] rfl)
      · have hw : r34 = 0 := hw.trans (if_neg q34)
        subst hw
        refine lv_if_eq (tgt := 49) hx hb dX5_fitting_37 (by decide) (fun _ => ?_) (fun hc => absurd (by decide) hc)
        refine lv_iinc (v := nI (i + 1)) (lv' := [(6, .int (nI (i + 1))), (0, .ref (ad 0)), (1, .ref (ad 20)), (2, .int (nI j)), (3, .int (nI mx)), (4, .int (S 20 j)), (5, .int a)]) hx hb dX5_fitting_49 hl (k := 6) rfl (nI_1 _) (by decide) rfl (fun ls hl => ?_)
        refine lv_goto (tgt := 11) hx hb dX5_fitting_52 (by decide) ?_
        exact ih (i + 1) a (nI i) (by omega) (hv.trans (congrArg (orL (fun v => if cSo (su S 20 j (nI v)) N R 32 = true then (1 : Int32) <<< (nI v &&& 31) else 0) n (i + 1)) (show a ||| (fun v => if cSo (su S 20 j (nI v)) N R 32 = true then (1 : Int32) <<< (nI v &&& 31) else 0) i = a from by skip; simp [q34]))) H locs ls hP hS (lv_sub hl [1, 2, 3, 4, 5, 6, 0] rfl)
  refine lv_aload_n hx hb dX5_fitting_0 rfl (lv_at hl 1 rfl) ?_
  refine lv_iload_n hx hb dX5_fitting_1 rfl (lv_at hl 2 rfl) ?_
  refine x_iald (v := S 20 j) hx hb hK hP 20 0 (by decide) rfl rfl j rfl (by omega) (by decide) rfl dX5_fitting_2 ?_
  refine lv_topi (fun x3 ex3 => ?_)
  subst ex3
  refine lv_istore (lv' := [(4, .int (S 20 j)), (0, .ref (ad 0)), (1, .ref (ad 20)), (2, .int (nI j)), (3, .int (nI mx))]) hx hb dX5_fitting_3 hl (by decide) rfl (fun ls hl => ?_)
  refine lv_iconst (v := 0) hx hb dX5_fitting_5 (by decide +kernel) ?_
  refine lv_istore (lv' := [(5, .int 0), (4, .int (S 20 j)), (0, .ref (ad 0)), (1, .ref (ad 20)), (2, .int (nI j)), (3, .int (nI mx))]) hx hb dX5_fitting_6 hl (by decide) rfl (fun ls hl => ?_)
  refine lv_iconst (v := 0) hx hb dX5_fitting_8 (by decide +kernel) ?_
  refine lv_istore (lv' := [(6, .int 0), (5, .int 0), (4, .int (S 20 j)), (0, .ref (ad 0)), (1, .ref (ad 20)), (2, .int (nI j)), (3, .int (nI mx))]) hx hb dX5_fitting_9 hl (by decide) rfl (fun ls hl => ?_)
  have hP : va_P (dC, dI) vwCl (xW (cLy cI cZ cS cG ad) 42 ad (su S 20 j (S 20 j))) s.heap := by rw [su_same]; exact hP
  exact L11 (mx + 1) 0 0 (S 20 j) (Nat.zero_add _) rfl _ _ ls hP hS (lv_sub hl [3, 4, 5, 6, 2, 1, 0] rfl)

set_option maxHeartbeats 4000000 in
set_option maxRecDepth 100000 in
theorem c5_fitting_21 (hI : xI 42 ad) (S : xSt) (N : Nat) (hN : S 12 2 = nI N) (hN5 : N ≤ 5) (R : Nat) (hR : S 38 3 = nI R) (hR8 : R ≤ 8) (hrd : ∀ q, q < R → okN (S 39 q) 4 ∧ okN (S 40 q) 6) (j mx : Nat) (hj : j < 5) (hmx : mx < 10) : xMi l yX5_fitting wsX5_fitting ({ frames := 4, cells := 0, slots := 0, locals := 99 }) (dC, dI) vwCl (tyl cI cZ cS cG) (cLy cI cZ cS cG ad) 42 ad [.ref (ad 0), .ref (ad 21), .int (nI j), .int (nI mx)] S (fun r S' => r = orL (fun v => if cSo (su S 21 j (nI v)) N R 32 = true then (1 : Int32) <<< (nI v &&& 31) else 0) (mx + 1) 0 0 ∧ S' = S) := by
  refine xM_of (cc := cX5_fitting) (nL := 7) (ret := (some .int)) (by decide) rfl (Nat.le_of_ble_eq_true rfl) ?_
  intro p e s m below meth c ls B hl hK hP
  obtain ⟨hx, hb, hml, hown, hts, hr, hlocks⟩ := B
  have hl : lv_has ls 7 [(0, .ref (ad 0)), (1, .ref (ad 21)), (2, .int (nI j)), (3, .int (nI mx))] := hl
  have hS : va_S (xA 42 ad) s.heap s.heap [] := va_S.rf
  have hAd : ∀ k, k < 42 → xA 42 ad (ad k) := xA_in
  have hinX5 : ∀ w ∈ wsX50, w ∈ wsX5_fitting := fun _ h => List.mem_cons_of_mem _ (List.mem_append_left _ (List.mem_append_left _ (List.mem_append_left _ (List.mem_append_right _ h))))
  have hF : CallFix p m c cX5_fitting 7 s _ wsX5_fitting RX5 := ⟨hx, hb, hml, hown, hts⟩
  have L11 : ∀ (n : Nat) (i : Nat) (a : Int32) (x : Int32) (hi : i + n = mx + 1) (hv : orL (fun v => if cSo (su S 21 j (nI v)) N R 32 = true then (1 : Int32) <<< (nI v &&& 31) else 0) (mx + 1) 0 0 = orL (fun v => if cSo (su S 21 j (nI v)) N R 32 = true then (1 : Int32) <<< (nI v &&& 31) else 0) n i a) (H : Heap) (locs : List Loc) (ls : Array Slot), va_P (dC, dI) vwCl (xW (cLy cI cZ cS cG ad) 42 ad (su S 21 j x)) H → va_S (xA 42 ad) s.heap H locs → lv_has ls 7 [(0, .ref (ad 0)), (1, .ref (ad 21)), (2, .int (nI j)), (3, .int (nI mx)), (4, .int (S 21 j)), (5, .int a), (6, .int (nI i))] → W p l e ({ frames := 4, cells := 0, slots := 0, locals := 99 }) s m ([.ref (ad 0), .ref (ad 21), .int (nI j), .int (nI mx)] : List Value).toArray below meth c H locs 0 0 (MQ below (xQi (dC, dI) vwCl (cLy cI cZ cS cG ad) 42 ad (fun r S' => r = orL (fun v => if cSo (su S 21 j (nI v)) N R 32 = true then (1 : Int32) <<< (nI v &&& 31) else 0) (mx + 1) 0 0 ∧ S' = S)) ([.ref (ad 0), .ref (ad 21), .int (nI j), .int (nI mx)] : List Value).toArray s 0 0 (xA 42 ad)) (F0 m 11 ls []) := by
    intro n
    induction n with
    | zero =>
      intro i a x hi hv H locs ls hP hS hl
      refine lv_iload hx hb dX5_fitting_11 (lv_at hl 6 rfl) ?_
      refine lv_iload_n hx hb dX5_fitting_13 rfl (lv_at hl 3 rfl) ?_
      refine lv_icmp_gt (tgt := 55) hx hb dX5_fitting_14 (by decide) (fun _ => ?_) (fun hc => absurd (nI_lt (by omega) (by omega)) hc)
      refine lv_aload_n hx hb dX5_fitting_55 rfl (lv_at hl 1 rfl) ?_
      refine lv_iload_n hx hb dX5_fitting_56 rfl (lv_at hl 2 rfl) ?_
      refine lv_iload hx hb dX5_fitting_57 (lv_at hl 4 rfl) ?_
      refine x_iast hx hb hK hI hAd hP hS 21 0 (by decide) (fun _ => rfl) rfl j rfl (by omega) (by decide) dX5_fitting_59 (fun H locs hP hS => ?_)
      rw [su_su, su_same] at hP
      refine lv_iload hx hb dX5_fitting_60 (lv_at hl 5 rfl) ?_
      refine x_iret hx hb hr hlocks hP hS dX5_fitting_62 ?_
      exact ⟨hv.symm, rfl⟩
    | succ n ih =>
      intro i a x hi hv H locs ls hP hS hl
      refine lv_iload hx hb dX5_fitting_11 (lv_at hl 6 rfl) ?_
      refine lv_iload_n hx hb dX5_fitting_13 rfl (lv_at hl 3 rfl) ?_
      refine lv_icmp_gt (tgt := 55) hx hb dX5_fitting_14 (by decide) (fun hc => absurd hc (nI_nlt (by omega) (by omega))) (fun _ => ?_)
      refine lv_aload_n hx hb dX5_fitting_17 rfl (lv_at hl 1 rfl) ?_
      refine lv_iload_n hx hb dX5_fitting_18 rfl (lv_at hl 2 rfl) ?_
      refine lv_iload hx hb dX5_fitting_19 (lv_at hl 6 rfl) ?_
      refine x_iast hx hb hK hI hAd hP hS 21 0 (by decide) (fun _ => rfl) rfl j rfl (by omega) (by decide) dX5_fitting_21 (fun H locs hP hS => ?_)
      rw [su_su] at hP
      refine lv_aload_n hx hb dX5_fitting_22 rfl (lv_at hl 0 rfl) ?_
      refine x_get (v := .ref (ad 38)) hx hb hts hinX5 hown hK hP 0 (by decide) rfl rfl 6 (by decide) (hts _ (List.mem_of_getElem? (i := 1) rfl)) rfl dX5_fitting_23 ?_
      refine lv_aload_n hx hb dX5_fitting_26 rfl (lv_at hl 0 rfl) ?_
      refine x_get (v := .ref (ad 12)) hx hb hts hinX5 hown hK hP 0 (by decide) rfl rfl 2 (by decide) (hts _ (List.mem_of_getElem? (i := 2) rfl)) rfl dX5_fitting_27 ?_
      refine lv_aload_n hx hb dX5_fitting_30 rfl (lv_at hl 0 rfl) ?_
      refine x_get (v := .ref (ad 32)) hx hb hts hinX5 hown hK hP 0 (by decide) rfl rfl 4 (by decide) (hts _ (List.mem_of_getElem? (i := 3) rfl)) rfl dX5_fitting_31 ?_
      refine x_calli (x_runV (As := [.ref (ad 12), .ref (ad 32)]) (rest := []) hF (c0_allSo hI (su S 21 j (nI i)) 32 (Or.inl rfl) N hN hN5 R hR hR8 hrd ) (cwV 2 hts gX5_fitting_X0_allSo rfl rfl rfl (by decide +kernel) ⟨Nat.le_of_ble_eq_true rfl, Nat.le_of_ble_eq_true rfl⟩) hK hP (by decide) rfl rfl rfl hl.1 rfl (Nat.le_of_ble_eq_true rfl) dX5_fitting_34 ⟨Nat.zero_le _, Nat.zero_le _⟩) hS hAd (fun r34 S34 H locs hw hP _ hS => ?_)
      obtain ⟨hw, eS34⟩ := hw
      rw [eS34] at hP
      by_cases q34 : cSo (su S 21 j (nI i)) N R 32 = true
      · have hw : r34 = 1 := hw.trans (if_pos q34)
        subst hw
        refine lv_if_eq (tgt := 49) hx hb dX5_fitting_37 (by decide) (fun hc => absurd hc (by decide)) (fun _ => ?_)
        refine lv_iload hx hb dX5_fitting_40 (lv_at hl 5 rfl) ?_
        refine lv_iconst (v := 1) hx hb dX5_fitting_42 (by decide +kernel) ?_
        refine lv_iload hx hb dX5_fitting_43 (lv_at hl 6 rfl) ?_
        refine lv_ishl hx hb dX5_fitting_45 ?_
        refine lv_ior hx hb dX5_fitting_46 ?_
        refine lv_topi (fun x47 ex47 => ?_)
        refine lv_istore (lv' := [(5, .int x47), (0, .ref (ad 0)), (1, .ref (ad 21)), (2, .int (nI j)), (3, .int (nI mx)), (4, .int (S 21 j)), (6, .int (nI i))]) hx hb dX5_fitting_47 hl (by decide) rfl (fun ls hl => ?_)
        refine lv_iinc (v := nI (i + 1)) (lv' := [(6, .int (nI (i + 1))), (5, .int x47), (0, .ref (ad 0)), (1, .ref (ad 21)), (2, .int (nI j)), (3, .int (nI mx)), (4, .int (S 21 j))]) hx hb dX5_fitting_49 hl (k := 6) rfl (nI_1 _) (by decide) rfl (fun ls hl => ?_)
        refine lv_goto (tgt := 11) hx hb dX5_fitting_52 (by decide) ?_
        exact ih (i + 1) x47 (nI i) (by omega) (hv.trans (congrArg (orL (fun v => if cSo (su S 21 j (nI v)) N R 32 = true then (1 : Int32) <<< (nI v &&& 31) else 0) n (i + 1)) (show a ||| (fun v => if cSo (su S 21 j (nI v)) N R 32 = true then (1 : Int32) <<< (nI v &&& 31) else 0) i = x47 from by subst ex47; simp [q34]))) H locs ls hP hS (lv_sub hl [2, 3, 4, 5, 6, 1, 0] rfl)
      · have hw : r34 = 0 := hw.trans (if_neg q34)
        subst hw
        refine lv_if_eq (tgt := 49) hx hb dX5_fitting_37 (by decide) (fun _ => ?_) (fun hc => absurd (by decide) hc)
        refine lv_iinc (v := nI (i + 1)) (lv' := [(6, .int (nI (i + 1))), (0, .ref (ad 0)), (1, .ref (ad 21)), (2, .int (nI j)), (3, .int (nI mx)), (4, .int (S 21 j)), (5, .int a)]) hx hb dX5_fitting_49 hl (k := 6) rfl (nI_1 _) (by decide) rfl (fun ls hl => ?_)
        refine lv_goto (tgt := 11) hx hb dX5_fitting_52 (by decide) ?_
        exact ih (i + 1) a (nI i) (by omega) (hv.trans (congrArg (orL (fun v => if cSo (su S 21 j (nI v)) N R 32 = true then (1 : Int32) <<< (nI v &&& 31) else 0) n (i + 1)) (show a ||| (fun v => if cSo (su S 21 j (nI v)) N R 32 = true then (1 : Int32) <<< (nI v &&& 31) else 0) i = a from by skip; simp [q34]))) H locs ls hP hS (lv_sub hl [1, 2, 3, 4, 5, 6, 0] rfl)
  refine lv_aload_n hx hb dX5_fitting_0 rfl (lv_at hl 1 rfl) ?_
  refine lv_iload_n hx hb dX5_fitting_1 rfl (lv_at hl 2 rfl) ?_
  refine x_iald (v := S 21 j) hx hb hK hP 21 0 (by decide) rfl rfl j rfl (by omega) (by decide) rfl dX5_fitting_2 ?_
  refine lv_topi (fun x3 ex3 => ?_)
  subst ex3
  refine lv_istore (lv' := [(4, .int (S 21 j)), (0, .ref (ad 0)), (1, .ref (ad 21)), (2, .int (nI j)), (3, .int (nI mx))]) hx hb dX5_fitting_3 hl (by decide) rfl (fun ls hl => ?_)
  refine lv_iconst (v := 0) hx hb dX5_fitting_5 (by decide +kernel) ?_
  refine lv_istore (lv' := [(5, .int 0), (4, .int (S 21 j)), (0, .ref (ad 0)), (1, .ref (ad 21)), (2, .int (nI j)), (3, .int (nI mx))]) hx hb dX5_fitting_6 hl (by decide) rfl (fun ls hl => ?_)
  refine lv_iconst (v := 0) hx hb dX5_fitting_8 (by decide +kernel) ?_
  refine lv_istore (lv' := [(6, .int 0), (5, .int 0), (4, .int (S 21 j)), (0, .ref (ad 0)), (1, .ref (ad 21)), (2, .int (nI j)), (3, .int (nI mx))]) hx hb dX5_fitting_9 hl (by decide) rfl (fun ls hl => ?_)
  have hP : va_P (dC, dI) vwCl (xW (cLy cI cZ cS cG ad) 42 ad (su S 21 j (S 21 j))) s.heap := by rw [su_same]; exact hP
  exact L11 (mx + 1) 0 0 (S 21 j) (Nat.zero_add _) rfl _ _ ls hP hS (lv_sub hl [3, 4, 5, 6, 2, 1, 0] rfl)

set_option maxHeartbeats 4000000 in
set_option maxRecDepth 100000 in
theorem c5_worths (hI : xI 42 ad) (S : xSt) (N : Nat) (hN : S 12 2 = nI N) (hN5 : N ≤ 5) (R : Nat) (hR : S 38 3 = nI R) (hR8 : R ≤ 8) (hrd : ∀ q, q < R → okN (S 39 q) 4 ∧ okN (S 40 q) 6) (sn : Int32) : xMi l yX5_worths wsX5_worths ({ frames := 5, cells := 0, slots := 0, locals := 125 }) (dC, dI) vwCl (tyl cI cZ cS cG) (cLy cI cZ cS cG ad) 42 ad [.ref (ad 0), .int sn] S (fun r S' => r = (if inR sn (S 12 2) then orL (fun v => if cSo (su S 20 (nN sn) (nI v)) N R 32 = true then (1 : Int32) <<< (nI v &&& 31) else 0) 10 0 0 else -1) ∧ S' = S) := by
  refine xM_of (cc := cX5_worths) (nL := 2) (ret := (some .int)) (by decide) rfl (Nat.le_of_ble_eq_true rfl) ?_
  intro p e s m below meth c ls B hl hK hP
  obtain ⟨hx, hb, hml, hown, hts, hr, hlocks⟩ := B
  have hl : lv_has ls 2 [(0, .ref (ad 0)), (1, .int sn)] := hl
  have hS : va_S (xA 42 ad) s.heap s.heap [] := va_S.rf
  have hAd : ∀ k, k < 42 → xA 42 ad (ad k) := xA_in
  have hinX4 : ∀ w ∈ wsX40, w ∈ wsX5_worths := fun _ h => List.mem_cons_of_mem _ (List.mem_append_left _ (List.mem_append_left _ (List.mem_append_right _ h)))
  have hinX5 : ∀ w ∈ wsX50, w ∈ wsX5_worths := fun _ h => List.mem_cons_of_mem _ (List.mem_append_left _ (List.mem_append_left _ (List.mem_append_left _ (List.mem_append_right _ h))))
  have hF : CallFix p m c cX5_worths 2 s _ wsX5_worths RX5 := ⟨hx, hb, hml, hown, hts⟩
  refine lv_aload_n hx hb dX5_worths_0 rfl (lv_at hl 0 rfl) ?_
  refine lv_iload_n hx hb dX5_worths_1 rfl (lv_at hl 1 rfl) ?_
  refine x_calli (x_runV (As := [.int sn]) (rest := []) hF (c5_isSon hI S sn ) (cwV 1 hts gX5_worths_X5_isSon rfl rfl rfl (by decide +kernel) ⟨Nat.le_of_ble_eq_true rfl, Nat.le_of_ble_eq_true rfl⟩) hK hP (by decide) rfl rfl rfl hl.1 rfl (Nat.le_of_ble_eq_true rfl) dX5_worths_2 ⟨Nat.zero_le _, Nat.zero_le _⟩) hS hAd (fun r2 S2 H locs hw hP _ hS => ?_)
  obtain ⟨hw, eS2⟩ := hw
  rw [eS2] at hP
  by_cases q2 : inR sn (S 12 2) = true
  · have hw : r2 = 1 := hw.trans (if_pos q2)
    subst hw
    obtain ⟨j2, hj2, rfl⟩ : ∃ j, j < N ∧ sn = nI j := inR_ex (by rw [← hN]; exact q2) (by omega)
    have en2 : nN (nI j2) = j2 := nN_nI (by omega)
    refine lv_if_eq (tgt := 25) hx hb dX5_worths_5 (by decide) (fun hc => absurd hc (by decide)) (fun _ => ?_)
    refine lv_aload_n hx hb dX5_worths_8 rfl (lv_at hl 0 rfl) ?_
    refine lv_aload_n hx hb dX5_worths_9 rfl (lv_at hl 0 rfl) ?_
    refine x_get (v := .ref (ad 12)) hx hb hts hinX5 hown hK hP 0 (by decide) rfl rfl 2 (by decide) (hts _ (List.mem_of_getElem? (i := 1) rfl)) rfl dX5_worths_10 ?_
    refine x_get (v := .ref (ad 20)) hx hb hts hinX4 hown hK hP 12 (by decide) rfl rfl 6 (by decide) (hts _ (List.mem_of_getElem? (i := 2) rfl)) rfl dX5_worths_13 ?_
    refine lv_iload_n hx hb dX5_worths_16 rfl (lv_at hl 1 rfl) ?_
    refine lv_bipush (v := 9) hx hb dX5_worths_17 (by decide +kernel) ?_
    refine x_calli (x_runV (As := [.ref (ad 20), .int (nI j2), .int 9]) (rest := []) hF (c5_fitting_20 hI S N hN hN5 R hR hR8 hrd j2 9 (by omega) (by omega)) (cwV 3 hts gX5_worths_X5_fitting rfl rfl rfl (by decide +kernel) ⟨Nat.le_of_ble_eq_true rfl, Nat.le_of_ble_eq_true rfl⟩) hK hP (by decide) rfl rfl rfl hl.1 rfl (Nat.le_of_ble_eq_true rfl) dX5_worths_19 ⟨Nat.zero_le _, Nat.zero_le _⟩) hS hAd (fun r19 S19 H locs hw hP _ hS => ?_)
    obtain ⟨er19, eS19⟩ := hw
    rw [eS19] at hP
    refine lv_goto (tgt := 26) hx hb dX5_worths_22 (by decide) ?_
    refine x_iret hx hb hr hlocks hP hS dX5_worths_26 ?_
    subst er19
    exact ⟨by first | (simp [q2, en2]; done) | grind, rfl⟩
  · have hw : r2 = 0 := hw.trans (if_neg q2)
    subst hw
    refine lv_if_eq (tgt := 25) hx hb dX5_worths_5 (by decide) (fun _ => ?_) (fun hc => absurd (by decide) hc)
    refine lv_iconst (v := (-1)) hx hb dX5_worths_25 (by decide +kernel) ?_
    refine x_iret hx hb hr hlocks hP hS dX5_worths_26 ?_
    skip
    exact ⟨by first | (simp [q2]; done) | grind, rfl⟩

set_option maxHeartbeats 4000000 in
set_option maxRecDepth 100000 in
theorem c5_kinds (hI : xI 42 ad) (S : xSt) (N : Nat) (hN : S 12 2 = nI N) (hN5 : N ≤ 5) (R : Nat) (hR : S 38 3 = nI R) (hR8 : R ≤ 8) (hrd : ∀ q, q < R → okN (S 39 q) 4 ∧ okN (S 40 q) 6) (sn : Int32) : xMi l yX5_kinds wsX5_kinds ({ frames := 5, cells := 0, slots := 0, locals := 125 }) (dC, dI) vwCl (tyl cI cZ cS cG) (cLy cI cZ cS cG ad) 42 ad [.ref (ad 0), .int sn] S (fun r S' => r = (if inR sn (S 12 2) then orL (fun v => if cSo (su S 18 (nN sn) (nI v)) N R 32 = true then (1 : Int32) <<< (nI v &&& 31) else 0) 3 0 0 else -1) ∧ S' = S) := by
  refine xM_of (cc := cX5_kinds) (nL := 2) (ret := (some .int)) (by decide) rfl (Nat.le_of_ble_eq_true rfl) ?_
  intro p e s m below meth c ls B hl hK hP
  obtain ⟨hx, hb, hml, hown, hts, hr, hlocks⟩ := B
  have hl : lv_has ls 2 [(0, .ref (ad 0)), (1, .int sn)] := hl
  have hS : va_S (xA 42 ad) s.heap s.heap [] := va_S.rf
  have hAd : ∀ k, k < 42 → xA 42 ad (ad k) := xA_in
  have hinX4 : ∀ w ∈ wsX40, w ∈ wsX5_kinds := fun _ h => List.mem_cons_of_mem _ (List.mem_append_left _ (List.mem_append_left _ (List.mem_append_right _ h)))
  have hinX5 : ∀ w ∈ wsX50, w ∈ wsX5_kinds := fun _ h => List.mem_cons_of_mem _ (List.mem_append_left _ (List.mem_append_left _ (List.mem_append_left _ (List.mem_append_right _ h))))
  have hF : CallFix p m c cX5_kinds 2 s _ wsX5_kinds RX5 := ⟨hx, hb, hml, hown, hts⟩
  refine lv_aload_n hx hb dX5_kinds_0 rfl (lv_at hl 0 rfl) ?_
  refine lv_iload_n hx hb dX5_kinds_1 rfl (lv_at hl 1 rfl) ?_
  refine x_calli (x_runV (As := [.int sn]) (rest := []) hF (c5_isSon hI S sn ) (cwV 1 hts gX5_kinds_X5_isSon rfl rfl rfl (by decide +kernel) ⟨Nat.le_of_ble_eq_true rfl, Nat.le_of_ble_eq_true rfl⟩) hK hP (by decide) rfl rfl rfl hl.1 rfl (Nat.le_of_ble_eq_true rfl) dX5_kinds_2 ⟨Nat.zero_le _, Nat.zero_le _⟩) hS hAd (fun r2 S2 H locs hw hP _ hS => ?_)
  obtain ⟨hw, eS2⟩ := hw
  rw [eS2] at hP
  by_cases q2 : inR sn (S 12 2) = true
  · have hw : r2 = 1 := hw.trans (if_pos q2)
    subst hw
    obtain ⟨j2, hj2, rfl⟩ : ∃ j, j < N ∧ sn = nI j := inR_ex (by rw [← hN]; exact q2) (by omega)
    have en2 : nN (nI j2) = j2 := nN_nI (by omega)
    refine lv_if_eq (tgt := 24) hx hb dX5_kinds_5 (by decide) (fun hc => absurd hc (by decide)) (fun _ => ?_)
    refine lv_aload_n hx hb dX5_kinds_8 rfl (lv_at hl 0 rfl) ?_
    refine lv_aload_n hx hb dX5_kinds_9 rfl (lv_at hl 0 rfl) ?_
    refine x_get (v := .ref (ad 12)) hx hb hts hinX5 hown hK hP 0 (by decide) rfl rfl 2 (by decide) (hts _ (List.mem_of_getElem? (i := 1) rfl)) rfl dX5_kinds_10 ?_
    refine x_get (v := .ref (ad 18)) hx hb hts hinX4 hown hK hP 12 (by decide) rfl rfl 4 (by decide) (hts _ (List.mem_of_getElem? (i := 2) rfl)) rfl dX5_kinds_13 ?_
    refine lv_iload_n hx hb dX5_kinds_16 rfl (lv_at hl 1 rfl) ?_
    refine lv_iconst (v := 2) hx hb dX5_kinds_17 (by decide +kernel) ?_
    refine x_calli (x_runV (As := [.ref (ad 18), .int (nI j2), .int 2]) (rest := []) hF (c5_fitting_18 hI S N hN hN5 R hR hR8 hrd j2 2 (by omega) (by omega)) (cwV 3 hts gX5_kinds_X5_fitting rfl rfl rfl (by decide +kernel) ⟨Nat.le_of_ble_eq_true rfl, Nat.le_of_ble_eq_true rfl⟩) hK hP (by decide) rfl rfl rfl hl.1 rfl (Nat.le_of_ble_eq_true rfl) dX5_kinds_18 ⟨Nat.zero_le _, Nat.zero_le _⟩) hS hAd (fun r18 S18 H locs hw hP _ hS => ?_)
    obtain ⟨er18, eS18⟩ := hw
    rw [eS18] at hP
    refine lv_goto (tgt := 25) hx hb dX5_kinds_21 (by decide) ?_
    refine x_iret hx hb hr hlocks hP hS dX5_kinds_25 ?_
    subst er18
    exact ⟨by first | (simp [q2, en2]; done) | grind, rfl⟩
  · have hw : r2 = 0 := hw.trans (if_neg q2)
    subst hw
    refine lv_if_eq (tgt := 24) hx hb dX5_kinds_5 (by decide) (fun _ => ?_) (fun hc => absurd (by decide) hc)
    refine lv_iconst (v := (-1)) hx hb dX5_kinds_24 (by decide +kernel) ?_
    refine x_iret hx hb hr hlocks hP hS dX5_kinds_25 ?_
    skip
    exact ⟨by first | (simp [q2]; done) | grind, rfl⟩

set_option maxHeartbeats 4000000 in
set_option maxRecDepth 100000 in
theorem c5_fondness (hI : xI 42 ad) (S : xSt) (N : Nat) (hN : S 12 2 = nI N) (hN5 : N ≤ 5) (R : Nat) (hR : S 38 3 = nI R) (hR8 : R ≤ 8) (hrd : ∀ q, q < R → okN (S 39 q) 4 ∧ okN (S 40 q) 6) (sn : Int32) : xMi l yX5_fondness wsX5_fondness ({ frames := 5, cells := 0, slots := 0, locals := 125 }) (dC, dI) vwCl (tyl cI cZ cS cG) (cLy cI cZ cS cG ad) 42 ad [.ref (ad 0), .int sn] S (fun r S' => r = (if inR sn (S 12 2) then orL (fun v => if cSo (su S 21 (nN sn) (nI v)) N R 32 = true then (1 : Int32) <<< (nI v &&& 31) else 0) 4 0 0 else -1) ∧ S' = S) := by
  refine xM_of (cc := cX5_fondness) (nL := 2) (ret := (some .int)) (by decide) rfl (Nat.le_of_ble_eq_true rfl) ?_
  intro p e s m below meth c ls B hl hK hP
  obtain ⟨hx, hb, hml, hown, hts, hr, hlocks⟩ := B
  have hl : lv_has ls 2 [(0, .ref (ad 0)), (1, .int sn)] := hl
  have hS : va_S (xA 42 ad) s.heap s.heap [] := va_S.rf
  have hAd : ∀ k, k < 42 → xA 42 ad (ad k) := xA_in
  have hinX4 : ∀ w ∈ wsX40, w ∈ wsX5_fondness := fun _ h => List.mem_cons_of_mem _ (List.mem_append_left _ (List.mem_append_left _ (List.mem_append_right _ h)))
  have hinX5 : ∀ w ∈ wsX50, w ∈ wsX5_fondness := fun _ h => List.mem_cons_of_mem _ (List.mem_append_left _ (List.mem_append_left _ (List.mem_append_left _ (List.mem_append_right _ h))))
  have hF : CallFix p m c cX5_fondness 2 s _ wsX5_fondness RX5 := ⟨hx, hb, hml, hown, hts⟩
  refine lv_aload_n hx hb dX5_fondness_0 rfl (lv_at hl 0 rfl) ?_
  refine lv_iload_n hx hb dX5_fondness_1 rfl (lv_at hl 1 rfl) ?_
  refine x_calli (x_runV (As := [.int sn]) (rest := []) hF (c5_isSon hI S sn ) (cwV 1 hts gX5_fondness_X5_isSon rfl rfl rfl (by decide +kernel) ⟨Nat.le_of_ble_eq_true rfl, Nat.le_of_ble_eq_true rfl⟩) hK hP (by decide) rfl rfl rfl hl.1 rfl (Nat.le_of_ble_eq_true rfl) dX5_fondness_2 ⟨Nat.zero_le _, Nat.zero_le _⟩) hS hAd (fun r2 S2 H locs hw hP _ hS => ?_)
  obtain ⟨hw, eS2⟩ := hw
  rw [eS2] at hP
  by_cases q2 : inR sn (S 12 2) = true
  · have hw : r2 = 1 := hw.trans (if_pos q2)
    subst hw
    obtain ⟨j2, hj2, rfl⟩ : ∃ j, j < N ∧ sn = nI j := inR_ex (by rw [← hN]; exact q2) (by omega)
    have en2 : nN (nI j2) = j2 := nN_nI (by omega)
    refine lv_if_eq (tgt := 24) hx hb dX5_fondness_5 (by decide) (fun hc => absurd hc (by decide)) (fun _ => ?_)
    refine lv_aload_n hx hb dX5_fondness_8 rfl (lv_at hl 0 rfl) ?_
    refine lv_aload_n hx hb dX5_fondness_9 rfl (lv_at hl 0 rfl) ?_
    refine x_get (v := .ref (ad 12)) hx hb hts hinX5 hown hK hP 0 (by decide) rfl rfl 2 (by decide) (hts _ (List.mem_of_getElem? (i := 1) rfl)) rfl dX5_fondness_10 ?_
    refine x_get (v := .ref (ad 21)) hx hb hts hinX4 hown hK hP 12 (by decide) rfl rfl 7 (by decide) (hts _ (List.mem_of_getElem? (i := 2) rfl)) rfl dX5_fondness_13 ?_
    refine lv_iload_n hx hb dX5_fondness_16 rfl (lv_at hl 1 rfl) ?_
    refine lv_iconst (v := 3) hx hb dX5_fondness_17 (by decide +kernel) ?_
    refine x_calli (x_runV (As := [.ref (ad 21), .int (nI j2), .int 3]) (rest := []) hF (c5_fitting_21 hI S N hN hN5 R hR hR8 hrd j2 3 (by omega) (by omega)) (cwV 3 hts gX5_fondness_X5_fitting rfl rfl rfl (by decide +kernel) ⟨Nat.le_of_ble_eq_true rfl, Nat.le_of_ble_eq_true rfl⟩) hK hP (by decide) rfl rfl rfl hl.1 rfl (Nat.le_of_ble_eq_true rfl) dX5_fondness_18 ⟨Nat.zero_le _, Nat.zero_le _⟩) hS hAd (fun r18 S18 H locs hw hP _ hS => ?_)
    obtain ⟨er18, eS18⟩ := hw
    rw [eS18] at hP
    refine lv_goto (tgt := 25) hx hb dX5_fondness_21 (by decide) ?_
    refine x_iret hx hb hr hlocks hP hS dX5_fondness_25 ?_
    subst er18
    exact ⟨by first | (simp [q2, en2]; done) | grind, rfl⟩
  · have hw : r2 = 0 := hw.trans (if_neg q2)
    subst hw
    refine lv_if_eq (tgt := 24) hx hb dX5_fondness_5 (by decide) (fun _ => ?_) (fun hc => absurd (by decide) hc)
    refine lv_iconst (v := (-1)) hx hb dX5_fondness_24 (by decide +kernel) ?_
    refine x_iret hx hb hr hlocks hP hS dX5_fondness_25 ?_
    skip
    exact ⟨by first | (simp [q2]; done) | grind, rfl⟩

set_option maxHeartbeats 4000000 in
set_option maxRecDepth 100000 in
theorem c5_hole (hI : xI 42 ad) (S : xSt) (N : Nat) (hN : S 12 2 = nI N) (hN5 : N ≤ 5) (C : Nat) (hC : S 12 0 = nI C) (hC4 : C ≤ 4) (Y : Nat) (hY : S 12 1 = nI Y) (hY6 : Y ≤ 6) (cn : Int32) : xMi l yX5_hole wsX5_hole ({ frames := 4, cells := 0, slots := 0, locals := 99 }) (dC, dI) vwCl (tyl cI cZ cS cG) (cLy cI cZ cS cG ad) 42 ad [.ref (ad 0), .int cn] S (fun r S' => r = (if inR cn (S 12 0) then scan (fun y => cT (sr S 37 (frG (1 <<< (S 12 2 &&& 31) - 1) (S 37))) N 35 0 (nN cn) y) Y 0 else -1) ∧ (S' = S ∨ ∃ g, S' = sr S 37 g)) := by
  refine xM_of (cc := cX5_hole) (nL := 2) (ret := (some .int)) (by decide) rfl (Nat.le_of_ble_eq_true rfl) ?_
  intro p e s m below meth c ls B hl hK hP
  obtain ⟨hx, hb, hml, hown, hts, hr, hlocks⟩ := B
  have hl : lv_has ls 2 [(0, .ref (ad 0)), (1, .int cn)] := hl
  have hS : va_S (xA 42 ad) s.heap s.heap [] := va_S.rf
  have hAd : ∀ k, k < 42 → xA 42 ad (ad k) := xA_in
  have hinX5 : ∀ w ∈ wsX50, w ∈ wsX5_hole := fun _ h => List.mem_cons_of_mem _ (List.mem_append_left _ (List.mem_append_left _ (List.mem_append_right _ h)))
  have hF : CallFix p m c cX5_hole 2 s _ wsX5_hole RX5 := ⟨hx, hb, hml, hown, hts⟩
  refine lv_aload_n hx hb dX5_hole_0 rfl (lv_at hl 0 rfl) ?_
  refine lv_iload_n hx hb dX5_hole_1 rfl (lv_at hl 1 rfl) ?_
  refine x_calli (x_runV (As := [.int cn]) (rest := []) hF (c5_isCourt hI S cn ) (cwV 1 hts gX5_hole_X5_isCourt rfl rfl rfl (by decide +kernel) ⟨Nat.le_of_ble_eq_true rfl, Nat.le_of_ble_eq_true rfl⟩) hK hP (by decide) rfl rfl rfl hl.1 rfl (Nat.le_of_ble_eq_true rfl) dX5_hole_2 ⟨Nat.zero_le _, Nat.zero_le _⟩) hS hAd (fun r2 S2 H locs hw hP _ hS => ?_)
  obtain ⟨hw, eS2⟩ := hw
  rw [eS2] at hP
  by_cases q2 : inR cn (S 12 0) = true
  · have hw : r2 = 1 := hw.trans (if_pos q2)
    subst hw
    obtain ⟨j2, hj2, rfl⟩ : ∃ j, j < C ∧ cn = nI j := inR_ex (by rw [← hC]; exact q2) (by omega)
    have en2 : nN (nI j2) = j2 := nN_nI (by omega)
    refine lv_if_ne (tgt := 10) hx hb dX5_hole_5 (by decide) (fun _ => ?_) (fun hc => absurd hc (by decide))
    refine lv_aload_n hx hb dX5_hole_10 rfl (lv_at hl 0 rfl) ?_
    refine x_get (v := .ref (ad 35)) hx hb hts hinX5 hown hK hP 0 (by decide) rfl rfl 5 (by decide) (hts _ (List.mem_of_getElem? (i := 1) rfl)) rfl dX5_hole_11 ?_
    refine lv_aload_n hx hb dX5_hole_14 rfl (lv_at hl 0 rfl) ?_
    refine x_calli (x_runV (As := []) (rest := [.ref (ad 35)]) hF (c5_everySon hI S  ) (cwV 0 hts gX5_hole_X5_everySon rfl rfl rfl (by decide +kernel) ⟨Nat.le_of_ble_eq_true rfl, Nat.le_of_ble_eq_true rfl⟩) hK hP (by decide) rfl rfl rfl hl.1 rfl (Nat.le_of_ble_eq_true rfl) dX5_hole_15 ⟨Nat.zero_le _, Nat.zero_le _⟩) hS hAd (fun r15 S15 H locs hw hP _ hS => ?_)
    obtain ⟨er15, eS15⟩ := hw
    rw [eS15] at hP
    refine x_callv (x_runV (As := [.int r15]) (rest := []) hF (c1_fromTheStart hI S 35 (Or.inr rfl) r15 ) (cwV 1 hts gX5_hole_X1_fromTheStart rfl rfl rfl (by decide +kernel) ⟨Nat.le_of_ble_eq_true rfl, Nat.le_of_ble_eq_true rfl⟩) hK hP (by decide) rfl rfl rfl hl.1 rfl (Nat.le_of_ble_eq_true rfl) dX5_hole_18 ⟨Nat.zero_le _, Nat.zero_le _⟩) hS hAd (fun S18 H locs hw hP _ hS => ?_)
    rw [hw] at hP
    refine lv_aload_n hx hb dX5_hole_21 rfl (lv_at hl 0 rfl) ?_
    refine x_get (v := .ref (ad 12)) hx hb hts hinX5 hown hK hP 0 (by decide) rfl rfl 2 (by decide) (hts _ (List.mem_of_getElem? (i := 2) rfl)) rfl dX5_hole_22 ?_
    refine lv_iload_n hx hb dX5_hole_25 rfl (lv_at hl 1 rfl) ?_
    refine lv_aload_n hx hb dX5_hole_26 rfl (lv_at hl 0 rfl) ?_
    refine x_get (v := .ref (ad 35)) hx hb hts hinX5 hown hK hP 0 (by decide) rfl rfl 5 (by decide) (hts _ (List.mem_of_getElem? (i := 1) rfl)) rfl dX5_hole_27 ?_
    refine x_calli (x_runV (As := [.int (nI j2), .ref (ad 35)]) (rest := []) hF (c4_breakYearOf hI (sr S 37 (frG r15 (S 37))) 35 (Or.inr rfl) N hN hN5 Y hY hY6 j2 (by omega) ) (cwV 2 hts gX5_hole_X4_breakYearOf rfl rfl rfl (by decide +kernel) ⟨Nat.le_of_ble_eq_true rfl, Nat.le_of_ble_eq_true rfl⟩) hK hP (by decide) rfl rfl rfl hl.1 rfl (Nat.le_of_ble_eq_true rfl) dX5_hole_30 ⟨Nat.zero_le _, Nat.zero_le _⟩) hS hAd (fun r30 S30 H locs hw hP _ hS => ?_)
    obtain ⟨er30, eS30⟩ := hw
    rw [eS30] at hP
    refine x_iret hx hb hr hlocks hP hS dX5_hole_33 ?_
    subst er15; subst er30
    exact ⟨by first | (simp [q2, en2]; done) | grind, by first | exact Or.inl rfl | exact Or.inr ⟨_, rfl⟩⟩
  · have hw : r2 = 0 := hw.trans (if_neg q2)
    subst hw
    refine lv_if_ne (tgt := 10) hx hb dX5_hole_5 (by decide) (fun hc => absurd (by decide) hc) (fun _ => ?_)
    refine lv_iconst (v := (-1)) hx hb dX5_hole_8 (by decide +kernel) ?_
    refine x_iret hx hb hr hlocks hP hS dX5_hole_9 ?_
    skip
    exact ⟨by first | (simp [q2]; done) | grind, by first | exact Or.inl rfl | exact Or.inr ⟨_, rfl⟩⟩

set_option maxHeartbeats 4000000 in
set_option maxRecDepth 100000 in
theorem c5_when_t (hI : xI 42 ad) (S : xSt) (N : Nat) (hN : S 12 2 = nI N) (hN5 : N ≤ 5) (Y : Nat) (hY : S 12 1 = nI Y) (hY6 : Y ≤ 6) (j : Nat) (hj : j < N) (f : Nat) (hf : f < 4) (hfa : S 19 j = nI f) : xMi l yX5_when wsX5_when ({ frames := 4, cells := 0, slots := 0, locals := 99 }) (dC, dI) vwCl (tyl cI cZ cS cG) (cLy cI cZ cS cG ad) 42 ad [.ref (ad 0), .int (nI j)] S (fun r S' => r = dsc (fun y => decide (scan (fun z => cT (su (sr S 37 (frG (1 <<< (S 12 2 &&& 31) - 1) (S 37))) 37 j (nI y)) N 35 0 f z) Y 0 = -9)) (Y + 1) ∧ ∃ g, S' = sr S 37 g) := by
  refine xM_of (cc := cX5_when) (nL := 3) (ret := (some .int)) (by decide) rfl (Nat.le_of_ble_eq_true rfl) ?_
  intro p e s m below meth c ls B hl hK hP
  obtain ⟨hx, hb, hml, hown, hts, hr, hlocks⟩ := B
  have hl : lv_has ls 3 [(0, .ref (ad 0)), (1, .int (nI j))] := hl
  have hS : va_S (xA 42 ad) s.heap s.heap [] := va_S.rf
  have hAd : ∀ k, k < 42 → xA 42 ad (ad k) := xA_in
  have hinX1 : ∀ w ∈ wsX10, w ∈ wsX5_when := fun _ h => List.mem_cons_of_mem _ (List.mem_append_right _ h)
  have hinX4 : ∀ w ∈ wsX40, w ∈ wsX5_when := fun _ h => List.mem_cons_of_mem _ (List.mem_append_left _ (List.mem_append_right _ h))
  have hinX5 : ∀ w ∈ wsX50, w ∈ wsX5_when := fun _ h => List.mem_cons_of_mem _ (List.mem_append_left _ (List.mem_append_left _ (List.mem_append_right _ h)))
  have hF : CallFix p m c cX5_when 3 s _ wsX5_when RX5 := ⟨hx, hb, hml, hown, hts⟩
  have L29 : ∀ (n : Nat) (x2 : Int32) (x : Int32) (hn : n ≤ Y + 1) (hx2 : x2 = nI n - 1) (hv : dsc (fun y => decide (scan (fun z => cT (su (sr S 37 (frG (1 <<< (S 12 2 &&& 31) - 1) (S 37))) 37 j (nI y)) N 35 0 f z) Y 0 = -9)) (Y + 1) = dsc (fun y => decide (scan (fun z => cT (su (sr S 37 (frG (1 <<< (S 12 2 &&& 31) - 1) (S 37))) 37 j (nI y)) N 35 0 f z) Y 0 = -9)) n) (H : Heap) (locs : List Loc) (ls : Array Slot), va_P (dC, dI) vwCl (xW (cLy cI cZ cS cG ad) 42 ad (su (sr S 37 (frG (1 <<< (S 12 2 &&& 31) - 1) (S 37))) 37 j x)) H → va_S (xA 42 ad) s.heap H locs → lv_has ls 3 [(0, .ref (ad 0)), (1, .int (nI j)), (2, .int x2)] → W p l e ({ frames := 4, cells := 0, slots := 0, locals := 99 }) s m ([.ref (ad 0), .int (nI j)] : List Value).toArray below meth c H locs 0 0 (MQ below (xQi (dC, dI) vwCl (cLy cI cZ cS cG ad) 42 ad (fun r S' => r = dsc (fun y => decide (scan (fun z => cT (su (sr S 37 (frG (1 <<< (S 12 2 &&& 31) - 1) (S 37))) 37 j (nI y)) N 35 0 f z) Y 0 = -9)) (Y + 1) ∧ ∃ g, S' = sr S 37 g)) ([.ref (ad 0), .int (nI j)] : List Value).toArray s 0 0 (xA 42 ad)) (F0 m 29 ls []) := by
    intro n
    induction n with
    | zero =>
      intro x2 x hn hx2 hv H locs ls hP hS hl
      refine lv_iload_n hx hb dX5_when_29 rfl (lv_at hl 2 rfl) ?_
      refine lv_if_lt (tgt := 76) hx hb dX5_when_30 (by decide) (fun _ => ?_) (fun hc => absurd (by rw [hx2]; decide +kernel) hc)
      refine lv_bipush (v := (-9)) hx hb dX5_when_76 (by decide +kernel) ?_
      refine x_iret hx hb hr hlocks hP hS dX5_when_78 ?_
      exact ⟨hv.symm, _, by rw [su, sr_sr]⟩
    | succ n ih =>
      intro x2 x hn hx2 hv H locs ls hP hS hl
      rw [nI_pred] at hx2
      subst hx2
      refine lv_iload_n hx hb dX5_when_29 rfl (lv_at hl 2 rfl) ?_
      refine lv_if_lt (tgt := 76) hx hb dX5_when_30 (by decide) (fun hc => absurd hc (nI_pos (by omega))) (fun _ => ?_)
      refine lv_aload_n hx hb dX5_when_33 rfl (lv_at hl 0 rfl) ?_
      refine x_get (v := .ref (ad 35)) hx hb hts hinX5 hown hK hP 0 (by decide) rfl rfl 5 (by decide) (hts _ (List.mem_of_getElem? (i := 1) rfl)) rfl dX5_when_34 ?_
      refine x_get (v := .ref (ad 37)) hx hb hts hinX1 hown hK hP 35 (by decide) rfl rfl 1 (by decide) (hts _ (List.mem_of_getElem? (i := 4) rfl)) rfl dX5_when_37 ?_
      refine lv_iload_n hx hb dX5_when_40 rfl (lv_at hl 1 rfl) ?_
      refine lv_iload_n hx hb dX5_when_41 rfl (lv_at hl 2 rfl) ?_
      refine x_iast hx hb hK hI hAd hP hS 37 0 (by decide) (fun _ => rfl) rfl j rfl (by omega) (by decide) dX5_when_42 (fun H locs hP hS => ?_)
      rw [su_su] at hP
      refine lv_aload_n hx hb dX5_when_43 rfl (lv_at hl 0 rfl) ?_
      refine x_get (v := .ref (ad 12)) hx hb hts hinX5 hown hK hP 0 (by decide) rfl rfl 2 (by decide) (hts _ (List.mem_of_getElem? (i := 2) rfl)) rfl dX5_when_44 ?_
      refine lv_aload_n hx hb dX5_when_47 rfl (lv_at hl 0 rfl) ?_
      refine x_get (v := .ref (ad 12)) hx hb hts hinX5 hown hK hP 0 (by decide) rfl rfl 2 (by decide) (hts _ (List.mem_of_getElem? (i := 2) rfl)) rfl dX5_when_48 ?_
      refine x_get (v := .ref (ad 19)) hx hb hts hinX4 hown hK hP 12 (by decide) rfl rfl 5 (by decide) (hts _ (List.mem_of_getElem? (i := 5) rfl)) rfl dX5_when_51 ?_
      refine lv_iload_n hx hb dX5_when_54 rfl (lv_at hl 1 rfl) ?_
      refine x_iald (v := nI f) hx hb hK hP 19 0 (by decide) rfl rfl j rfl (by omega) (by decide) hfa dX5_when_55 ?_
      refine lv_aload_n hx hb dX5_when_56 rfl (lv_at hl 0 rfl) ?_
      refine x_get (v := .ref (ad 35)) hx hb hts hinX5 hown hK hP 0 (by decide) rfl rfl 5 (by decide) (hts _ (List.mem_of_getElem? (i := 1) rfl)) rfl dX5_when_57 ?_
      refine x_calli (x_runV (As := [.int (nI f), .ref (ad 35)]) (rest := []) hF (c4_breakYearOf hI (su (sr S 37 (frG (1 <<< (S 12 2 &&& 31) - 1) (S 37))) 37 j (nI n)) 35 (Or.inr rfl) N hN hN5 Y hY hY6 f (by omega) ) (cwV 2 hts gX5_when_X4_breakYearOf rfl rfl rfl (by decide +kernel) ⟨Nat.le_of_ble_eq_true rfl, Nat.le_of_ble_eq_true rfl⟩) hK hP (by decide) rfl rfl rfl hl.1 rfl (Nat.le_of_ble_eq_true rfl) dX5_when_60 ⟨Nat.zero_le _, Nat.zero_le _⟩) hS hAd (fun r60 S60 H locs hw hP _ hS => ?_)
      obtain ⟨er60, eS60⟩ := hw
      rw [eS60] at hP
      refine lv_bipush (v := (-9)) hx hb dX5_when_63 (by decide +kernel) ?_
      refine lv_icmp_ne (tgt := 70) hx hb dX5_when_65 (by decide) (fun c65 => ?_) (fun c65 => ?_)
      · obtain ⟨x70, ex70⟩ : ∃ z : Int32, z = nI n + (-1) := ⟨_, rfl⟩
        refine lv_iinc (v := x70) (lv' := [(2, .int x70), (0, .ref (ad 0)), (1, .int (nI j))]) hx hb dX5_when_70 hl (k := 2) rfl (by rw [ex70]; rfl) (by decide) rfl (fun ls hl => ?_)
        refine lv_goto (tgt := 29) hx hb dX5_when_73 (by decide) ?_
        exact ih x70 (nI n) (by omega) (by rw [ex70, Int32.sub_eq_add_neg]) (hv.trans (by clear ex70; subst er60; rw [dsc, if_neg (by simp [c65])])) H locs ls hP hS (lv_sub hl [1, 2, 0] rfl)
      · refine lv_iload_n hx hb dX5_when_68 rfl (lv_at hl 2 rfl) ?_
        refine x_iret hx hb hr hlocks hP hS dX5_when_69 ?_
        subst er60
        exact ⟨by rw [hv, dsc, if_pos (by simp [c65])], _, by rw [su, sr_sr]⟩
  refine lv_aload_n hx hb dX5_when_0 rfl (lv_at hl 0 rfl) ?_
  refine lv_iload_n hx hb dX5_when_1 rfl (lv_at hl 1 rfl) ?_
  refine x_calli (x_runV (As := [.int (nI j)]) (rest := []) hF (c5_isSon hI S (nI j) ) (cwV 1 hts gX5_when_X5_isSon rfl rfl rfl (by decide +kernel) ⟨Nat.le_of_ble_eq_true rfl, Nat.le_of_ble_eq_true rfl⟩) hK hP (by decide) rfl rfl rfl hl.1 rfl (Nat.le_of_ble_eq_true rfl) dX5_when_2 ⟨Nat.zero_le _, Nat.zero_le _⟩) hS hAd (fun r2 S2 H locs hw hP _ hS => ?_)
  obtain ⟨hw, eS2⟩ := hw
  rw [eS2] at hP
  by_cases q2 : inR (nI j) (S 12 2) = true
  · have hw : r2 = 1 := hw.trans (if_pos q2)
    subst hw
    refine lv_if_ne (tgt := 10) hx hb dX5_when_5 (by decide) (fun _ => ?_) (fun hc => absurd hc (by decide))
    refine lv_aload_n hx hb dX5_when_10 rfl (lv_at hl 0 rfl) ?_
    refine x_get (v := .ref (ad 35)) hx hb hts hinX5 hown hK hP 0 (by decide) rfl rfl 5 (by decide) (hts _ (List.mem_of_getElem? (i := 1) rfl)) rfl dX5_when_11 ?_
    refine lv_aload_n hx hb dX5_when_14 rfl (lv_at hl 0 rfl) ?_
    refine x_calli (x_runV (As := []) (rest := [.ref (ad 35)]) hF (c5_everySon hI S  ) (cwV 0 hts gX5_when_X5_everySon rfl rfl rfl (by decide +kernel) ⟨Nat.le_of_ble_eq_true rfl, Nat.le_of_ble_eq_true rfl⟩) hK hP (by decide) rfl rfl rfl hl.1 rfl (Nat.le_of_ble_eq_true rfl) dX5_when_15 ⟨Nat.zero_le _, Nat.zero_le _⟩) hS hAd (fun r15 S15 H locs hw hP _ hS => ?_)
    obtain ⟨er15, eS15⟩ := hw
    rw [eS15] at hP
    refine x_callv (x_runV (As := [.int r15]) (rest := []) hF (c1_fromTheStart hI S 35 (Or.inr rfl) r15 ) (cwV 1 hts gX5_when_X1_fromTheStart rfl rfl rfl (by decide +kernel) ⟨Nat.le_of_ble_eq_true rfl, Nat.le_of_ble_eq_true rfl⟩) hK hP (by decide) rfl rfl rfl hl.1 rfl (Nat.le_of_ble_eq_true rfl) dX5_when_18 ⟨Nat.zero_le _, Nat.zero_le _⟩) hS hAd (fun S18 H locs hw hP _ hS => ?_)
    rw [hw] at hP
    refine lv_aload_n hx hb dX5_when_21 rfl (lv_at hl 0 rfl) ?_
    refine x_get (v := .ref (ad 12)) hx hb hts hinX5 hown hK hP 0 (by decide) rfl rfl 2 (by decide) (hts _ (List.mem_of_getElem? (i := 2) rfl)) rfl dX5_when_22 ?_
    refine x_get (v := .int (nI Y)) hx hb hts hinX4 hown hK hP 12 (by decide) rfl rfl 1 (by decide) (hts _ (List.mem_of_getElem? (i := 3) rfl)) (congrArg (fun z => some (Value.int z)) hY) dX5_when_25 ?_
    refine lv_istore_n (lv' := [(2, .int (nI Y)), (0, .ref (ad 0)), (1, .int (nI j))]) hx hb dX5_when_28 rfl hl (by decide) rfl (fun ls hl => ?_)
    subst er15
    have hP : va_P (dC, dI) vwCl (xW (cLy cI cZ cS cG ad) 42 ad (su (sr S 37 (frG (1 <<< (S 12 2 &&& 31) - 1) (S 37))) 37 j ((sr S 37 (frG (1 <<< (S 12 2 &&& 31) - 1) (S 37))) 37 j))) H := by rw [su_same]; exact hP
    exact L29 (Y + 1) (nI Y) ((sr S 37 (frG (1 <<< (S 12 2 &&& 31) - 1) (S 37))) 37 j) (Nat.le_refl _) (nI_pred Y).symm rfl _ _ ls hP hS (lv_sub hl [1, 2, 0] rfl)
  · have hw : r2 = 0 := hw.trans (if_neg q2)
    subst hw
    exact absurd (by rw [hN]; exact inR_nI hj (by omega)) q2

set_option maxHeartbeats 4000000 in
set_option maxRecDepth 100000 in
theorem c5_when_f (hI : xI 42 ad) (S : xSt) (sn : Int32) (hno : ¬ inR sn (S 12 2) = true) : xMi l yX5_when wsX5_when ({ frames := 4, cells := 0, slots := 0, locals := 99 }) (dC, dI) vwCl (tyl cI cZ cS cG) (cLy cI cZ cS cG ad) 42 ad [.ref (ad 0), .int sn] S (fun r S' => r = -1 ∧ S' = S) := by
  refine xM_of (cc := cX5_when) (nL := 3) (ret := (some .int)) (by decide) rfl (Nat.le_of_ble_eq_true rfl) ?_
  intro p e s m below meth c ls B hl hK hP
  obtain ⟨hx, hb, hml, hown, hts, hr, hlocks⟩ := B
  have hl : lv_has ls 3 [(0, .ref (ad 0)), (1, .int sn)] := hl
  have hS : va_S (xA 42 ad) s.heap s.heap [] := va_S.rf
  have hAd : ∀ k, k < 42 → xA 42 ad (ad k) := xA_in
  have hF : CallFix p m c cX5_when 3 s _ wsX5_when RX5 := ⟨hx, hb, hml, hown, hts⟩
  refine lv_aload_n hx hb dX5_when_0 rfl (lv_at hl 0 rfl) ?_
  refine lv_iload_n hx hb dX5_when_1 rfl (lv_at hl 1 rfl) ?_
  refine x_calli (x_runV (As := [.int sn]) (rest := []) hF (c5_isSon hI S sn ) (cwV 1 hts gX5_when_X5_isSon rfl rfl rfl (by decide +kernel) ⟨Nat.le_of_ble_eq_true rfl, Nat.le_of_ble_eq_true rfl⟩) hK hP (by decide) rfl rfl rfl hl.1 rfl (Nat.le_of_ble_eq_true rfl) dX5_when_2 ⟨Nat.zero_le _, Nat.zero_le _⟩) hS hAd (fun r2 S2 H locs hw hP _ hS => ?_)
  obtain ⟨hw, eS2⟩ := hw
  rw [eS2] at hP
  by_cases q2 : inR sn (S 12 2) = true
  · have hw : r2 = 1 := hw.trans (if_pos q2)
    subst hw
    exact absurd q2 hno
  · have hw : r2 = 0 := hw.trans (if_neg q2)
    subst hw
    refine lv_if_ne (tgt := 10) hx hb dX5_when_5 (by decide) (fun hc => absurd (by decide) hc) (fun _ => ?_)
    refine lv_iconst (v := (-1)) hx hb dX5_when_8 (by decide +kernel) ?_
    refine x_iret hx hb hr hlocks hP hS dX5_when_9 ?_
    exact ⟨rfl, rfl⟩

set_option maxHeartbeats 4000000 in
set_option maxRecDepth 100000 in
theorem c5_least_t (hI : xI 42 ad) (S : xSt) (N : Nat) (hN : S 12 2 = nI N) (hN5 : N ≤ 5) (hN0 : 0 < N) (C : Nat) (hC : S 12 0 = nI C) (hC4 : C ≤ 4) (Y : Nat) (hY : S 12 1 = nI Y) (hY6 : Y ≤ 6) : xMi l yX5_least wsX5_least ({ frames := 5, cells := 0, slots := 0, locals := 123 }) (dC, dI) vwCl (tyl cI cZ cS cG) (cLy cI cZ cS cG ad) 42 ad [.ref (ad 0)] S (fun r S' => r = lstL bcI (fun i => decide (cBrk (sr S 37 (frG (nI i) (S 37))) N C Y 35 0 = -9)) (2 ^ N) 0 (-9) ∧ ∃ g, S' = sr S 37 g) := by
  refine xM_of (cc := cX5_least) (nL := 4) (ret := (some .int)) (by decide) rfl (Nat.le_of_ble_eq_true rfl) ?_
  intro p e s m below meth c ls B hl hK hP
  obtain ⟨hx, hb, hml, hown, hts, hr, hlocks⟩ := B
  have hl : lv_has ls 4 [(0, .ref (ad 0))] := hl
  have hS : va_S (xA 42 ad) s.heap s.heap [] := va_S.rf
  have hAd : ∀ k, k < 42 → xA 42 ad (ad k) := xA_in
  have hinX4 : ∀ w ∈ wsX40, w ∈ wsX5_least := fun _ h => List.mem_cons_of_mem _ (List.mem_append_left _ (List.mem_append_right _ h))
  have hinX5 : ∀ w ∈ wsX50, w ∈ wsX5_least := fun _ h => List.mem_cons_of_mem _ (List.mem_append_left _ (List.mem_append_left _ (List.mem_append_right _ h)))
  have hF : CallFix p m c cX5_least 4 s _ wsX5_least RX5 := ⟨hx, hb, hml, hown, hts⟩
  have h32 : 2 ^ N ≤ 2 ^ 5 := Nat.pow_le_pow_right (by decide) hN5
  have L15 : ∀ (n : Nat) (i : Nat) (a : Int32) (g : Nat → Int32) (hi : i + n = 2 ^ N) (hg : ∀ s, 5 ≤ s → g s = S 37 s) (hv : lstL bcI (fun i => decide (cBrk (sr S 37 (frG (nI i) (S 37))) N C Y 35 0 = -9)) (2 ^ N) 0 (-9) = lstL bcI (fun i => decide (cBrk (sr S 37 (frG (nI i) (S 37))) N C Y 35 0 = -9)) n i a) (H : Heap) (locs : List Loc) (ls : Array Slot), va_P (dC, dI) vwCl (xW (cLy cI cZ cS cG ad) 42 ad (sr S 37 g)) H → va_S (xA 42 ad) s.heap H locs → lv_has ls 4 [(0, .ref (ad 0)), (1, .int a), (2, .int (nI i))] → W p l e ({ frames := 5, cells := 0, slots := 0, locals := 123 }) s m ([.ref (ad 0)] : List Value).toArray below meth c H locs 0 0 (MQ below (xQi (dC, dI) vwCl (cLy cI cZ cS cG ad) 42 ad (fun r S' => r = lstL bcI (fun i => decide (cBrk (sr S 37 (frG (nI i) (S 37))) N C Y 35 0 = -9)) (2 ^ N) 0 (-9) ∧ ∃ g, S' = sr S 37 g)) ([.ref (ad 0)] : List Value).toArray s 0 0 (xA 42 ad)) (F0 m 15 ls []) := by
    intro n
    induction n with
    | zero =>
      intro i a g hi hg hv H locs ls hP hS hl
      refine lv_iload_n hx hb dX5_least_15 rfl (lv_at hl 2 rfl) ?_
      refine lv_iconst (v := 1) hx hb dX5_least_16 (by decide +kernel) ?_
      refine lv_aload_n hx hb dX5_least_17 rfl (lv_at hl 0 rfl) ?_
      refine x_get (v := .ref (ad 12)) hx hb hts hinX5 hown hK hP 0 (by decide) rfl rfl 2 (by decide) (hts _ (List.mem_of_getElem? (i := 1) rfl)) rfl dX5_least_18 ?_
      refine x_get (v := .int (nI N)) hx hb hts hinX4 hown hK hP 12 (by decide) rfl rfl 2 (by decide) (hts _ (List.mem_of_getElem? (i := 2) rfl)) (congrArg (fun z => some (Value.int z)) hN) dX5_least_21 ?_
      refine lv_ishl hx hb dX5_least_24 ?_
      rw [shl1 N (by omega)]
      refine lv_icmp_ge (tgt := 92) hx hb dX5_least_25 (by decide) (fun _ => ?_) (fun hc => absurd (nI_le (by omega) (by omega)) hc)
      refine lv_iload_n hx hb dX5_least_92 rfl (lv_at hl 1 rfl) ?_
      refine x_iret hx hb hr hlocks hP hS dX5_least_93 ?_
      exact ⟨hv.symm, _, rfl⟩
    | succ n ih =>
      intro i a g hi hg hv H locs ls hP hS hl
      refine lv_iload_n hx hb dX5_least_15 rfl (lv_at hl 2 rfl) ?_
      refine lv_iconst (v := 1) hx hb dX5_least_16 (by decide +kernel) ?_
      refine lv_aload_n hx hb dX5_least_17 rfl (lv_at hl 0 rfl) ?_
      refine x_get (v := .ref (ad 12)) hx hb hts hinX5 hown hK hP 0 (by decide) rfl rfl 2 (by decide) (hts _ (List.mem_of_getElem? (i := 1) rfl)) rfl dX5_least_18 ?_
      refine x_get (v := .int (nI N)) hx hb hts hinX4 hown hK hP 12 (by decide) rfl rfl 2 (by decide) (hts _ (List.mem_of_getElem? (i := 2) rfl)) (congrArg (fun z => some (Value.int z)) hN) dX5_least_21 ?_
      refine lv_ishl hx hb dX5_least_24 ?_
      rw [shl1 N (by omega)]
      refine lv_icmp_ge (tgt := 92) hx hb dX5_least_25 (by decide) (fun hc => absurd hc (nI_ge (by omega) (by omega))) (fun _ => ?_)
      refine lv_iload_n hx hb dX5_least_28 rfl (lv_at hl 1 rfl) ?_
      refine lv_bipush (v := (-9)) hx hb dX5_least_29 (by decide +kernel) ?_
      refine lv_icmp_eq (tgt := 45) hx hb dX5_least_31 (by decide) (fun c31 => ?_) (fun c31 => ?_)
      · refine lv_iconst (v := 1) hx hb dX5_least_45 (by decide +kernel) ?_
        refine lv_goto (tgt := 50) hx hb dX5_least_46 (by decide) ?_
        refine lv_istore_n (lv' := [(3, .int 1), (0, .ref (ad 0)), (1, .int a), (2, .int (nI i))]) hx hb dX5_least_50 rfl hl (by decide) rfl (fun ls hl => ?_)
        refine lv_iload_n hx hb dX5_least_51 rfl (lv_at hl 0 rfl) ?_
        refine lv_if_eq (tgt := 86) hx hb dX5_least_52 (by decide) (fun hc => absurd hc (by decide)) (fun _ => ?_)
        refine lv_aload_n hx hb dX5_least_55 rfl (lv_at hl 1 rfl) ?_
        refine x_get (v := .ref (ad 35)) hx hb hts hinX5 hown hK hP 0 (by decide) rfl rfl 5 (by decide) (hts _ (List.mem_of_getElem? (i := 3) rfl)) rfl dX5_least_56 ?_
        refine lv_iload_n hx hb dX5_least_59 rfl (lv_at hl 3 rfl) ?_
        refine x_callv (x_runV (As := [.int (nI i)]) (rest := []) hF (c1_fromTheStart hI (sr S 37 g) 35 (Or.inr rfl) (nI i) ) (cwV 1 hts gX5_least_X1_fromTheStart rfl rfl rfl (by decide +kernel) ⟨Nat.le_of_ble_eq_true rfl, Nat.le_of_ble_eq_true rfl⟩) hK hP (by decide) rfl rfl rfl hl.1 rfl (Nat.le_of_ble_eq_true rfl) dX5_least_60 ⟨Nat.zero_le _, Nat.zero_le _⟩) hS hAd (fun S60 H locs hw hP _ hS => ?_)
        rw [hw] at hP
        rw [sr_sr, sr_self, frG_eq hg] at hP
        refine lv_aload_n hx hb dX5_least_63 rfl (lv_at hl 1 rfl) ?_
        refine x_get (v := .ref (ad 12)) hx hb hts hinX5 hown hK hP 0 (by decide) rfl rfl 2 (by decide) (hts _ (List.mem_of_getElem? (i := 1) rfl)) rfl dX5_least_64 ?_
        refine lv_aload_n hx hb dX5_least_67 rfl (lv_at hl 1 rfl) ?_
        refine x_get (v := .ref (ad 35)) hx hb hts hinX5 hown hK hP 0 (by decide) rfl rfl 5 (by decide) (hts _ (List.mem_of_getElem? (i := 3) rfl)) rfl dX5_least_68 ?_
        refine lv_iconst (v := 0) hx hb dX5_least_71 (by decide +kernel) ?_
        refine x_calli (x_runV (As := [.ref (ad 35), .int 0]) (rest := []) hF (c4_breakYear hI (sr S 37 (frG (nI i) (S 37))) 35 (Or.inr rfl) N hN hN5 C hC hC4 Y hY hY6 0 ) (cwV 2 hts gX5_least_X4_breakYear rfl rfl rfl (by decide +kernel) ⟨Nat.le_of_ble_eq_true rfl, Nat.le_of_ble_eq_true rfl⟩) hK hP (by decide) rfl rfl rfl hl.1 rfl (Nat.le_of_ble_eq_true rfl) dX5_least_72 ⟨Nat.zero_le _, Nat.zero_le _⟩) hS hAd (fun r72 S72 H locs hw hP _ hS => ?_)
        obtain ⟨er72, eS72⟩ := hw
        rw [eS72] at hP
        refine lv_bipush (v := (-9)) hx hb dX5_least_75 (by decide +kernel) ?_
        refine lv_icmp_ne (tgt := 84) hx hb dX5_least_77 (by decide) (fun c77 => ?_) (fun c77 => ?_)
        · refine lv_iload_n hx hb dX5_least_84 rfl (lv_at hl 2 rfl) ?_
          refine lv_istore_n (lv' := [(1, .int a), (3, .int 1), (0, .ref (ad 0)), (2, .int (nI i))]) hx hb dX5_least_85 rfl hl (by decide) rfl (fun ls hl => ?_)
          refine lv_iinc (v := nI (i + 1)) (lv' := [(2, .int (nI (i + 1))), (1, .int a), (3, .int 1), (0, .ref (ad 0))]) hx hb dX5_least_86 hl (k := 3) rfl (nI_1 _) (by decide) rfl (fun ls hl => ?_)
          refine lv_goto (tgt := 15) hx hb dX5_least_89 (by decide) ?_
          exact ih (i + 1) a (frG (nI i) (S 37)) (by omega) (fun s hs => frG_out hs) (hv.trans (congrArg (lstL bcI (fun i => decide (cBrk (sr S 37 (frG (nI i) (S 37))) N C Y 35 0 = -9)) n (i + 1)) (show (if a = -9 ∨ bcI (nI i) < bcI a then (if (fun i => decide (cBrk (sr S 37 (frG (nI i) (S 37))) N C Y 35 0 = -9)) i = true then nI i else a) else a) = a from by subst er72; first | (simp [c31, c77]; done) | grind))) H locs ls hP hS (lv_sub hl [3, 1, 0] rfl)
        · refine lv_iload_n hx hb dX5_least_80 rfl (lv_at hl 3 rfl) ?_
          refine lv_goto (tgt := 85) hx hb dX5_least_81 (by decide) ?_
          refine lv_istore_n (lv' := [(1, .int (nI i)), (3, .int 1), (0, .ref (ad 0)), (2, .int (nI i))]) hx hb dX5_least_85 rfl hl (by decide) rfl (fun ls hl => ?_)
          refine lv_iinc (v := nI (i + 1)) (lv' := [(2, .int (nI (i + 1))), (1, .int (nI i)), (3, .int 1), (0, .ref (ad 0))]) hx hb dX5_least_86 hl (k := 3) rfl (nI_1 _) (by decide) rfl (fun ls hl => ?_)
          refine lv_goto (tgt := 15) hx hb dX5_least_89 (by decide) ?_
          exact ih (i + 1) (nI i) (frG (nI i) (S 37)) (by omega) (fun s hs => frG_out hs) (hv.trans (congrArg (lstL bcI (fun i => decide (cBrk (sr S 37 (frG (nI i) (S 37))) N C Y 35 0 = -9)) n (i + 1)) (show (if a = -9 ∨ bcI (nI i) < bcI a then (if (fun i => decide (cBrk (sr S 37 (frG (nI i) (S 37))) N C Y 35 0 = -9)) i = true then nI i else a) else a) = nI i from by subst er72; first | (simp [c31, c77]; done) | grind))) H locs ls hP hS (lv_sub hl [3, 1, 0] rfl)
      · refine lv_iload_n hx hb dX5_least_34 rfl (lv_at hl 2 rfl) ?_
        refine x_calli (x_runS (As := [.int (nI i)]) (rest := []) hF (cJ_bitCount hI (sr S 37 g) (nI i) ) (va_cwS 1 hts gX5_least_J6_bitCount_0f7a4 rfl rfl rfl (by decide +kernel) ⟨Nat.le_of_ble_eq_true rfl, Nat.le_of_ble_eq_true rfl⟩) hK hP rfl hl.1 rfl (Nat.le_of_ble_eq_true rfl) dX5_least_35 ⟨Nat.zero_le _, Nat.zero_le _⟩) hS hAd (fun r35 S35 H locs hw hP _ hS => ?_)
        obtain ⟨er35, eS35⟩ := hw
        rw [eS35] at hP
        refine lv_iload_n hx hb dX5_least_38 rfl (lv_at hl 1 rfl) ?_
        refine x_calli (x_runS (As := [.int a]) (rest := [.int r35]) hF (cJ_bitCount hI (sr S 37 g) a ) (va_cwS 1 hts gX5_least_J6_bitCount_0f7a4 rfl rfl rfl (by decide +kernel) ⟨Nat.le_of_ble_eq_true rfl, Nat.le_of_ble_eq_true rfl⟩) hK hP rfl hl.1 rfl (Nat.le_of_ble_eq_true rfl) dX5_least_39 ⟨Nat.zero_le _, Nat.zero_le _⟩) hS hAd (fun r39 S39 H locs hw hP _ hS => ?_)
        obtain ⟨er39, eS39⟩ := hw
        rw [eS39] at hP
        refine lv_icmp_ge (tgt := 49) hx hb dX5_least_42 (by decide) (fun c42 => ?_) (fun c42 => ?_)
        · have d42 := Int32.not_lt.mpr c42
          refine lv_iconst (v := 0) hx hb dX5_least_49 (by decide +kernel) ?_
          refine lv_istore_n (lv' := [(3, .int 0), (0, .ref (ad 0)), (1, .int a), (2, .int (nI i))]) hx hb dX5_least_50 rfl hl (by decide) rfl (fun ls hl => ?_)
          refine lv_iload_n hx hb dX5_least_51 rfl (lv_at hl 0 rfl) ?_
          refine lv_if_eq (tgt := 86) hx hb dX5_least_52 (by decide) (fun _ => ?_) (fun hc => absurd (by decide) hc)
          refine lv_iinc (v := nI (i + 1)) (lv' := [(2, .int (nI (i + 1))), (3, .int 0), (0, .ref (ad 0)), (1, .int a)]) hx hb dX5_least_86 hl (k := 3) rfl (nI_1 _) (by decide) rfl (fun ls hl => ?_)
          refine lv_goto (tgt := 15) hx hb dX5_least_89 (by decide) ?_
          exact ih (i + 1) a g (by omega) hg (hv.trans (congrArg (lstL bcI (fun i => decide (cBrk (sr S 37 (frG (nI i) (S 37))) N C Y 35 0 = -9)) n (i + 1)) (show (if a = -9 ∨ bcI (nI i) < bcI a then (if (fun i => decide (cBrk (sr S 37 (frG (nI i) (S 37))) N C Y 35 0 = -9)) i = true then nI i else a) else a) = a from by subst er35; subst er39; first | (simp [c31, c42, d42]; done) | grind))) H locs ls hP hS (lv_sub hl [2, 3, 0] rfl)
        · have d42 := Int32.not_le.mp c42
          refine lv_iconst (v := 1) hx hb dX5_least_45 (by decide +kernel) ?_
          refine lv_goto (tgt := 50) hx hb dX5_least_46 (by decide) ?_
          refine lv_istore_n (lv' := [(3, .int 1), (0, .ref (ad 0)), (1, .int a), (2, .int (nI i))]) hx hb dX5_least_50 rfl hl (by decide) rfl (fun ls hl => ?_)
          refine lv_iload_n hx hb dX5_least_51 rfl (lv_at hl 0 rfl) ?_
          refine lv_if_eq (tgt := 86) hx hb dX5_least_52 (by decide) (fun hc => absurd hc (by decide)) (fun _ => ?_)
          refine lv_aload_n hx hb dX5_least_55 rfl (lv_at hl 1 rfl) ?_
          refine x_get (v := .ref (ad 35)) hx hb hts hinX5 hown hK hP 0 (by decide) rfl rfl 5 (by decide) (hts _ (List.mem_of_getElem? (i := 3) rfl)) rfl dX5_least_56 ?_
          refine lv_iload_n hx hb dX5_least_59 rfl (lv_at hl 3 rfl) ?_
          refine x_callv (x_runV (As := [.int (nI i)]) (rest := []) hF (c1_fromTheStart hI (sr S 37 g) 35 (Or.inr rfl) (nI i) ) (cwV 1 hts gX5_least_X1_fromTheStart rfl rfl rfl (by decide +kernel) ⟨Nat.le_of_ble_eq_true rfl, Nat.le_of_ble_eq_true rfl⟩) hK hP (by decide) rfl rfl rfl hl.1 rfl (Nat.le_of_ble_eq_true rfl) dX5_least_60 ⟨Nat.zero_le _, Nat.zero_le _⟩) hS hAd (fun S60 H locs hw hP _ hS => ?_)
          rw [hw] at hP
          rw [sr_sr, sr_self, frG_eq hg] at hP
          refine lv_aload_n hx hb dX5_least_63 rfl (lv_at hl 1 rfl) ?_
          refine x_get (v := .ref (ad 12)) hx hb hts hinX5 hown hK hP 0 (by decide) rfl rfl 2 (by decide) (hts _ (List.mem_of_getElem? (i := 1) rfl)) rfl dX5_least_64 ?_
          refine lv_aload_n hx hb dX5_least_67 rfl (lv_at hl 1 rfl) ?_
          refine x_get (v := .ref (ad 35)) hx hb hts hinX5 hown hK hP 0 (by decide) rfl rfl 5 (by decide) (hts _ (List.mem_of_getElem? (i := 3) rfl)) rfl dX5_least_68 ?_
          refine lv_iconst (v := 0) hx hb dX5_least_71 (by decide +kernel) ?_
          refine x_calli (x_runV (As := [.ref (ad 35), .int 0]) (rest := []) hF (c4_breakYear hI (sr S 37 (frG (nI i) (S 37))) 35 (Or.inr rfl) N hN hN5 C hC hC4 Y hY hY6 0 ) (cwV 2 hts gX5_least_X4_breakYear rfl rfl rfl (by decide +kernel) ⟨Nat.le_of_ble_eq_true rfl, Nat.le_of_ble_eq_true rfl⟩) hK hP (by decide) rfl rfl rfl hl.1 rfl (Nat.le_of_ble_eq_true rfl) dX5_least_72 ⟨Nat.zero_le _, Nat.zero_le _⟩) hS hAd (fun r72 S72 H locs hw hP _ hS => ?_)
          obtain ⟨er72, eS72⟩ := hw
          rw [eS72] at hP
          refine lv_bipush (v := (-9)) hx hb dX5_least_75 (by decide +kernel) ?_
          refine lv_icmp_ne (tgt := 84) hx hb dX5_least_77 (by decide) (fun c77 => ?_) (fun c77 => ?_)
          · refine lv_iload_n hx hb dX5_least_84 rfl (lv_at hl 2 rfl) ?_
            refine lv_istore_n (lv' := [(1, .int a), (3, .int 1), (0, .ref (ad 0)), (2, .int (nI i))]) hx hb dX5_least_85 rfl hl (by decide) rfl (fun ls hl => ?_)
            refine lv_iinc (v := nI (i + 1)) (lv' := [(2, .int (nI (i + 1))), (1, .int a), (3, .int 1), (0, .ref (ad 0))]) hx hb dX5_least_86 hl (k := 3) rfl (nI_1 _) (by decide) rfl (fun ls hl => ?_)
            refine lv_goto (tgt := 15) hx hb dX5_least_89 (by decide) ?_
            exact ih (i + 1) a (frG (nI i) (S 37)) (by omega) (fun s hs => frG_out hs) (hv.trans (congrArg (lstL bcI (fun i => decide (cBrk (sr S 37 (frG (nI i) (S 37))) N C Y 35 0 = -9)) n (i + 1)) (show (if a = -9 ∨ bcI (nI i) < bcI a then (if (fun i => decide (cBrk (sr S 37 (frG (nI i) (S 37))) N C Y 35 0 = -9)) i = true then nI i else a) else a) = a from by subst er35; subst er39; subst er72; first | (simp [c31, c42, d42, c77]; done) | grind))) H locs ls hP hS (lv_sub hl [3, 1, 0] rfl)
          · refine lv_iload_n hx hb dX5_least_80 rfl (lv_at hl 3 rfl) ?_
            refine lv_goto (tgt := 85) hx hb dX5_least_81 (by decide) ?_
            refine lv_istore_n (lv' := [(1, .int (nI i)), (3, .int 1), (0, .ref (ad 0)), (2, .int (nI i))]) hx hb dX5_least_85 rfl hl (by decide) rfl (fun ls hl => ?_)
            refine lv_iinc (v := nI (i + 1)) (lv' := [(2, .int (nI (i + 1))), (1, .int (nI i)), (3, .int 1), (0, .ref (ad 0))]) hx hb dX5_least_86 hl (k := 3) rfl (nI_1 _) (by decide) rfl (fun ls hl => ?_)
            refine lv_goto (tgt := 15) hx hb dX5_least_89 (by decide) ?_
            exact ih (i + 1) (nI i) (frG (nI i) (S 37)) (by omega) (fun s hs => frG_out hs) (hv.trans (congrArg (lstL bcI (fun i => decide (cBrk (sr S 37 (frG (nI i) (S 37))) N C Y 35 0 = -9)) n (i + 1)) (show (if a = -9 ∨ bcI (nI i) < bcI a then (if (fun i => decide (cBrk (sr S 37 (frG (nI i) (S 37))) N C Y 35 0 = -9)) i = true then nI i else a) else a) = nI i from by subst er35; subst er39; subst er72; first | (simp [c31, c42, d42, c77]; done) | grind))) H locs ls hP hS (lv_sub hl [3, 1, 0] rfl)
  refine lv_aload_n hx hb dX5_least_0 rfl (lv_at hl 0 rfl) ?_
  refine x_calli (x_runV (As := []) (rest := []) hF (c5_hasTreaty hI S  ) (cwV 0 hts gX5_least_X5_hasTreaty rfl rfl rfl (by decide +kernel) ⟨Nat.le_of_ble_eq_true rfl, Nat.le_of_ble_eq_true rfl⟩) hK hP (by decide) rfl rfl rfl hl.1 rfl (Nat.le_of_ble_eq_true rfl) dX5_least_1 ⟨Nat.zero_le _, Nat.zero_le _⟩) hS hAd (fun r1 S1 H locs hw hP _ hS => ?_)
  obtain ⟨hw, eS1⟩ := hw
  rw [eS1] at hP
  by_cases q1 : ¬ S 12 2 ≤ 0
  · have hw : r1 = 1 := hw.trans (if_pos q1)
    subst hw
    refine lv_if_ne (tgt := 10) hx hb dX5_least_4 (by decide) (fun _ => ?_) (fun hc => absurd hc (by decide))
    refine lv_bipush (v := (-9)) hx hb dX5_least_10 (by decide +kernel) ?_
    refine lv_istore_n (lv' := [(1, .int (-9)), (0, .ref (ad 0))]) hx hb dX5_least_12 rfl hl (by decide) rfl (fun ls hl => ?_)
    refine lv_iconst (v := 0) hx hb dX5_least_13 (by decide +kernel) ?_
    refine lv_istore_n (lv' := [(2, .int 0), (1, .int (-9)), (0, .ref (ad 0))]) hx hb dX5_least_14 rfl hl (by decide) rfl (fun ls hl => ?_)
    have hP : va_P (dC, dI) vwCl (xW (cLy cI cZ cS cG ad) 42 ad (sr S 37 (S 37))) H := by rw [sr_same]; exact hP
    exact L15 (2 ^ N) 0 (-9) (S 37) (Nat.zero_add _) (fun _ _ => rfl) rfl _ _ ls hP hS (lv_sub hl [2, 1, 0] rfl)
  · have hw : r1 = 0 := hw.trans (if_neg q1)
    subst hw
    exact absurd (by rw [hN]; exact nI_nle hN0 (by omega)) q1

set_option maxHeartbeats 4000000 in
set_option maxRecDepth 100000 in
theorem c5_least_f (hI : xI 42 ad) (S : xSt) (hno : S 12 2 ≤ 0) : xMi l yX5_least wsX5_least ({ frames := 5, cells := 0, slots := 0, locals := 123 }) (dC, dI) vwCl (tyl cI cZ cS cG) (cLy cI cZ cS cG ad) 42 ad [.ref (ad 0)] S (fun r S' => r = -3 ∧ S' = S) := by
  refine xM_of (cc := cX5_least) (nL := 4) (ret := (some .int)) (by decide) rfl (Nat.le_of_ble_eq_true rfl) ?_
  intro p e s m below meth c ls B hl hK hP
  obtain ⟨hx, hb, hml, hown, hts, hr, hlocks⟩ := B
  have hl : lv_has ls 4 [(0, .ref (ad 0))] := hl
  have hS : va_S (xA 42 ad) s.heap s.heap [] := va_S.rf
  have hAd : ∀ k, k < 42 → xA 42 ad (ad k) := xA_in
  have hF : CallFix p m c cX5_least 4 s _ wsX5_least RX5 := ⟨hx, hb, hml, hown, hts⟩
  refine lv_aload_n hx hb dX5_least_0 rfl (lv_at hl 0 rfl) ?_
  refine x_calli (x_runV (As := []) (rest := []) hF (c5_hasTreaty hI S  ) (cwV 0 hts gX5_least_X5_hasTreaty rfl rfl rfl (by decide +kernel) ⟨Nat.le_of_ble_eq_true rfl, Nat.le_of_ble_eq_true rfl⟩) hK hP (by decide) rfl rfl rfl hl.1 rfl (Nat.le_of_ble_eq_true rfl) dX5_least_1 ⟨Nat.zero_le _, Nat.zero_le _⟩) hS hAd (fun r1 S1 H locs hw hP _ hS => ?_)
  obtain ⟨hw, eS1⟩ := hw
  rw [eS1] at hP
  by_cases q1 : ¬ S 12 2 ≤ 0
  · have hw : r1 = 1 := hw.trans (if_pos q1)
    subst hw
    exact absurd hno q1
  · have hw : r1 = 0 := hw.trans (if_neg q1)
    subst hw
    refine lv_if_ne (tgt := 10) hx hb dX5_least_4 (by decide) (fun hc => absurd (by decide) hc) (fun _ => ?_)
    refine lv_bipush (v := (-3)) hx hb dX5_least_7 (by decide +kernel) ?_
    refine x_iret hx hb hr hlocks hP hS dX5_least_9 ?_
    exact ⟨rfl, rfl⟩

set_option maxHeartbeats 4000000 in
set_option maxRecDepth 100000 in
theorem c5_breaksBy (hI : xI 42 ad) (S : xSt) (N : Nat) (hN : S 12 2 = nI N) (hN5 : N ≤ 5) (C : Nat) (hC : S 12 0 = nI C) (hC4 : C ≤ 4) (Y : Nat) (hY : S 12 1 = nI Y) (hY6 : Y ≤ 6) (yn pg : Int32) : xMi l yX5_breaksBy wsX5_breaksBy ({ frames := 5, cells := 0, slots := 0, locals := 123 }) (dC, dI) vwCl (tyl cI cZ cS cG) (cLy cI cZ cS cG ad) 42 ad [.ref (ad 0), .int yn, .int pg] S (fun r S' => r = (if ¬ cBrk S N C Y 32 pg = -9 ∧ ¬ yn < cBrk S N C Y 32 pg then 1 else 0) ∧ S' = S) := by
  refine xM_of (cc := cX5_breaksBy) (nL := 4) (ret := (some .boolean)) (by decide) rfl (Nat.le_of_ble_eq_true rfl) ?_
  intro p e s m below meth c ls B hl hK hP
  obtain ⟨hx, hb, hml, hown, hts, hr, hlocks⟩ := B
  have hl : lv_has ls 4 [(0, .ref (ad 0)), (1, .int yn), (2, .int pg)] := hl
  have hS : va_S (xA 42 ad) s.heap s.heap [] := va_S.rf
  have hAd : ∀ k, k < 42 → xA 42 ad (ad k) := xA_in
  have hinX5 : ∀ w ∈ wsX50, w ∈ wsX5_breaksBy := fun _ h => List.mem_cons_of_mem _ (List.mem_append_left _ (List.mem_append_left _ (List.mem_append_right _ h)))
  have hF : CallFix p m c cX5_breaksBy 4 s _ wsX5_breaksBy RX5 := ⟨hx, hb, hml, hown, hts⟩
  refine lv_aload_n hx hb dX5_breaksBy_0 rfl (lv_at hl 0 rfl) ?_
  refine x_get (v := .ref (ad 12)) hx hb hts hinX5 hown hK hP 0 (by decide) rfl rfl 2 (by decide) (hts _ (List.mem_of_getElem? (i := 1) rfl)) rfl dX5_breaksBy_1 ?_
  refine lv_aload_n hx hb dX5_breaksBy_4 rfl (lv_at hl 0 rfl) ?_
  refine x_get (v := .ref (ad 32)) hx hb hts hinX5 hown hK hP 0 (by decide) rfl rfl 4 (by decide) (hts _ (List.mem_of_getElem? (i := 2) rfl)) rfl dX5_breaksBy_5 ?_
  refine lv_iload_n hx hb dX5_breaksBy_8 rfl (lv_at hl 2 rfl) ?_
  refine x_calli (x_runV (As := [.ref (ad 32), .int pg]) (rest := []) hF (c4_breakYear hI S 32 (Or.inl rfl) N hN hN5 C hC hC4 Y hY hY6 pg ) (cwV 2 hts gX5_breaksBy_X4_breakYear rfl rfl rfl (by decide +kernel) ⟨Nat.le_of_ble_eq_true rfl, Nat.le_of_ble_eq_true rfl⟩) hK hP (by decide) rfl rfl rfl hl.1 rfl (Nat.le_of_ble_eq_true rfl) dX5_breaksBy_9 ⟨Nat.zero_le _, Nat.zero_le _⟩) hS hAd (fun r9 S9 H locs hw hP _ hS => ?_)
  obtain ⟨er9, eS9⟩ := hw
  rw [eS9] at hP
  refine lv_istore_n (lv' := [(3, .int r9), (0, .ref (ad 0)), (1, .int yn), (2, .int pg)]) hx hb dX5_breaksBy_12 rfl hl (by decide) rfl (fun ls hl => ?_)
  refine lv_iload_n hx hb dX5_breaksBy_13 rfl (lv_at hl 0 rfl) ?_
  refine lv_bipush (v := (-9)) hx hb dX5_breaksBy_14 (by decide +kernel) ?_
  refine lv_icmp_eq (tgt := 28) hx hb dX5_breaksBy_16 (by decide) (fun c16 => ?_) (fun c16 => ?_)
  · refine lv_iconst (v := 0) hx hb dX5_breaksBy_28 (by decide +kernel) ?_
    refine x_zret hx hb hr hlocks hP hS dX5_breaksBy_29 (Or.inl rfl) ?_
    subst er9
    exact ⟨by first | (simp [c16]; done) | grind, rfl⟩
  · refine lv_iload_n hx hb dX5_breaksBy_19 rfl (lv_at hl 0 rfl) ?_
    refine lv_iload_n hx hb dX5_breaksBy_20 rfl (lv_at hl 2 rfl) ?_
    refine lv_icmp_gt (tgt := 28) hx hb dX5_breaksBy_21 (by decide) (fun c21 => ?_) (fun c21 => ?_)
    · have d21 := Int32.not_le.mpr c21
      refine lv_iconst (v := 0) hx hb dX5_breaksBy_28 (by decide +kernel) ?_
      refine x_zret hx hb hr hlocks hP hS dX5_breaksBy_29 (Or.inl rfl) ?_
      subst er9
      exact ⟨by first | (simp [c16, c21, d21]; done) | grind, rfl⟩
    · have d21 := Int32.not_lt.mp c21
      refine lv_iconst (v := 1) hx hb dX5_breaksBy_24 (by decide +kernel) ?_
      refine lv_goto (tgt := 29) hx hb dX5_breaksBy_25 (by decide) ?_
      refine x_zret hx hb hr hlocks hP hS dX5_breaksBy_29 (Or.inr rfl) ?_
      subst er9
      exact ⟨by first | (simp [c16, c21, d21]; done) | grind, rfl⟩

set_option maxHeartbeats 4000000 in
set_option maxRecDepth 100000 in
theorem c5_odds_t (hI : xI 42 ad) (S : xSt) (N : Nat) (hN : S 12 2 = nI N) (hN5 : N ≤ 5) (hN0 : 0 < N) (C : Nat) (hC : S 12 0 = nI C) (hC4 : C ≤ 4) (Y : Nat) (hY : S 12 1 = nI Y) (hY6 : Y ≤ 6) (y0 : Nat) (hy0 : y0 < Y) (wn : Int32) (hwn : wn = 0 ∨ wn = 1) : xMl l yX5_odds wsX5_odds ({ frames := 6, cells := 0, slots := 0, locals := 146 }) (dC, dI) vwCl (tyl cI cZ cS cG) (cLy cI cZ cS cG ad) 42 ad [.ref (ad 0), .int (nI y0), .int wn] S (fun r S' => r = (if wn = 0 then (hlv 5 (oddL (fun i => decide (nI i &&& cSet S 32 = nI i)) (fun i => decide (¬ cBrk S N C Y 32 (nI i) = -9 ∧ ¬ nI y0 < cBrk S N C Y 32 (nI i))) (2 ^ N) 0 0 0).1 (oddL (fun i => decide (nI i &&& cSet S 32 = nI i)) (fun i => decide (¬ cBrk S N C Y 32 (nI i) = -9 ∧ ¬ nI y0 < cBrk S N C Y 32 (nI i))) (2 ^ N) 0 0 0).2).1 else (hlv 5 (oddL (fun i => decide (nI i &&& cSet S 32 = nI i)) (fun i => decide (¬ cBrk S N C Y 32 (nI i) = -9 ∧ ¬ nI y0 < cBrk S N C Y 32 (nI i))) (2 ^ N) 0 0 0).1 (oddL (fun i => decide (nI i &&& cSet S 32 = nI i)) (fun i => decide (¬ cBrk S N C Y 32 (nI i) = -9 ∧ ¬ nI y0 < cBrk S N C Y 32 (nI i))) (2 ^ N) 0 0 0).2).2).toInt64 ∧ S' = S) := by
  refine xM_of (cc := cX5_odds) (nL := 7) (ret := (some .long)) (by decide) rfl (Nat.le_of_ble_eq_true rfl) ?_
  intro p e s m below meth c ls B hl hK hP
  obtain ⟨hx, hb, hml, hown, hts, hr, hlocks⟩ := B
  have hl : lv_has ls 7 [(0, .ref (ad 0)), (1, .int (nI y0)), (2, .int wn)] := hl
  have hS : va_S (xA 42 ad) s.heap s.heap [] := va_S.rf
  have hAd : ∀ k, k < 42 → xA 42 ad (ad k) := xA_in
  have hinX4 : ∀ w ∈ wsX40, w ∈ wsX5_odds := fun _ h => List.mem_cons_of_mem _ (List.mem_append_left _ (List.mem_append_right _ h))
  have hinX5 : ∀ w ∈ wsX50, w ∈ wsX5_odds := fun _ h => List.mem_cons_of_mem _ (List.mem_append_left _ (List.mem_append_left _ (List.mem_append_right _ h)))
  have hF : CallFix p m c cX5_odds 7 s _ wsX5_odds RX5 := ⟨hx, hb, hml, hown, hts⟩
  have h32 : 2 ^ N ≤ 2 ^ 5 := Nat.pow_le_pow_right (by decide) hN5
  have L100 : ∀ (n : Nat) (h : Nat) (u : Int32) (d : Int32) (hh : h + n = 5) (hv : hlv 5 (oddL (fun i => decide (nI i &&& cSet S 32 = nI i)) (fun i => decide (¬ cBrk S N C Y 32 (nI i) = -9 ∧ ¬ nI y0 < cBrk S N C Y 32 (nI i))) (2 ^ N) 0 0 0).1 (oddL (fun i => decide (nI i &&& cSet S 32 = nI i)) (fun i => decide (¬ cBrk S N C Y 32 (nI i) = -9 ∧ ¬ nI y0 < cBrk S N C Y 32 (nI i))) (2 ^ N) 0 0 0).2 = hlv n u d) (H : Heap) (locs : List Loc) (ls : Array Slot), va_P (dC, dI) vwCl (xW (cLy cI cZ cS cG ad) 42 ad S) H → va_S (xA 42 ad) s.heap H locs → lv_has ls 7 [(0, .ref (ad 0)), (1, .int (nI y0)), (2, .int wn), (4, .int u), (5, .int d), (6, .int (nI h))] → W p l e ({ frames := 6, cells := 0, slots := 0, locals := 146 }) s m ([.ref (ad 0), .int (nI y0), .int wn] : List Value).toArray below meth c H locs 0 0 (MQ below (xQl (dC, dI) vwCl (cLy cI cZ cS cG ad) 42 ad (fun r S' => r = (if wn = 0 then (hlv 5 (oddL (fun i => decide (nI i &&& cSet S 32 = nI i)) (fun i => decide (¬ cBrk S N C Y 32 (nI i) = -9 ∧ ¬ nI y0 < cBrk S N C Y 32 (nI i))) (2 ^ N) 0 0 0).1 (oddL (fun i => decide (nI i &&& cSet S 32 = nI i)) (fun i => decide (¬ cBrk S N C Y 32 (nI i) = -9 ∧ ¬ nI y0 < cBrk S N C Y 32 (nI i))) (2 ^ N) 0 0 0).2).1 else (hlv 5 (oddL (fun i => decide (nI i &&& cSet S 32 = nI i)) (fun i => decide (¬ cBrk S N C Y 32 (nI i) = -9 ∧ ¬ nI y0 < cBrk S N C Y 32 (nI i))) (2 ^ N) 0 0 0).1 (oddL (fun i => decide (nI i &&& cSet S 32 = nI i)) (fun i => decide (¬ cBrk S N C Y 32 (nI i) = -9 ∧ ¬ nI y0 < cBrk S N C Y 32 (nI i))) (2 ^ N) 0 0 0).2).2).toInt64 ∧ S' = S)) ([.ref (ad 0), .int (nI y0), .int wn] : List Value).toArray s 0 0 (xA 42 ad)) (F0 m 100 ls []) := by
    intro n
    induction n with
    | zero =>
      intro h u d hh hv H locs ls hP hS hl
      refine lv_iload hx hb dX5_odds_100 (lv_at hl 5 rfl) ?_
      refine lv_iconst (v := 5) hx hb dX5_odds_102 (by decide +kernel) ?_
      refine lv_icmp_ge (tgt := 138) hx hb dX5_odds_103 (by decide) (fun _ => ?_) (fun hc => absurd (nI_le (a := 5) (by omega) (by omega)) hc)
      refine lv_iload_n hx hb dX5_odds_138 rfl (lv_at hl 2 rfl) ?_
      refine lv_if_ne (tgt := 148) hx hb dX5_odds_139 (by decide) (fun c139 => ?_) (fun c139 => ?_)
      · refine lv_iload hx hb dX5_odds_148 (lv_at hl 4 rfl) ?_
        refine lv_i2l hx hb dX5_odds_150 rfl ?_
        refine x_lret hx hb hr hlocks hP hS dX5_odds_151 ?_
        exact ⟨by rw [hv]; simp [hlv, c139], rfl⟩
      · refine lv_iload hx hb dX5_odds_142 (lv_at hl 3 rfl) ?_
        refine lv_i2l hx hb dX5_odds_144 rfl ?_
        refine lv_goto (tgt := 151) hx hb dX5_odds_145 (by decide) ?_
        refine x_lret hx hb hr hlocks hP hS dX5_odds_151 ?_
        exact ⟨by rw [hv]; simp [hlv, c139], rfl⟩
    | succ n ih =>
      intro h u d hh hv H locs ls hP hS hl
      refine lv_iload hx hb dX5_odds_100 (lv_at hl 5 rfl) ?_
      refine lv_iconst (v := 5) hx hb dX5_odds_102 (by decide +kernel) ?_
      refine lv_icmp_ge (tgt := 138) hx hb dX5_odds_103 (by decide) (fun hc => absurd hc (nI_ge (b := 5) (by omega) (by omega))) (fun _ => ?_)
      refine lv_iload hx hb dX5_odds_106 (lv_at hl 3 rfl) ?_
      refine lv_iconst (v := 2) hx hb dX5_odds_108 (by decide +kernel) ?_
      refine lv_irem hx hb dX5_odds_109 (by decide +kernel) ?_
      refine lv_if_ne (tgt := 138) hx hb dX5_odds_110 (by decide) (fun c110 => ?_) (fun c110 => ?_)
      · refine lv_iload_n hx hb dX5_odds_138 rfl (lv_at hl 2 rfl) ?_
        refine lv_if_ne (tgt := 148) hx hb dX5_odds_139 (by decide) (fun c139 => ?_) (fun c139 => ?_)
        · refine lv_iload hx hb dX5_odds_148 (lv_at hl 4 rfl) ?_
          refine lv_i2l hx hb dX5_odds_150 rfl ?_
          refine x_lret hx hb hr hlocks hP hS dX5_odds_151 ?_
          exact ⟨by rw [hv]; simp [hlv, c110, c139], rfl⟩
        · refine lv_iload hx hb dX5_odds_142 (lv_at hl 3 rfl) ?_
          refine lv_i2l hx hb dX5_odds_144 rfl ?_
          refine lv_goto (tgt := 151) hx hb dX5_odds_145 (by decide) ?_
          refine x_lret hx hb hr hlocks hP hS dX5_odds_151 ?_
          exact ⟨by rw [hv]; simp [hlv, c110, c139], rfl⟩
      · refine lv_iload hx hb dX5_odds_113 (lv_at hl 4 rfl) ?_
        refine lv_iconst (v := 2) hx hb dX5_odds_115 (by decide +kernel) ?_
        refine lv_irem hx hb dX5_odds_116 (by decide +kernel) ?_
        refine lv_if_ne (tgt := 138) hx hb dX5_odds_117 (by decide) (fun c117 => ?_) (fun c117 => ?_)
        · refine lv_iload_n hx hb dX5_odds_138 rfl (lv_at hl 2 rfl) ?_
          refine lv_if_ne (tgt := 148) hx hb dX5_odds_139 (by decide) (fun c139 => ?_) (fun c139 => ?_)
          · refine lv_iload hx hb dX5_odds_148 (lv_at hl 4 rfl) ?_
            refine lv_i2l hx hb dX5_odds_150 rfl ?_
            refine x_lret hx hb hr hlocks hP hS dX5_odds_151 ?_
            exact ⟨by rw [hv]; simp [hlv, c110, c117, c139], rfl⟩
          · refine lv_iload hx hb dX5_odds_142 (lv_at hl 3 rfl) ?_
            refine lv_i2l hx hb dX5_odds_144 rfl ?_
            refine lv_goto (tgt := 151) hx hb dX5_odds_145 (by decide) ?_
            refine x_lret hx hb hr hlocks hP hS dX5_odds_151 ?_
            exact ⟨by rw [hv]; simp [hlv, c110, c117, c139], rfl⟩
        · refine lv_iload hx hb dX5_odds_120 (lv_at hl 3 rfl) ?_
          refine lv_iconst (v := 2) hx hb dX5_odds_122 (by decide +kernel) ?_
          refine lv_idiv hx hb dX5_odds_123 (by decide +kernel) ?_
          refine lv_topi (fun x124 ex124 => ?_)
          refine lv_istore (lv' := [(4, .int x124), (0, .ref (ad 0)), (1, .int (nI y0)), (2, .int wn), (5, .int d), (6, .int (nI h))]) hx hb dX5_odds_124 hl (by decide) rfl (fun ls hl => ?_)
          refine lv_iload hx hb dX5_odds_126 (lv_at hl 4 rfl) ?_
          refine lv_iconst (v := 2) hx hb dX5_odds_128 (by decide +kernel) ?_
          refine lv_idiv hx hb dX5_odds_129 (by decide +kernel) ?_
          refine lv_topi (fun x130 ex130 => ?_)
          refine lv_istore (lv' := [(5, .int x130), (4, .int x124), (0, .ref (ad 0)), (1, .int (nI y0)), (2, .int wn), (6, .int (nI h))]) hx hb dX5_odds_130 hl (by decide) rfl (fun ls hl => ?_)
          refine lv_iinc (v := nI (h + 1)) (lv' := [(6, .int (nI (h + 1))), (5, .int x130), (4, .int x124), (0, .ref (ad 0)), (1, .int (nI y0)), (2, .int wn)]) hx hb dX5_odds_132 hl (k := 5) rfl (nI_1 _) (by decide) rfl (fun ls hl => ?_)
          refine lv_goto (tgt := 100) hx hb dX5_odds_135 (by decide) ?_
          exact ih (h + 1) x124 x130 (by omega) (hv.trans (by subst ex124; subst ex130; rw [hlv]; simp [c110, c117])) H locs ls hP hS (lv_sub hl [3, 4, 5, 2, 1, 0] rfl)
  have L45 : ∀ (n : Nat) (i : Nat) (u : Int32) (d : Int32) (hi : i + n = 2 ^ N) (hv : oddL (fun i => decide (nI i &&& cSet S 32 = nI i)) (fun i => decide (¬ cBrk S N C Y 32 (nI i) = -9 ∧ ¬ nI y0 < cBrk S N C Y 32 (nI i))) (2 ^ N) 0 0 0 = oddL (fun i => decide (nI i &&& cSet S 32 = nI i)) (fun i => decide (¬ cBrk S N C Y 32 (nI i) = -9 ∧ ¬ nI y0 < cBrk S N C Y 32 (nI i))) n i u d) (H : Heap) (locs : List Loc) (ls : Array Slot), va_P (dC, dI) vwCl (xW (cLy cI cZ cS cG ad) 42 ad S) H → va_S (xA 42 ad) s.heap H locs → lv_has ls 7 [(0, .ref (ad 0)), (1, .int (nI y0)), (2, .int wn), (3, .int (cSet S 32)), (4, .int u), (5, .int d), (6, .int (nI i))] → W p l e ({ frames := 6, cells := 0, slots := 0, locals := 146 }) s m ([.ref (ad 0), .int (nI y0), .int wn] : List Value).toArray below meth c H locs 0 0 (MQ below (xQl (dC, dI) vwCl (cLy cI cZ cS cG ad) 42 ad (fun r S' => r = (if wn = 0 then (hlv 5 (oddL (fun i => decide (nI i &&& cSet S 32 = nI i)) (fun i => decide (¬ cBrk S N C Y 32 (nI i) = -9 ∧ ¬ nI y0 < cBrk S N C Y 32 (nI i))) (2 ^ N) 0 0 0).1 (oddL (fun i => decide (nI i &&& cSet S 32 = nI i)) (fun i => decide (¬ cBrk S N C Y 32 (nI i) = -9 ∧ ¬ nI y0 < cBrk S N C Y 32 (nI i))) (2 ^ N) 0 0 0).2).1 else (hlv 5 (oddL (fun i => decide (nI i &&& cSet S 32 = nI i)) (fun i => decide (¬ cBrk S N C Y 32 (nI i) = -9 ∧ ¬ nI y0 < cBrk S N C Y 32 (nI i))) (2 ^ N) 0 0 0).1 (oddL (fun i => decide (nI i &&& cSet S 32 = nI i)) (fun i => decide (¬ cBrk S N C Y 32 (nI i) = -9 ∧ ¬ nI y0 < cBrk S N C Y 32 (nI i))) (2 ^ N) 0 0 0).2).2).toInt64 ∧ S' = S)) ([.ref (ad 0), .int (nI y0), .int wn] : List Value).toArray s 0 0 (xA 42 ad)) (F0 m 45 ls []) := by
    intro n
    induction n with
    | zero =>
      intro i u d hi hv H locs ls hP hS hl
      refine lv_iload hx hb dX5_odds_45 (lv_at hl 6 rfl) ?_
      refine lv_iconst (v := 1) hx hb dX5_odds_47 (by decide +kernel) ?_
      refine lv_aload_n hx hb dX5_odds_48 rfl (lv_at hl 0 rfl) ?_
      refine x_get (v := .ref (ad 12)) hx hb hts hinX5 hown hK hP 0 (by decide) rfl rfl 2 (by decide) (hts _ (List.mem_of_getElem? (i := 3) rfl)) rfl dX5_odds_49 ?_
      refine x_get (v := .int (nI N)) hx hb hts hinX4 hown hK hP 12 (by decide) rfl rfl 2 (by decide) (hts _ (List.mem_of_getElem? (i := 4) rfl)) (congrArg (fun z => some (Value.int z)) hN) dX5_odds_52 ?_
      refine lv_ishl hx hb dX5_odds_55 ?_
      rw [shl1 N (by omega)]
      refine lv_icmp_ge (tgt := 97) hx hb dX5_odds_56 (by decide) (fun _ => ?_) (fun hc => absurd (nI_le (by omega) (by omega)) hc)
      refine lv_iconst (v := 0) hx hb dX5_odds_97 (by decide +kernel) ?_
      refine lv_istore (lv' := [(6, .int 0), (0, .ref (ad 0)), (1, .int (nI y0)), (2, .int wn), (3, .int (cSet S 32)), (4, .int u), (5, .int d)]) hx hb dX5_odds_98 hl (by decide) rfl (fun ls hl => ?_)
      exact L100 5 0 u d rfl (by rw [hv]; rfl) _ _ ls hP hS (lv_sub hl [1, 2, 3, 5, 6, 0] rfl)
    | succ n ih =>
      intro i u d hi hv H locs ls hP hS hl
      refine lv_iload hx hb dX5_odds_45 (lv_at hl 6 rfl) ?_
      refine lv_iconst (v := 1) hx hb dX5_odds_47 (by decide +kernel) ?_
      refine lv_aload_n hx hb dX5_odds_48 rfl (lv_at hl 0 rfl) ?_
      refine x_get (v := .ref (ad 12)) hx hb hts hinX5 hown hK hP 0 (by decide) rfl rfl 2 (by decide) (hts _ (List.mem_of_getElem? (i := 3) rfl)) rfl dX5_odds_49 ?_
      refine x_get (v := .int (nI N)) hx hb hts hinX4 hown hK hP 12 (by decide) rfl rfl 2 (by decide) (hts _ (List.mem_of_getElem? (i := 4) rfl)) (congrArg (fun z => some (Value.int z)) hN) dX5_odds_52 ?_
      refine lv_ishl hx hb dX5_odds_55 ?_
      rw [shl1 N (by omega)]
      refine lv_icmp_ge (tgt := 97) hx hb dX5_odds_56 (by decide) (fun hc => absurd hc (nI_ge (by omega) (by omega))) (fun _ => ?_)
      refine lv_iload hx hb dX5_odds_59 (lv_at hl 6 rfl) ?_
      refine lv_iload_n hx hb dX5_odds_61 rfl (lv_at hl 3 rfl) ?_
      refine lv_iand hx hb dX5_odds_62 ?_
      refine lv_iload hx hb dX5_odds_63 (lv_at hl 6 rfl) ?_
      refine lv_icmp_ne (tgt := 91) hx hb dX5_odds_65 (by decide) (fun c65 => ?_) (fun c65 => ?_)
      · refine lv_iinc (v := nI (i + 1)) (lv' := [(6, .int (nI (i + 1))), (0, .ref (ad 0)), (1, .int (nI y0)), (2, .int wn), (3, .int (cSet S 32)), (4, .int u), (5, .int d)]) hx hb dX5_odds_91 hl (k := 6) rfl (nI_1 _) (by decide) rfl (fun ls hl => ?_)
        refine lv_goto (tgt := 45) hx hb dX5_odds_94 (by decide) ?_
        exact ih (i + 1) u d (by omega) (hv.trans (by skip; rw [oddL]; first | (simp [c65]; done) | rw [if_pos (by simp [c65]), if_neg (fun hz => q77 (of_decide_eq_true hz))])) H locs ls hP hS (lv_sub hl [1, 2, 3, 4, 5, 6, 0] rfl)
      · obtain ⟨x68, ex68⟩ : ∃ z : Int32, z = d + 1 := ⟨_, rfl⟩
        refine lv_iinc (v := x68) (lv' := [(5, .int x68), (0, .ref (ad 0)), (1, .int (nI y0)), (2, .int wn), (3, .int (cSet S 32)), (4, .int u), (6, .int (nI i))]) hx hb dX5_odds_68 hl (k := 5) rfl (by rw [ex68]; rfl) (by decide) rfl (fun ls hl => ?_)
        refine lv_iload hx hb dX5_odds_71 (lv_at hl 5 rfl) ?_
        refine lv_aload_n hx hb dX5_odds_73 rfl (lv_at hl 1 rfl) ?_
        refine lv_iload_n hx hb dX5_odds_74 rfl (lv_at hl 2 rfl) ?_
        refine lv_iload hx hb dX5_odds_75 (lv_at hl 6 rfl) ?_
        refine x_calli (x_runV (As := [.int (nI y0), .int (nI i)]) (rest := [.int u]) hF (c5_breaksBy hI S N hN hN5 C hC hC4 Y hY hY6 (nI y0) (nI i) ) (cwV 2 hts gX5_odds_X5_breaksBy rfl rfl rfl (by decide +kernel) ⟨Nat.le_of_ble_eq_true rfl, Nat.le_of_ble_eq_true rfl⟩) hK hP (by decide) rfl rfl rfl hl.1 rfl (Nat.le_of_ble_eq_true rfl) dX5_odds_77 ⟨Nat.zero_le _, Nat.zero_le _⟩) hS hAd (fun r77 S77 H locs hw hP _ hS => ?_)
        obtain ⟨hw, eS77⟩ := hw
        rw [eS77] at hP
        by_cases q77 : ¬ cBrk S N C Y 32 (nI i) = -9 ∧ ¬ (nI y0) < cBrk S N C Y 32 (nI i)
        · have hw : r77 = 1 := hw.trans (if_pos q77)
          subst hw
          refine lv_if_eq (tgt := 87) hx hb dX5_odds_80 (by decide) (fun hc => absurd hc (by decide)) (fun _ => ?_)
          refine lv_iconst (v := 1) hx hb dX5_odds_83 (by decide +kernel) ?_
          refine lv_goto (tgt := 88) hx hb dX5_odds_84 (by decide) ?_
          refine lv_iadd hx hb dX5_odds_88 ?_
          refine lv_topi (fun x89 ex89 => ?_)
          refine lv_istore (lv' := [(4, .int x89), (5, .int x68), (0, .ref (ad 0)), (1, .int (nI y0)), (2, .int wn), (3, .int (cSet S 32)), (6, .int (nI i))]) hx hb dX5_odds_89 hl (by decide) rfl (fun ls hl => ?_)
          refine lv_iinc (v := nI (i + 1)) (lv' := [(6, .int (nI (i + 1))), (4, .int x89), (5, .int x68), (0, .ref (ad 0)), (1, .int (nI y0)), (2, .int wn), (3, .int (cSet S 32))]) hx hb dX5_odds_91 hl (k := 6) rfl (nI_1 _) (by decide) rfl (fun ls hl => ?_)
          refine lv_goto (tgt := 45) hx hb dX5_odds_94 (by decide) ?_
          exact ih (i + 1) x89 x68 (by omega) (hv.trans (by subst ex68; subst ex89; rw [oddL]; first | (simp [c65, q77]; done) | rw [if_pos (by simp [c65]), if_neg (fun hz => q77 (of_decide_eq_true hz))])) H locs ls hP hS (lv_sub hl [3, 4, 5, 6, 1, 2, 0] rfl)
        · have hw : r77 = 0 := hw.trans (if_neg q77)
          subst hw
          refine lv_if_eq (tgt := 87) hx hb dX5_odds_80 (by decide) (fun _ => ?_) (fun hc => absurd (by decide) hc)
          refine lv_iconst (v := 0) hx hb dX5_odds_87 (by decide +kernel) ?_
          refine lv_iadd hx hb dX5_odds_88 ?_
          refine lv_topi (fun x89 ex89 => ?_)
          refine lv_istore (lv' := [(4, .int x89), (5, .int x68), (0, .ref (ad 0)), (1, .int (nI y0)), (2, .int wn), (3, .int (cSet S 32)), (6, .int (nI i))]) hx hb dX5_odds_89 hl (by decide) rfl (fun ls hl => ?_)
          refine lv_iinc (v := nI (i + 1)) (lv' := [(6, .int (nI (i + 1))), (4, .int x89), (5, .int x68), (0, .ref (ad 0)), (1, .int (nI y0)), (2, .int wn), (3, .int (cSet S 32))]) hx hb dX5_odds_91 hl (k := 6) rfl (nI_1 _) (by decide) rfl (fun ls hl => ?_)
          refine lv_goto (tgt := 45) hx hb dX5_odds_94 (by decide) ?_
          exact ih (i + 1) x89 x68 (by omega) (hv.trans (by subst ex68; subst ex89; rw [oddL]; first | (simp [c65, q77]; done) | rw [if_pos (by simp [c65]), if_neg (fun hz => q77 (of_decide_eq_true hz))])) H locs ls hP hS (lv_sub hl [3, 4, 5, 6, 1, 2, 0] rfl)
  refine lv_aload_n hx hb dX5_odds_0 rfl (lv_at hl 0 rfl) ?_
  refine x_calli (x_runV (As := []) (rest := []) hF (c5_hasTreaty hI S  ) (cwV 0 hts gX5_odds_X5_hasTreaty rfl rfl rfl (by decide +kernel) ⟨Nat.le_of_ble_eq_true rfl, Nat.le_of_ble_eq_true rfl⟩) hK hP (by decide) rfl rfl rfl hl.1 rfl (Nat.le_of_ble_eq_true rfl) dX5_odds_1 ⟨Nat.zero_le _, Nat.zero_le _⟩) hS hAd (fun r1 S1 H locs hw hP _ hS => ?_)
  obtain ⟨hw, eS1⟩ := hw
  rw [eS1] at hP
  by_cases q1 : ¬ S 12 2 ≤ 0
  · have hw : r1 = 1 := hw.trans (if_pos q1)
    subst hw
    refine lv_if_eq (tgt := 24) hx hb dX5_odds_4 (by decide) (fun hc => absurd hc (by decide)) (fun _ => ?_)
    refine lv_aload_n hx hb dX5_odds_7 rfl (lv_at hl 0 rfl) ?_
    refine lv_iload_n hx hb dX5_odds_8 rfl (lv_at hl 1 rfl) ?_
    refine x_calli (x_runV (As := [.int (nI y0)]) (rest := []) hF (c5_isYear hI S (nI y0) ) (cwV 1 hts gX5_odds_X5_isYear rfl rfl rfl (by decide +kernel) ⟨Nat.le_of_ble_eq_true rfl, Nat.le_of_ble_eq_true rfl⟩) hK hP (by decide) rfl rfl rfl hl.1 rfl (Nat.le_of_ble_eq_true rfl) dX5_odds_9 ⟨Nat.zero_le _, Nat.zero_le _⟩) hS hAd (fun r9 S9 H locs hw hP _ hS => ?_)
    obtain ⟨hw, eS9⟩ := hw
    rw [eS9] at hP
    by_cases q9 : inR (nI y0) (S 12 1) = true
    · have hw : r9 = 1 := hw.trans (if_pos q9)
      subst hw
      refine lv_if_eq (tgt := 24) hx hb dX5_odds_12 (by decide) (fun hc => absurd hc (by decide)) (fun _ => ?_)
      refine lv_iload_n hx hb dX5_odds_15 rfl (lv_at hl 2 rfl) ?_
      refine lv_if_eq (tgt := 28) hx hb dX5_odds_16 (by decide) (fun c16 => ?_) (fun c16 => ?_)
      · refine lv_aload_n hx hb dX5_odds_28 rfl (lv_at hl 0 rfl) ?_
        refine x_get (v := .ref (ad 32)) hx hb hts hinX5 hown hK hP 0 (by decide) rfl rfl 4 (by decide) (hts _ (List.mem_of_getElem? (i := 2) rfl)) rfl dX5_odds_29 ?_
        refine x_calli (x_runV (As := []) (rest := []) hF (c1_setOf hI S 32 (Or.inl rfl) ) (cwV 0 hts gX5_odds_X1_setOf rfl rfl rfl (by decide +kernel) ⟨Nat.le_of_ble_eq_true rfl, Nat.le_of_ble_eq_true rfl⟩) hK hP (by decide) rfl rfl rfl hl.1 rfl (Nat.le_of_ble_eq_true rfl) dX5_odds_32 ⟨Nat.zero_le _, Nat.zero_le _⟩) hS hAd (fun r32 S32 H locs hw hP _ hS => ?_)
        obtain ⟨er32, eS32⟩ := hw
        rw [eS32] at hP
        subst er32
        refine lv_istore_n (lv' := [(3, .int (cSet S 32)), (0, .ref (ad 0)), (1, .int (nI y0)), (2, .int wn)]) hx hb dX5_odds_35 rfl hl (by decide) rfl (fun ls hl => ?_)
        refine lv_iconst (v := 0) hx hb dX5_odds_36 (by decide +kernel) ?_
        refine lv_istore (lv' := [(4, .int 0), (3, .int (cSet S 32)), (0, .ref (ad 0)), (1, .int (nI y0)), (2, .int wn)]) hx hb dX5_odds_37 hl (by decide) rfl (fun ls hl => ?_)
        refine lv_iconst (v := 0) hx hb dX5_odds_39 (by decide +kernel) ?_
        refine lv_istore (lv' := [(5, .int 0), (4, .int 0), (3, .int (cSet S 32)), (0, .ref (ad 0)), (1, .int (nI y0)), (2, .int wn)]) hx hb dX5_odds_40 hl (by decide) rfl (fun ls hl => ?_)
        refine lv_iconst (v := 0) hx hb dX5_odds_42 (by decide +kernel) ?_
        refine lv_istore (lv' := [(6, .int 0), (5, .int 0), (4, .int 0), (3, .int (cSet S 32)), (0, .ref (ad 0)), (1, .int (nI y0)), (2, .int wn)]) hx hb dX5_odds_43 hl (by decide) rfl (fun ls hl => ?_)
        exact L45 (2 ^ N) 0 0 0 (Nat.zero_add _) rfl _ _ ls hP hS (lv_sub hl [4, 5, 6, 3, 2, 1, 0] rfl)
      · refine lv_iload_n hx hb dX5_odds_19 rfl (lv_at hl 2 rfl) ?_
        refine lv_iconst (v := 1) hx hb dX5_odds_20 (by decide +kernel) ?_
        refine lv_icmp_eq (tgt := 28) hx hb dX5_odds_21 (by decide) (fun c21 => ?_) (fun c21 => ?_)
        · refine lv_aload_n hx hb dX5_odds_28 rfl (lv_at hl 0 rfl) ?_
          refine x_get (v := .ref (ad 32)) hx hb hts hinX5 hown hK hP 0 (by decide) rfl rfl 4 (by decide) (hts _ (List.mem_of_getElem? (i := 2) rfl)) rfl dX5_odds_29 ?_
          refine x_calli (x_runV (As := []) (rest := []) hF (c1_setOf hI S 32 (Or.inl rfl) ) (cwV 0 hts gX5_odds_X1_setOf rfl rfl rfl (by decide +kernel) ⟨Nat.le_of_ble_eq_true rfl, Nat.le_of_ble_eq_true rfl⟩) hK hP (by decide) rfl rfl rfl hl.1 rfl (Nat.le_of_ble_eq_true rfl) dX5_odds_32 ⟨Nat.zero_le _, Nat.zero_le _⟩) hS hAd (fun r32 S32 H locs hw hP _ hS => ?_)
          obtain ⟨er32, eS32⟩ := hw
          rw [eS32] at hP
          subst er32
          refine lv_istore_n (lv' := [(3, .int (cSet S 32)), (0, .ref (ad 0)), (1, .int (nI y0)), (2, .int wn)]) hx hb dX5_odds_35 rfl hl (by decide) rfl (fun ls hl => ?_)
          refine lv_iconst (v := 0) hx hb dX5_odds_36 (by decide +kernel) ?_
          refine lv_istore (lv' := [(4, .int 0), (3, .int (cSet S 32)), (0, .ref (ad 0)), (1, .int (nI y0)), (2, .int wn)]) hx hb dX5_odds_37 hl (by decide) rfl (fun ls hl => ?_)
          refine lv_iconst (v := 0) hx hb dX5_odds_39 (by decide +kernel) ?_
          refine lv_istore (lv' := [(5, .int 0), (4, .int 0), (3, .int (cSet S 32)), (0, .ref (ad 0)), (1, .int (nI y0)), (2, .int wn)]) hx hb dX5_odds_40 hl (by decide) rfl (fun ls hl => ?_)
          refine lv_iconst (v := 0) hx hb dX5_odds_42 (by decide +kernel) ?_
          refine lv_istore (lv' := [(6, .int 0), (5, .int 0), (4, .int 0), (3, .int (cSet S 32)), (0, .ref (ad 0)), (1, .int (nI y0)), (2, .int wn)]) hx hb dX5_odds_43 hl (by decide) rfl (fun ls hl => ?_)
          exact L45 (2 ^ N) 0 0 0 (Nat.zero_add _) rfl _ _ ls hP hS (lv_sub hl [4, 5, 6, 3, 2, 1, 0] rfl)
        · refine lv_ldc2 (v := (-9223372036854775808)) hx hb hown (hts _ (List.mem_of_getElem? (i := 1) rfl)) dX5_odds_24 ?_
          refine x_lret hx hb hr hlocks hP hS dX5_odds_27 ?_
          exact absurd hwn (by simp [q1, q9, c16, c21])
    · have hw : r9 = 0 := hw.trans (if_neg q9)
      subst hw
      exact absurd (by rw [hY]; exact inR_nI hy0 (by omega)) q9
  · have hw : r1 = 0 := hw.trans (if_neg q1)
    subst hw
    exact absurd (by rw [hN]; exact nI_nle hN0 (by omega)) q1

set_option maxHeartbeats 4000000 in
set_option maxRecDepth 100000 in
theorem c5_odds_f (hI : xI 42 ad) (S : xSt) (yn wn : Int32) (hno : S 12 2 ≤ 0 ∨ ¬ inR yn (S 12 1) = true ∨ ¬ (wn = 0 ∨ wn = 1)) : xMl l yX5_odds wsX5_odds ({ frames := 6, cells := 0, slots := 0, locals := 146 }) (dC, dI) vwCl (tyl cI cZ cS cG) (cLy cI cZ cS cG ad) 42 ad [.ref (ad 0), .int yn, .int wn] S (fun r S' => r = -9223372036854775808 ∧ S' = S) := by
  refine xM_of (cc := cX5_odds) (nL := 7) (ret := (some .long)) (by decide) rfl (Nat.le_of_ble_eq_true rfl) ?_
  intro p e s m below meth c ls B hl hK hP
  obtain ⟨hx, hb, hml, hown, hts, hr, hlocks⟩ := B
  have hl : lv_has ls 7 [(0, .ref (ad 0)), (1, .int yn), (2, .int wn)] := hl
  have hS : va_S (xA 42 ad) s.heap s.heap [] := va_S.rf
  have hAd : ∀ k, k < 42 → xA 42 ad (ad k) := xA_in
  have hF : CallFix p m c cX5_odds 7 s _ wsX5_odds RX5 := ⟨hx, hb, hml, hown, hts⟩
  refine lv_aload_n hx hb dX5_odds_0 rfl (lv_at hl 0 rfl) ?_
  refine x_calli (x_runV (As := []) (rest := []) hF (c5_hasTreaty hI S  ) (cwV 0 hts gX5_odds_X5_hasTreaty rfl rfl rfl (by decide +kernel) ⟨Nat.le_of_ble_eq_true rfl, Nat.le_of_ble_eq_true rfl⟩) hK hP (by decide) rfl rfl rfl hl.1 rfl (Nat.le_of_ble_eq_true rfl) dX5_odds_1 ⟨Nat.zero_le _, Nat.zero_le _⟩) hS hAd (fun r1 S1 H locs hw hP _ hS => ?_)
  obtain ⟨hw, eS1⟩ := hw
  rw [eS1] at hP
  by_cases q1 : ¬ S 12 2 ≤ 0
  · have hw : r1 = 1 := hw.trans (if_pos q1)
    subst hw
    refine lv_if_eq (tgt := 24) hx hb dX5_odds_4 (by decide) (fun hc => absurd hc (by decide)) (fun _ => ?_)
    refine lv_aload_n hx hb dX5_odds_7 rfl (lv_at hl 0 rfl) ?_
    refine lv_iload_n hx hb dX5_odds_8 rfl (lv_at hl 1 rfl) ?_
    refine x_calli (x_runV (As := [.int yn]) (rest := []) hF (c5_isYear hI S yn ) (cwV 1 hts gX5_odds_X5_isYear rfl rfl rfl (by decide +kernel) ⟨Nat.le_of_ble_eq_true rfl, Nat.le_of_ble_eq_true rfl⟩) hK hP (by decide) rfl rfl rfl hl.1 rfl (Nat.le_of_ble_eq_true rfl) dX5_odds_9 ⟨Nat.zero_le _, Nat.zero_le _⟩) hS hAd (fun r9 S9 H locs hw hP _ hS => ?_)
    obtain ⟨hw, eS9⟩ := hw
    rw [eS9] at hP
    by_cases q9 : inR yn (S 12 1) = true
    · have hw : r9 = 1 := hw.trans (if_pos q9)
      subst hw
      refine lv_if_eq (tgt := 24) hx hb dX5_odds_12 (by decide) (fun hc => absurd hc (by decide)) (fun _ => ?_)
      refine lv_iload_n hx hb dX5_odds_15 rfl (lv_at hl 2 rfl) ?_
      refine lv_if_eq (tgt := 28) hx hb dX5_odds_16 (by decide) (fun c16 => ?_) (fun c16 => ?_)
      · exact absurd hno (by simp [q1, q9, c16])
      · refine lv_iload_n hx hb dX5_odds_19 rfl (lv_at hl 2 rfl) ?_
        refine lv_iconst (v := 1) hx hb dX5_odds_20 (by decide +kernel) ?_
        refine lv_icmp_eq (tgt := 28) hx hb dX5_odds_21 (by decide) (fun c21 => ?_) (fun c21 => ?_)
        · exact absurd hno (by simp [q1, q9, c16, c21])
        · refine lv_ldc2 (v := (-9223372036854775808)) hx hb hown (hts _ (List.mem_of_getElem? (i := 1) rfl)) dX5_odds_24 ?_
          refine x_lret hx hb hr hlocks hP hS dX5_odds_27 ?_
          exact ⟨rfl, rfl⟩
    · have hw : r9 = 0 := hw.trans (if_neg q9)
      subst hw
      refine lv_if_eq (tgt := 24) hx hb dX5_odds_12 (by decide) (fun _ => ?_) (fun hc => absurd (by decide) hc)
      refine lv_ldc2 (v := (-9223372036854775808)) hx hb hown (hts _ (List.mem_of_getElem? (i := 1) rfl)) dX5_odds_24 ?_
      refine x_lret hx hb hr hlocks hP hS dX5_odds_27 ?_
      exact ⟨rfl, rfl⟩
  · have hw : r1 = 0 := hw.trans (if_neg q1)
    subst hw
    refine lv_if_eq (tgt := 24) hx hb dX5_odds_4 (by decide) (fun _ => ?_) (fun hc => absurd (by decide) hc)
    refine lv_ldc2 (v := (-9223372036854775808)) hx hb hown (hts _ (List.mem_of_getElem? (i := 1) rfl)) dX5_odds_24 ?_
    refine x_lret hx hb hr hlocks hP hS dX5_odds_27 ?_
    exact ⟨rfl, rfl⟩

end C4
