section M8
variable {l : Launch} {dC : Nat → ClassId} {dI : Nat → Nat → Nat} {cI cZ cS cG : ClassId} {ad bd : Nat → Nat}
set_option maxHeartbeats 4000000 in
set_option maxRecDepth 100000 in
theorem c6_digit (hI : xI 18 bd) (S : xSt) (A q t : Nat) (hat : S 0 15 = nI (A + t)) (htq : t ≤ q) (hAq : A + q ≤ 240) (fn ln : Int32) : xMi l yX6_digit wsX6_digit ({ frames := 1, cells := 0, slots := 0, locals := 22 }) (dC, dI) vwCl (tyl cI cZ cS cG) (mLy cI cZ bd) 18 bd [.ref (bd 0), .int (nI (A + q)), .int fn, .int ln] S (fun r S' => r = (if tko q t (S 3 (A + t)) (48 + fn) (48 + ln) then S 3 (A + t) - 48 else -9) ∧ S' = (if tko q t (S 3 (A + t)) (48 + fn) (48 + ln) then su S 0 15 (nI (A + t + 1)) else S)) := by
  refine xM_of (cc := cX6_digit) (nL := 4) (ret := (some .int)) (by decide) rfl (Nat.le_of_ble_eq_true rfl) ?_
  intro p e s m below meth c ls B hl hK hP
  obtain ⟨hx, hb, hml, hown, hts, hr, hlocks⟩ := B
  have hl : lv_has ls 4 [(0, .ref (bd 0)), (1, .int (nI (A + q))), (2, .int fn), (3, .int ln)] := hl
  have hS : va_S (xA 18 bd) s.heap s.heap [] := va_S.rf
  have hAd : ∀ k, k < 18 → xA 18 bd (bd k) := xA_in
  have hinX6 : ∀ w ∈ wsX60, w ∈ wsX6_digit := fun _ h => List.mem_cons_of_mem _ (List.mem_append_right _ h)
  have hF : CallFix p m c cX6_digit 4 s _ wsX6_digit RX6 := ⟨hx, hb, hml, hown, hts⟩
  refine lv_aload_n hx hb dX6_digit_0 rfl (lv_at hl 0 rfl) ?_
  refine x_get (v := .int (nI (A + t))) hx hb hts hinX6 hown hK hP 0 (by decide) rfl rfl 15 (by decide) (hts _ (List.mem_of_getElem? (i := 1) rfl)) (congrArg (fun z => some (Value.int z)) hat) dX6_digit_1 ?_
  refine lv_iload_n hx hb dX6_digit_4 rfl (lv_at hl 1 rfl) ?_
  refine lv_icmp_ge (tgt := 31) hx hb dX6_digit_5 (by decide) (fun c5 => ?_) (fun c5 => ?_)
  · have d5 := Int32.not_lt.mpr c5
    have ht2 : ¬ t < q := by have := (nI_leI (by omega) (by omega)).mp c5; omega
    refine lv_bipush (v := (-9)) hx hb dX6_digit_31 (by decide +kernel) ?_
    refine x_iret hx hb hr hlocks hP hS dX6_digit_33 ?_
    skip
    exact ⟨by simp [tko, c5, d5, ht2], by simp [tko, c5, d5, ht2, ← nI_1]⟩
  · have d5 := Int32.not_le.mp c5
    have ht1 : t < q := by rcases Nat.lt_or_ge t q with z | z; exact z; exact absurd (nI_le (show A + q ≤ A + t by omega) (by omega)) c5
    refine lv_aload_n hx hb dX6_digit_8 rfl (lv_at hl 0 rfl) ?_
    refine x_get (v := .ref (bd 3)) hx hb hts hinX6 hown hK hP 0 (by decide) rfl rfl 4 (by decide) (hts _ (List.mem_of_getElem? (i := 2) rfl)) rfl dX6_digit_9 ?_
    refine lv_aload_n hx hb dX6_digit_12 rfl (lv_at hl 0 rfl) ?_
    refine x_get (v := .int (nI (A + t))) hx hb hts hinX6 hown hK hP 0 (by decide) rfl rfl 15 (by decide) (hts _ (List.mem_of_getElem? (i := 1) rfl)) (congrArg (fun z => some (Value.int z)) hat) dX6_digit_13 ?_
    refine x_iald (v := S 3 (A + t)) hx hb hK hP 3 0 (by decide) rfl rfl (A + t) rfl (by omega) (by decide) rfl dX6_digit_16 ?_
    refine lv_bipush (v := 48) hx hb dX6_digit_17 (by decide +kernel) ?_
    refine lv_iload_n hx hb dX6_digit_19 rfl (lv_at hl 2 rfl) ?_
    refine lv_iadd hx hb dX6_digit_20 ?_
    refine lv_bipush (v := 48) hx hb dX6_digit_21 (by decide +kernel) ?_
    refine lv_iload_n hx hb dX6_digit_23 rfl (lv_at hl 3 rfl) ?_
    refine lv_iadd hx hb dX6_digit_24 ?_
    refine x_calli (x_runS (As := [.int (S 3 (A + t)), .int (48 + fn), .int (48 + ln)]) (rest := []) hF (c6_within hI S (S 3 (A + t)) (48 + fn) (48 + ln) ) (va_cwS 3 hts gX6_digit_X6_within rfl rfl rfl (by decide +kernel) ⟨Nat.le_of_ble_eq_true rfl, Nat.le_of_ble_eq_true rfl⟩) hK hP rfl hl.1 rfl (Nat.le_of_ble_eq_true rfl) dX6_digit_25 ⟨Nat.zero_le _, Nat.zero_le _⟩) hS hAd (fun r25 S25 H locs hw hP _ hS => ?_)
    obtain ⟨hw, eS25⟩ := hw
    rw [eS25] at hP
    by_cases q25 : wit (S 3 (A + t)) (48 + fn) (48 + ln) = true
    · have hw : r25 = 1 := hw.trans (if_pos q25)
      subst hw
      refine lv_if_ne (tgt := 34) hx hb dX6_digit_28 (by decide) (fun _ => ?_) (fun hc => absurd hc (by decide))
      refine lv_aload_n hx hb dX6_digit_34 rfl (lv_at hl 0 rfl) ?_
      refine lv_dup hx hb dX6_digit_35 rfl ?_
      refine x_get (v := .int (nI (A + t))) hx hb hts hinX6 hown hK hP 0 (by decide) rfl rfl 15 (by decide) (hts _ (List.mem_of_getElem? (i := 1) rfl)) (congrArg (fun z => some (Value.int z)) hat) dX6_digit_36 ?_
      refine lv_iconst (v := 1) hx hb dX6_digit_39 (by decide +kernel) ?_
      refine lv_iadd hx hb dX6_digit_40 ?_
      refine x_put hx hb hts hinX6 tyX6 tyX6_ok nmX6 hown hK hI hAd hP hS 0 (by decide) rfl rfl 15 (by decide) (hts _ (List.mem_of_getElem? (i := 1) rfl)) rfl (upd (S 0) 15 ((nI (A + t)) + 1)) rfl rfl rfl (Nat.le_of_ble_eq_true rfl) dX6_digit_41 (fun H locs hP hS => ?_)
      have hP : va_P (dC, dI) vwCl (xW (mLy cI cZ bd) 18 bd (su S 0 15 ((nI (A + t)) + 1))) H := hP
      refine lv_aload_n hx hb dX6_digit_44 rfl (lv_at hl 0 rfl) ?_
      refine x_get (v := .ref (bd 3)) hx hb hts hinX6 hown hK hP 0 (by decide) rfl rfl 4 (by decide) (hts _ (List.mem_of_getElem? (i := 2) rfl)) rfl dX6_digit_45 ?_
      refine lv_aload_n hx hb dX6_digit_48 rfl (lv_at hl 0 rfl) ?_
      refine x_get (v := .int ((nI (A + t)) + 1)) hx hb hts hinX6 hown hK hP 0 (by decide) rfl rfl 15 (by decide) (hts _ (List.mem_of_getElem? (i := 1) rfl)) rfl dX6_digit_49 ?_
      refine lv_iconst (v := 1) hx hb dX6_digit_52 (by decide +kernel) ?_
      refine lv_isub hx hb dX6_digit_53 ?_
      refine x_iald (v := S 3 (A + t)) hx hb hK hP 3 0 (by decide) rfl rfl (A + t) (by rw [nI_1, nI_pred]) (by omega) (by decide) rfl dX6_digit_54 ?_
      refine lv_bipush (v := 48) hx hb dX6_digit_55 (by decide +kernel) ?_
      refine lv_isub hx hb dX6_digit_57 ?_
      refine x_iret hx hb hr hlocks hP hS dX6_digit_58 ?_
      skip
      exact ⟨by simp [tko, c5, d5, ht1, q25], by simp [tko, c5, d5, ht1, q25, ← nI_1]⟩
    · have hw : r25 = 0 := hw.trans (if_neg q25)
      subst hw
      refine lv_if_ne (tgt := 34) hx hb dX6_digit_28 (by decide) (fun hc => absurd (by decide) hc) (fun _ => ?_)
      refine lv_bipush (v := (-9)) hx hb dX6_digit_31 (by decide +kernel) ?_
      refine x_iret hx hb hr hlocks hP hS dX6_digit_33 ?_
      skip
      exact ⟨by simp [tko, c5, d5, ht1, q25], by simp [tko, c5, d5, ht1, q25, ← nI_1]⟩

set_option maxHeartbeats 4000000 in
set_option maxRecDepth 100000 in
theorem c6_isSign (hI : xI 18 bd) (S : xSt) (A q t : Nat) (hat : S 0 15 = nI (A + t)) (htq : t ≤ q) (hAq : A + q ≤ 240) (cn : Int32) : xMi l yX6_isSign wsX6_isSign ({ frames := 0, cells := 0, slots := 0, locals := 0 }) (dC, dI) vwCl (tyl cI cZ cS cG) (mLy cI cZ bd) 18 bd [.ref (bd 0), .int (nI (A + q)), .int cn] S (fun r S' => r = (if tko q t (S 3 (A + t)) cn cn then 1 else 0) ∧ S' = (if tko q t (S 3 (A + t)) cn cn then su S 0 15 (nI (A + t + 1)) else S)) := by
  refine xM_of (cc := cX6_isSign) (nL := 3) (ret := (some .boolean)) (by decide) rfl (Nat.le_of_ble_eq_true rfl) ?_
  intro p e s m below meth c ls B hl hK hP
  obtain ⟨hx, hb, hml, hown, hts, hr, hlocks⟩ := B
  have hl : lv_has ls 3 [(0, .ref (bd 0)), (1, .int (nI (A + q))), (2, .int cn)] := hl
  have hS : va_S (xA 18 bd) s.heap s.heap [] := va_S.rf
  have hAd : ∀ k, k < 18 → xA 18 bd (bd k) := xA_in
  have hinX6 : ∀ w ∈ wsX60, w ∈ wsX6_isSign := fun _ h => List.mem_cons_of_mem _ (List.mem_append_right _ h)
  have hF : CallFix p m c cX6_isSign 3 s _ wsX6_isSign RX6 := ⟨hx, hb, hml, hown, hts⟩
  refine lv_aload_n hx hb dX6_isSign_0 rfl (lv_at hl 0 rfl) ?_
  refine x_get (v := .int (nI (A + t))) hx hb hts hinX6 hown hK hP 0 (by decide) rfl rfl 15 (by decide) (hts _ (List.mem_of_getElem? (i := 1) rfl)) (congrArg (fun z => some (Value.int z)) hat) dX6_isSign_1 ?_
  refine lv_iload_n hx hb dX6_isSign_4 rfl (lv_at hl 1 rfl) ?_
  refine lv_icmp_ge (tgt := 21) hx hb dX6_isSign_5 (by decide) (fun c5 => ?_) (fun c5 => ?_)
  · have d5 := Int32.not_lt.mpr c5
    have ht2 : ¬ t < q := by have := (nI_leI (by omega) (by omega)).mp c5; omega
    refine lv_iconst (v := 0) hx hb dX6_isSign_21 (by decide +kernel) ?_
    refine x_zret hx hb hr hlocks hP hS dX6_isSign_22 (Or.inl rfl) ?_
    skip
    exact ⟨by simp [tko, wit_eq, c5, d5, ht2], by simp [tko, wit_eq, c5, d5, ht2, ← nI_1]⟩
  · have d5 := Int32.not_le.mp c5
    have ht1 : t < q := by rcases Nat.lt_or_ge t q with z | z; exact z; exact absurd (nI_le (show A + q ≤ A + t by omega) (by omega)) c5
    refine lv_aload_n hx hb dX6_isSign_8 rfl (lv_at hl 0 rfl) ?_
    refine x_get (v := .ref (bd 3)) hx hb hts hinX6 hown hK hP 0 (by decide) rfl rfl 4 (by decide) (hts _ (List.mem_of_getElem? (i := 2) rfl)) rfl dX6_isSign_9 ?_
    refine lv_aload_n hx hb dX6_isSign_12 rfl (lv_at hl 0 rfl) ?_
    refine x_get (v := .int (nI (A + t))) hx hb hts hinX6 hown hK hP 0 (by decide) rfl rfl 15 (by decide) (hts _ (List.mem_of_getElem? (i := 1) rfl)) (congrArg (fun z => some (Value.int z)) hat) dX6_isSign_13 ?_
    refine x_iald (v := S 3 (A + t)) hx hb hK hP 3 0 (by decide) rfl rfl (A + t) rfl (by omega) (by decide) rfl dX6_isSign_16 ?_
    refine lv_iload_n hx hb dX6_isSign_17 rfl (lv_at hl 2 rfl) ?_
    refine lv_icmp_eq (tgt := 23) hx hb dX6_isSign_18 (by decide) (fun c18 => ?_) (fun c18 => ?_)
    · refine lv_aload_n hx hb dX6_isSign_23 rfl (lv_at hl 0 rfl) ?_
      refine lv_dup hx hb dX6_isSign_24 rfl ?_
      refine x_get (v := .int (nI (A + t))) hx hb hts hinX6 hown hK hP 0 (by decide) rfl rfl 15 (by decide) (hts _ (List.mem_of_getElem? (i := 1) rfl)) (congrArg (fun z => some (Value.int z)) hat) dX6_isSign_25 ?_
      refine lv_iconst (v := 1) hx hb dX6_isSign_28 (by decide +kernel) ?_
      refine lv_iadd hx hb dX6_isSign_29 ?_
      refine x_put hx hb hts hinX6 tyX6 tyX6_ok nmX6 hown hK hI hAd hP hS 0 (by decide) rfl rfl 15 (by decide) (hts _ (List.mem_of_getElem? (i := 1) rfl)) rfl (upd (S 0) 15 ((nI (A + t)) + 1)) rfl rfl rfl (Nat.le_of_ble_eq_true rfl) dX6_isSign_30 (fun H locs hP hS => ?_)
      have hP : va_P (dC, dI) vwCl (xW (mLy cI cZ bd) 18 bd (su S 0 15 ((nI (A + t)) + 1))) H := hP
      refine lv_iconst (v := 1) hx hb dX6_isSign_33 (by decide +kernel) ?_
      refine x_zret hx hb hr hlocks hP hS dX6_isSign_34 (Or.inr rfl) ?_
      skip
      exact ⟨by simp [tko, wit_eq, c5, d5, ht1, c18], by simp [tko, wit_eq, c5, d5, ht1, c18, ← nI_1]⟩
    · refine lv_iconst (v := 0) hx hb dX6_isSign_21 (by decide +kernel) ?_
      refine x_zret hx hb hr hlocks hP hS dX6_isSign_22 (Or.inl rfl) ?_
      skip
      exact ⟨by simp [tko, wit_eq, c5, d5, ht1, c18], by simp [tko, wit_eq, c5, d5, ht1, c18, ← nI_1]⟩

set_option maxHeartbeats 4000000 in
set_option maxRecDepth 100000 in
theorem c6_readCourt (hI : xI 18 bd) (S : xSt) (A q : Nat) (hAq : A + q ≤ 240) (cd : Nat → Int32) (hcd : ∀ u, u < q → S 3 (A + u) = cd u) (cv : Nat) (hcv : cv < 4) (hat : S 0 15 = nI (A + (4 + cv * (cY cd + 1)))) (hA0 : tAt cd q (4 + cv * (cY cd + 1)) (4, cv, 0)) (hY0 : S 0 17 = nI (cY cd)) (hY1 : 1 ≤ cY cd) (hY6 : cY cd ≤ 6) : xMi l yX6_readCourt wsX6_readCourt ({ frames := 2, cells := 0, slots := 0, locals := 45 }) (dC, dI) vwCl (tyl cI cZ cS cG) (mLy cI cZ bd) 18 bd [.ref (bd 0), .int (nI (A + q)), .int (nI cv)] S (fun r S' => (r = 1 ∧ tAt cd q (3 + (cv + 1) * (cY cd + 1)) (nxp (cC cd) (cv + 1)) ∧ S' 0 15 = nI (A + (3 + (cv + 1) * (cY cd + 1))) ∧ (∀ j, j ≠ 15 → S' 0 j = S 0 j) ∧ (∀ k, k ≠ 0 → k ≠ 11 → S' k = S k) ∧ (∀ j, (j < 6 * cv ∨ 6 * cv + 6 ≤ j) → S' 11 j = S 11 j) ∧ (∀ y', y' < cY cd → S' 11 (6 * cv + y') = nI (dg cd (gnP (cY cd) cv y')) ∧ dg cd (gnP (cY cd) cv y') ≤ 9)) ∨ (r = 0 ∧ ∃ t, tBad cd q t ∧ S' 0 15 = nI (A + t) ∧ frmM S S')) := by
  refine xM_of (cc := cX6_readCourt) (nL := 4) (ret := (some .boolean)) (by decide) rfl (Nat.le_of_ble_eq_true rfl) ?_
  intro p e s m below meth c ls B hl hK hP
  obtain ⟨hx, hb, hml, hown, hts, hr, hlocks⟩ := B
  have hl : lv_has ls 4 [(0, .ref (bd 0)), (1, .int (nI (A + q))), (2, .int (nI cv))] := hl
  have hS : va_S (xA 18 bd) s.heap s.heap [] := va_S.rf
  have hAd : ∀ k, k < 18 → xA 18 bd (bd k) := xA_in
  have hinX6 : ∀ w ∈ wsX60, w ∈ wsX6_readCourt := fun _ h => List.mem_cons_of_mem _ (List.mem_append_right _ h)
  have hF : CallFix p m c cX6_readCourt 4 s _ wsX6_readCourt RX6 := ⟨hx, hb, hml, hown, hts⟩
  have L2 : ∀ (n : Nat) (y : Nat) (T : xSt) (hy : y + n = cY cd) (hA : tAt cd q (4 + cv * (cY cd + 1) + y) (nyp (cC cd) (cY cd) cv y)) (hTat : T 0 15 = nI (A + (4 + cv * (cY cd + 1) + y))) (hT0 : (∀ j, j ≠ 15 → T 0 j = S 0 j)) (hTf : (∀ k, k ≠ 0 → k ≠ 11 → T k = S k)) (hof : (∀ j, (j < 6 * cv ∨ 6 * cv + 6 ≤ j) → T 11 j = S 11 j)) (hg2 : (∀ y', y' < y → T 11 (6 * cv + y') = nI (dg cd (gnP (cY cd) cv y')) ∧ dg cd (gnP (cY cd) cv y') ≤ 9)) (H : Heap) (locs : List Loc) (ls : Array Slot), va_P (dC, dI) vwCl (xW (mLy cI cZ bd) 18 bd T) H → va_S (xA 18 bd) s.heap H locs → lv_has ls 4 [(0, .ref (bd 0)), (1, .int (nI (A + q))), (2, .int (nI cv)), (3, .int (nI y))] → W p l e ({ frames := 2, cells := 0, slots := 0, locals := 45 }) s m ([.ref (bd 0), .int (nI (A + q)), .int (nI cv)] : List Value).toArray below meth c H locs 0 0 (MQ below (xQi (dC, dI) vwCl (mLy cI cZ bd) 18 bd (fun r S' => (r = 1 ∧ tAt cd q (3 + (cv + 1) * (cY cd + 1)) (nxp (cC cd) (cv + 1)) ∧ S' 0 15 = nI (A + (3 + (cv + 1) * (cY cd + 1))) ∧ (∀ j, j ≠ 15 → S' 0 j = S 0 j) ∧ (∀ k, k ≠ 0 → k ≠ 11 → S' k = S k) ∧ (∀ j, (j < 6 * cv ∨ 6 * cv + 6 ≤ j) → S' 11 j = S 11 j) ∧ (∀ y', y' < cY cd → S' 11 (6 * cv + y') = nI (dg cd (gnP (cY cd) cv y')) ∧ dg cd (gnP (cY cd) cv y') ≤ 9)) ∨ (r = 0 ∧ ∃ t, tBad cd q t ∧ S' 0 15 = nI (A + t) ∧ frmM S S'))) ([.ref (bd 0), .int (nI (A + q)), .int (nI cv)] : List Value).toArray s 0 0 (xA 18 bd)) (F0 m 2 ls []) := by
    intro n
    induction n with
    | zero =>
      intro y T hy hA hTat hT0 hTf hof hg2 H locs ls hP hS hl
      have hT17 : T 0 17 = nI (cY cd) := (hT0 17 (by decide)).trans hY0
      have hcT : ∀ u, u < q → T 3 (A + u) = cd u := fun u h => (congrFun (hTf 3 (by decide) (by decide)) _).trans (hcd u h)
      refine lv_iload_n hx hb dX6_readCourt_2 rfl (lv_at hl 3 rfl) ?_
      refine lv_aload_n hx hb dX6_readCourt_3 rfl (lv_at hl 0 rfl) ?_
      refine x_get (v := .int (nI (cY cd))) hx hb hts hinX6 hown hK hP 0 (by decide) rfl rfl 17 (by decide) (hts _ (List.mem_of_getElem? (i := 1) rfl)) (congrArg (fun z => some (Value.int z)) hT17) dX6_readCourt_4 ?_
      refine lv_icmp_ge (tgt := 53) hx hb dX6_readCourt_7 (by decide) (fun _ => ?_) (fun hc => absurd (nI_le (by omega) (by omega)) hc)
      refine lv_iconst (v := 1) hx hb dX6_readCourt_53 (by decide +kernel) ?_
      refine x_zret hx hb hr hlocks hP hS dX6_readCourt_54 (Or.inr rfl) ?_
      rw [nyp_out (by omega)] at hA
      obtain rfl : y = cY cd := by omega
      rw [pos_nx] at hA hTat
      exact Or.inl ⟨rfl, hA, hTat, hT0, hTf, hof, hg2⟩
    | succ n ih =>
      intro y T hy hA hTat hT0 hTf hof hg2 H locs ls hP hS hl
      have hT17 : T 0 17 = nI (cY cd) := (hT0 17 (by decide)).trans hY0
      have hcT : ∀ u, u < q → T 3 (A + u) = cd u := fun u h => (congrFun (hTf 3 (by decide) (by decide)) _).trans (hcd u h)
      rw [nyp_in (by omega)] at hA
      refine lv_iload_n hx hb dX6_readCourt_2 rfl (lv_at hl 3 rfl) ?_
      refine lv_aload_n hx hb dX6_readCourt_3 rfl (lv_at hl 0 rfl) ?_
      refine x_get (v := .int (nI (cY cd))) hx hb hts hinX6 hown hK hP 0 (by decide) rfl rfl 17 (by decide) (hts _ (List.mem_of_getElem? (i := 1) rfl)) (congrArg (fun z => some (Value.int z)) hT17) dX6_readCourt_4 ?_
      refine lv_icmp_ge (tgt := 53) hx hb dX6_readCourt_7 (by decide) (fun hc => absurd hc (nI_ge (by omega) (by omega))) (fun _ => ?_)
      refine lv_aload_n hx hb dX6_readCourt_10 rfl (lv_at hl 0 rfl) ?_
      refine x_get (v := .ref (bd 11)) hx hb hts hinX6 hown hK hP 0 (by decide) rfl rfl 19 (by decide) (hts _ (List.mem_of_getElem? (i := 2) rfl)) rfl dX6_readCourt_11 ?_
      refine lv_bipush (v := 6) hx hb dX6_readCourt_14 (by decide +kernel) ?_
      refine lv_iload_n hx hb dX6_readCourt_16 rfl (lv_at hl 2 rfl) ?_
      refine lv_imul hx hb dX6_readCourt_17 ?_
      refine lv_iload_n hx hb dX6_readCourt_18 rfl (lv_at hl 3 rfl) ?_
      refine lv_iadd hx hb dX6_readCourt_19 ?_
      refine lv_aload_n hx hb dX6_readCourt_20 rfl (lv_at hl 0 rfl) ?_
      refine lv_iload_n hx hb dX6_readCourt_21 rfl (lv_at hl 1 rfl) ?_
      refine lv_iconst (v := 0) hx hb dX6_readCourt_22 (by decide +kernel) ?_
      refine lv_bipush (v := 9) hx hb dX6_readCourt_23 (by decide +kernel) ?_
      refine x_calli (x_runV (As := [.int (nI (A + q)), .int 0, .int 9]) (rest := [.int ((6 * (nI cv)) + (nI y)), .ref (bd 11)]) hF (c6_digit hI T A q (4 + cv * (cY cd + 1) + y) hTat hA.1.le hAq 0 9) (cwV 3 hts gX6_readCourt_X6_digit rfl rfl rfl (by decide +kernel) ⟨Nat.le_of_ble_eq_true rfl, Nat.le_of_ble_eq_true rfl⟩) hK hP (by decide) rfl rfl rfl hl.1 rfl (Nat.le_of_ble_eq_true rfl) dX6_readCourt_25 ⟨Nat.zero_le _, Nat.zero_le _⟩) hS hAd (fun r25 S25 H locs hw hP _ hS => ?_)
      obtain ⟨hw, eS25⟩ := hw
      by_cases q25 : tko q (4 + cv * (cY cd + 1) + y) (T 3 (A + (4 + cv * (cY cd + 1) + y))) (48 + 0) (48 + 9) = true
      · have eS25 : S25 = (su T 0 15 (nI (A + (4 + cv * (cY cd + 1) + y) + 1))) := eS25.trans (if_pos q25)
        rw [eS25] at hP
        have hw : r25 = T 3 (A + (4 + cv * (cY cd + 1) + y)) - 48 := hw.trans (if_pos q25)
        subst hw
        have hA25 : tAt cd q (4 + cv * (cY cd + 1) + (y + 1)) (nyp (cC cd) (cY cd) cv (y + 1)) := by rw [← nx_nyp]; exact hA.step (tko_t q25).1 (by rw [okp4, ← hcT _ (tko_t q25).1]; exact (tko_t q25).2)
        have hd := dg_ok (cd := cd) (t := 4 + cv * (cY cd + 1) + y) (b := 9) (by decide) (by rw [← hcT _ (tko_t q25).1]; exact (tko_t q25).2)
        rw [hcT _ (tko_t q25).1, hd.2.2]
        refine x_iast hx hb hK hI hAd hP hS 11 0 (by decide) (fun _ => rfl) rfl (6 * cv + y) (ix6 _ _) (by omega) (by decide) dX6_readCourt_28 (fun H locs hP hS => ?_)
        refine lv_aload_n hx hb dX6_readCourt_29 rfl (lv_at hl 0 rfl) ?_
        refine x_get (v := .ref (bd 11)) hx hb hts hinX6 hown hK hP 0 (by decide) rfl rfl 19 (by decide) (hts _ (List.mem_of_getElem? (i := 2) rfl)) rfl dX6_readCourt_30 ?_
        refine lv_bipush (v := 6) hx hb dX6_readCourt_33 (by decide +kernel) ?_
        refine lv_iload_n hx hb dX6_readCourt_35 rfl (lv_at hl 2 rfl) ?_
        refine lv_imul hx hb dX6_readCourt_36 ?_
        refine lv_iload_n hx hb dX6_readCourt_37 rfl (lv_at hl 3 rfl) ?_
        refine lv_iadd hx hb dX6_readCourt_38 ?_
        refine x_iald (v := nI (dg cd (4 + cv * (cY cd + 1) + y))) hx hb hK hP 11 0 (by decide) rfl rfl (6 * cv + y) (ix6 _ _) (by omega) (by decide) (su_at _ _ _ _) dX6_readCourt_39 ?_
        refine lv_bipush (v := (-9)) hx hb dX6_readCourt_40 (by decide +kernel) ?_
        refine lv_icmp_ne (tgt := 47) hx hb dX6_readCourt_42 (by decide) (fun _ => ?_) (fun hc => absurd hc (nI_ne9 (by omega)))
        refine lv_iinc (v := nI (y + 1)) (lv' := [(3, .int (nI (y + 1))), (0, .ref (bd 0)), (1, .int (nI (A + q))), (2, .int (nI cv))]) hx hb dX6_readCourt_47 hl (k := 3) rfl (nI_1 _) (by decide) rfl (fun ls hl => ?_)
        refine lv_goto (tgt := 2) hx hb dX6_readCourt_50 (by decide) ?_
        exact ih (y + 1) (su (su T 0 15 (nI (A + (4 + cv * (cY cd + 1) + y) + 1))) 11 (6 * cv + y) (nI (dg cd (4 + cv * (cY cd + 1) + y)))) (by omega) hA25 rfl (fun j h => (congrFun (su_ne (by decide)) j).trans ((congrFun (su_self _ _ _ _) j).trans ((upd_off h).trans (hT0 j h)))) (fun k h1 h2 => (su_ne h2).trans ((su_ne h1).trans (hTf k h1 h2))) (fun j h => by rw [su_self, upd_off (by omega)]; exact hof j h) (fun y' h => by rw [su_self]; rcases Nat.lt_or_ge y' y with z | z; rw [upd_off (by omega)]; exact hg2 y' z; rw [show y' = y by omega, upd_at]; exact ⟨rfl, hd.1⟩) H locs ls hP hS (lv_sub hl [1, 2, 3, 0] rfl)
      · have eS25 : S25 = T := eS25.trans (if_neg q25)
        rw [eS25] at hP
        have hw : r25 = -9 := hw.trans (if_neg q25)
        subst hw
        have hB := hA.bad (fun z => tko_f q25 ⟨z.1, by have z2 := z.2; rw [okp4, ← hcT _ z.1] at z2; exact z2⟩) (fun _ s hs z => by simp at z)
        refine x_iast hx hb hK hI hAd hP hS 11 0 (by decide) (fun _ => rfl) rfl (6 * cv + y) (ix6 _ _) (by omega) (by decide) dX6_readCourt_28 (fun H locs hP hS => ?_)
        refine lv_aload_n hx hb dX6_readCourt_29 rfl (lv_at hl 0 rfl) ?_
        refine x_get (v := .ref (bd 11)) hx hb hts hinX6 hown hK hP 0 (by decide) rfl rfl 19 (by decide) (hts _ (List.mem_of_getElem? (i := 2) rfl)) rfl dX6_readCourt_30 ?_
        refine lv_bipush (v := 6) hx hb dX6_readCourt_33 (by decide +kernel) ?_
        refine lv_iload_n hx hb dX6_readCourt_35 rfl (lv_at hl 2 rfl) ?_
        refine lv_imul hx hb dX6_readCourt_36 ?_
        refine lv_iload_n hx hb dX6_readCourt_37 rfl (lv_at hl 3 rfl) ?_
        refine lv_iadd hx hb dX6_readCourt_38 ?_
        refine x_iald (v := (-9)) hx hb hK hP 11 0 (by decide) rfl rfl (6 * cv + y) (ix6 _ _) (by omega) (by decide) (su_at _ _ _ _) dX6_readCourt_39 ?_
        refine lv_bipush (v := (-9)) hx hb dX6_readCourt_40 (by decide +kernel) ?_
        refine lv_icmp_ne (tgt := 47) hx hb dX6_readCourt_42 (by decide) (fun hc => absurd (by decide) hc) (fun _ => ?_)
        refine lv_iconst (v := 0) hx hb dX6_readCourt_45 (by decide +kernel) ?_
        refine x_zret hx hb hr hlocks hP hS dX6_readCourt_46 (Or.inl rfl) ?_
        exact Or.inr ⟨rfl, _, hB, (congrFun (su_ne (by decide)) 15).trans hTat, (frmM.row ⟨fun k a b _ => hTf k a b, fun j a _ _ _ => hT0 j a⟩ 11 _ _ (Or.inl rfl))⟩
  refine lv_iconst (v := 0) hx hb dX6_readCourt_0 (by decide +kernel) ?_
  refine lv_istore_n (lv' := [(3, .int 0), (0, .ref (bd 0)), (1, .int (nI (A + q))), (2, .int (nI cv))]) hx hb dX6_readCourt_1 rfl hl (by decide) rfl (fun ls hl => ?_)
  exact L2 (cY cd) 0 S (Nat.zero_add _) (by rw [nyp_in (by omega)]; exact hA0) hat (fun _ _ => rfl) (fun _ _ _ => rfl) (fun _ _ => rfl) (fun y' h => absurd h (Nat.not_lt_zero _)) _ _ ls hP hS (lv_sub hl [1, 2, 3, 0] rfl)

set_option maxHeartbeats 4000000 in
set_option maxRecDepth 100000 in
theorem c6_readSon (hI : xI 18 bd) (S : xSt) (A q : Nat) (hAq : A + q ≤ 240) (cd : Nat → Int32) (hcd : ∀ u, u < q → S 3 (A + u) = cd u) (t mv : Nat) (hat : S 0 15 = nI (A + t)) (hmv : S 0 18 = nI mv) (hA : tAt cd q t (5, mv, 1)) (hs : mv < 5) (hC0 : S 0 16 = nI (cC cd)) (hC2 : 2 ≤ cC cd) (hC4 : cC cd ≤ 4) : xMi l yX6_readSon wsX6_readSon ({ frames := 2, cells := 0, slots := 0, locals := 45 }) (dC, dI) vwCl (tyl cI cZ cS cG) (mLy cI cZ bd) 18 bd [.ref (bd 0), .int (nI (A + q))] S (fun r S' => (r = 1 ∧ tAt cd q (t + 4) (5, mv + 1, 0) ∧ S' 0 15 = nI (A + (t + 4)) ∧ S' 0 18 = nI (mv + 1) ∧ S' 12 = upd (upd (upd (upd (S 12) (4 * mv) (kdv (cd t))) (4 * mv + 1) (nI (dg cd (t + 1)))) (4 * mv + 2) (nI (dg cd (t + 2)))) (4 * mv + 3) (nI (dg cd (t + 3))) ∧ (∀ k, k ≠ 0 → k ≠ 12 → S' k = S k) ∧ (∀ j, j ≠ 15 → j ≠ 18 → S' 0 j = S 0 j) ∧ dg cd (t + 1) < cC cd ∧ dg cd (t + 2) ≤ 9 ∧ dg cd (t + 3) ≤ 3) ∨ (r = 0 ∧ ∃ t', tBad cd q t' ∧ S' 0 15 = nI (A + t') ∧ frmM S S')) := by
  refine xM_of (cc := cX6_readSon) (nL := 5) (ret := (some .boolean)) (by decide) rfl (Nat.le_of_ble_eq_true rfl) ?_
  intro p e s m below meth c ls B hl hK hP
  obtain ⟨hx, hb, hml, hown, hts, hr, hlocks⟩ := B
  have hl : lv_has ls 5 [(0, .ref (bd 0)), (1, .int (nI (A + q)))] := hl
  have hS : va_S (xA 18 bd) s.heap s.heap [] := va_S.rf
  have hAd : ∀ k, k < 18 → xA 18 bd (bd k) := xA_in
  have hinX6 : ∀ w ∈ wsX60, w ∈ wsX6_readSon := fun _ h => List.mem_cons_of_mem _ (List.mem_append_right _ h)
  have hF : CallFix p m c cX6_readSon 5 s _ wsX6_readSon RX6 := ⟨hx, hb, hml, hown, hts⟩
  have htq := hA.1.le
  have L93 : ∀ (kv : Int32) (hA80 : tAt cd q (t + 1) (5, mv, 2)) (hk17 : kv = kdv (cd t)) (H : Heap) (locs : List Loc) (ls : Array Slot), va_P (dC, dI) vwCl (xW (mLy cI cZ bd) 18 bd (su (su S 12 (4 * mv) kv) 0 15 (nI (A + t + 1)))) H → va_S (xA 18 bd) s.heap H locs → lv_has ls 5 [(0, .ref (bd 0)), (1, .int (nI (A + q))), (2, .int (nI (4 * mv))), (4, .int 1)] → W p l e ({ frames := 2, cells := 0, slots := 0, locals := 45 }) s m ([.ref (bd 0), .int (nI (A + q))] : List Value).toArray below meth c H locs 0 0 (MQ below (xQi (dC, dI) vwCl (mLy cI cZ bd) 18 bd (fun r S' => (r = 1 ∧ tAt cd q (t + 4) (5, mv + 1, 0) ∧ S' 0 15 = nI (A + (t + 4)) ∧ S' 0 18 = nI (mv + 1) ∧ S' 12 = upd (upd (upd (upd (S 12) (4 * mv) (kdv (cd t))) (4 * mv + 1) (nI (dg cd (t + 1)))) (4 * mv + 2) (nI (dg cd (t + 2)))) (4 * mv + 3) (nI (dg cd (t + 3))) ∧ (∀ k, k ≠ 0 → k ≠ 12 → S' k = S k) ∧ (∀ j, j ≠ 15 → j ≠ 18 → S' 0 j = S 0 j) ∧ dg cd (t + 1) < cC cd ∧ dg cd (t + 2) ≤ 9 ∧ dg cd (t + 3) ≤ 3) ∨ (r = 0 ∧ ∃ t', tBad cd q t' ∧ S' 0 15 = nI (A + t') ∧ frmM S S'))) ([.ref (bd 0), .int (nI (A + q))] : List Value).toArray s 0 0 (xA 18 bd)) (F0 m 93 ls []) := by
    intro kv hA80 hk17 H locs ls hP hS hl
    refine lv_iload hx hb dX6_readSon_93 (lv_at hl 3 rfl) ?_
    refine lv_iconst (v := 4) hx hb dX6_readSon_95 (by decide +kernel) ?_
    refine lv_icmp_ge (tgt := 163) hx hb dX6_readSon_96 (by decide) (fun hc => absurd hc (by decide)) (fun _ => ?_)
    refine lv_aload_n hx hb dX6_readSon_99 rfl (lv_at hl 0 rfl) ?_
    refine x_get (v := .ref (bd 12)) hx hb hts hinX6 hown hK hP 0 (by decide) rfl rfl 20 (by decide) (hts _ (List.mem_of_getElem? (i := 4) rfl)) rfl dX6_readSon_100 ?_
    refine lv_iload_n hx hb dX6_readSon_103 rfl (lv_at hl 2 rfl) ?_
    refine lv_iload hx hb dX6_readSon_104 (lv_at hl 3 rfl) ?_
    refine lv_iadd hx hb dX6_readSon_106 ?_
    refine lv_aload_n hx hb dX6_readSon_107 rfl (lv_at hl 0 rfl) ?_
    refine lv_iload_n hx hb dX6_readSon_108 rfl (lv_at hl 1 rfl) ?_
    refine lv_iconst (v := 0) hx hb dX6_readSon_109 (by decide +kernel) ?_
    refine lv_iload hx hb dX6_readSon_110 (lv_at hl 3 rfl) ?_
    refine lv_iconst (v := 1) hx hb dX6_readSon_112 (by decide +kernel) ?_
    refine lv_icmp_ne (tgt := 125) hx hb dX6_readSon_113 (by decide) (fun hc => absurd (by decide) hc) (fun _ => ?_)
    refine lv_aload_n hx hb dX6_readSon_116 rfl (lv_at hl 0 rfl) ?_
    refine x_get (v := .int (nI (cC cd))) hx hb hts hinX6 hown hK hP 0 (by decide) rfl rfl 16 (by decide) (hts _ (List.mem_of_getElem? (i := 5) rfl)) (congrArg (fun z => some (Value.int z)) hC0) dX6_readSon_117 ?_
    refine lv_iconst (v := 1) hx hb dX6_readSon_120 (by decide +kernel) ?_
    refine lv_isub hx hb dX6_readSon_121 ?_
    refine lv_goto (tgt := 137) hx hb dX6_readSon_122 (by decide) ?_
    refine x_calli (x_runV (As := [.int (nI (A + q)), .int 0, .int ((nI (cC cd)) - 1)]) (rest := [.int ((nI (4 * mv)) + 1), .ref (bd 12)]) hF (c6_digit hI (su (su S 12 (4 * mv) kv) 0 15 (nI (A + t + 1))) A q (t + 1) rfl hA80.1.le hAq 0 ((nI (cC cd)) - 1)) (cwV 3 hts gX6_readSon_X6_digit rfl rfl rfl (by decide +kernel) ⟨Nat.le_of_ble_eq_true rfl, Nat.le_of_ble_eq_true rfl⟩) hK hP (by decide) rfl rfl rfl hl.1 rfl (Nat.le_of_ble_eq_true rfl) dX6_readSon_137 ⟨Nat.zero_le _, Nat.zero_le _⟩) hS hAd (fun r137 S137 H locs hw hP _ hS => ?_)
    rw [show (48 : Int32) + 0 = 48 from by decide +kernel, show 48 + (nI (cC cd) - 1) = (nI (47 + cC cd)) from fat_hiM (cC cd) hC2] at hw
    obtain ⟨hw, eS137⟩ := hw
    by_cases q137 : tko q (t + 1) (S 3 (A + (t + 1))) 48 (nI (47 + cC cd)) = true
    · have eS137 : S137 = (su (su (su S 12 (4 * mv) kv) 0 15 (nI (A + t + 1))) 0 15 (nI (A + (t + 1) + 1))) := eS137.trans (if_pos q137)
      rw [eS137] at hP
      have hw : r137 = S 3 (A + (t + 1)) - 48 := hw.trans (if_pos q137)
      subst hw
      have hA137 : tAt cd q (t + 1 + 1) (5, mv, 3) := hA80.step (tko_t q137).1 (by rw [okp52 hs, ← hcd _ (tko_t q137).1]; exact (tko_t q137).2)
      have hA137_1 := hA137
      have hf1 := dg_fat (cd := cd) (t := t + 1) hC2 hC4 (by rw [← hcd _ (tko_t q137).1]; exact (tko_t q137).2)
      rw [show S 3 (A + (t + 1)) - 48 = nI (dg cd (t + 1)) from (congrArg (fun z => z - 48) (hcd _ (tko_t q137).1)).trans hf1.2]
      refine x_iast hx hb hK hI hAd hP hS 12 0 (by decide) (fun _ => rfl) rfl (4 * mv + 1) (nI_add _ 1) (by omega) (by decide) dX6_readSon_140 (fun H locs hP hS => ?_)
      refine lv_aload_n hx hb dX6_readSon_141 rfl (lv_at hl 0 rfl) ?_
      refine x_get (v := .ref (bd 12)) hx hb hts hinX6 hown hK hP 0 (by decide) rfl rfl 20 (by decide) (hts _ (List.mem_of_getElem? (i := 4) rfl)) rfl dX6_readSon_142 ?_
      refine lv_iload_n hx hb dX6_readSon_145 rfl (lv_at hl 2 rfl) ?_
      refine lv_iload hx hb dX6_readSon_146 (lv_at hl 3 rfl) ?_
      refine lv_iadd hx hb dX6_readSon_148 ?_
      refine x_iald (v := nI (dg cd (t + 1))) hx hb hK hP 12 0 (by decide) rfl rfl (4 * mv + 1) (nI_add _ 1) (by omega) (by decide) (su_at _ _ _ _) dX6_readSon_149 ?_
      refine lv_bipush (v := (-9)) hx hb dX6_readSon_150 (by decide +kernel) ?_
      refine lv_icmp_ne (tgt := 157) hx hb dX6_readSon_152 (by decide) (fun _ => ?_) (fun hc => absurd hc (nI_ne9 (by omega)))
      refine lv_iinc (v := 2) (lv' := [(4, .int 2), (0, .ref (bd 0)), (1, .int (nI (A + q))), (2, .int (nI (4 * mv)))]) hx hb dX6_readSon_157 hl (k := 3) rfl (by decide +kernel) (by decide) rfl (fun ls hl => ?_)
      refine lv_goto (tgt := 93) hx hb dX6_readSon_160 (by decide) ?_
      refine lv_iload hx hb dX6_readSon_93 (lv_at hl 0 rfl) ?_
      refine lv_iconst (v := 4) hx hb dX6_readSon_95 (by decide +kernel) ?_
      refine lv_icmp_ge (tgt := 163) hx hb dX6_readSon_96 (by decide) (fun hc => absurd hc (by decide)) (fun _ => ?_)
      refine lv_aload_n hx hb dX6_readSon_99 rfl (lv_at hl 1 rfl) ?_
      refine x_get (v := .ref (bd 12)) hx hb hts hinX6 hown hK hP 0 (by decide) rfl rfl 20 (by decide) (hts _ (List.mem_of_getElem? (i := 4) rfl)) rfl dX6_readSon_100 ?_
      refine lv_iload_n hx hb dX6_readSon_103 rfl (lv_at hl 3 rfl) ?_
      refine lv_iload hx hb dX6_readSon_104 (lv_at hl 0 rfl) ?_
      refine lv_iadd hx hb dX6_readSon_106 ?_
      refine lv_aload_n hx hb dX6_readSon_107 rfl (lv_at hl 1 rfl) ?_
      refine lv_iload_n hx hb dX6_readSon_108 rfl (lv_at hl 2 rfl) ?_
      refine lv_iconst (v := 0) hx hb dX6_readSon_109 (by decide +kernel) ?_
      refine lv_iload hx hb dX6_readSon_110 (lv_at hl 0 rfl) ?_
      refine lv_iconst (v := 1) hx hb dX6_readSon_112 (by decide +kernel) ?_
      refine lv_icmp_ne (tgt := 125) hx hb dX6_readSon_113 (by decide) (fun _ => ?_) (fun hc => absurd hc (by decide))
      refine lv_iload hx hb dX6_readSon_125 (lv_at hl 0 rfl) ?_
      refine lv_iconst (v := 2) hx hb dX6_readSon_127 (by decide +kernel) ?_
      refine lv_icmp_ne (tgt := 136) hx hb dX6_readSon_128 (by decide) (fun hc => absurd (by decide) hc) (fun _ => ?_)
      refine lv_bipush (v := 9) hx hb dX6_readSon_131 (by decide +kernel) ?_
      refine lv_goto (tgt := 137) hx hb dX6_readSon_133 (by decide) ?_
      refine x_calli (x_runV (As := [.int (nI (A + q)), .int 0, .int 9]) (rest := [.int ((nI (4 * mv)) + 2), .ref (bd 12)]) hF (c6_digit hI (su (su (su (su S 12 (4 * mv) kv) 0 15 (nI (A + t + 1))) 0 15 (nI (A + (t + 1) + 1))) 12 (4 * mv + 1) (nI (dg cd (t + 1)))) A q (t + 1 + 1) rfl hA137_1.1.le hAq 0 9) (cwV 3 hts gX6_readSon_X6_digit rfl rfl rfl (by decide +kernel) ⟨Nat.le_of_ble_eq_true rfl, Nat.le_of_ble_eq_true rfl⟩) hK hP (by decide) rfl rfl rfl hl.1 rfl (Nat.le_of_ble_eq_true rfl) dX6_readSon_137 ⟨Nat.zero_le _, Nat.zero_le _⟩) hS hAd (fun r137 S137 H locs hw hP _ hS => ?_)
      rw [show (48 : Int32) + 0 = 48 from by decide +kernel, show (48 : Int32) + 9 = 57 from by decide +kernel] at hw
      obtain ⟨hw, eS137⟩ := hw
      by_cases q137 : tko q (t + 1 + 1) (S 3 (A + (t + 1 + 1))) 48 57 = true
      · have eS137 : S137 = (su (su (su (su (su S 12 (4 * mv) kv) 0 15 (nI (A + t + 1))) 0 15 (nI (A + (t + 1) + 1))) 12 (4 * mv + 1) (nI (dg cd (t + 1)))) 0 15 (nI (A + (t + 1 + 1) + 1))) := eS137.trans (if_pos q137)
        rw [eS137] at hP
        have hw : r137 = S 3 (A + (t + 1 + 1)) - 48 := hw.trans (if_pos q137)
        subst hw
        have hA137 : tAt cd q (t + 1 + 1 + 1) (5, mv, 4) := hA137_1.step (tko_t q137).1 (by rw [okp53 hs, ← hcd _ (tko_t q137).1]; exact (tko_t q137).2)
        have hA137_2 := hA137
        have hf2 := dg_ok (cd := cd) (t := t + 1 + 1) (b := 9) (by decide) (by rw [← hcd _ (tko_t q137).1]; exact (tko_t q137).2)
        rw [show S 3 (A + (t + 1 + 1)) - 48 = nI (dg cd (t + 1 + 1)) from (congrArg (fun z => z - 48) (hcd _ (tko_t q137).1)).trans hf2.2.2]
        refine x_iast hx hb hK hI hAd hP hS 12 0 (by decide) (fun _ => rfl) rfl (4 * mv + 2) (nI_add _ 2) (by omega) (by decide) dX6_readSon_140 (fun H locs hP hS => ?_)
        refine lv_aload_n hx hb dX6_readSon_141 rfl (lv_at hl 1 rfl) ?_
        refine x_get (v := .ref (bd 12)) hx hb hts hinX6 hown hK hP 0 (by decide) rfl rfl 20 (by decide) (hts _ (List.mem_of_getElem? (i := 4) rfl)) rfl dX6_readSon_142 ?_
        refine lv_iload_n hx hb dX6_readSon_145 rfl (lv_at hl 3 rfl) ?_
        refine lv_iload hx hb dX6_readSon_146 (lv_at hl 0 rfl) ?_
        refine lv_iadd hx hb dX6_readSon_148 ?_
        refine x_iald (v := nI (dg cd (t + 1 + 1))) hx hb hK hP 12 0 (by decide) rfl rfl (4 * mv + 2) (nI_add _ 2) (by omega) (by decide) (su_at _ _ _ _) dX6_readSon_149 ?_
        refine lv_bipush (v := (-9)) hx hb dX6_readSon_150 (by decide +kernel) ?_
        refine lv_icmp_ne (tgt := 157) hx hb dX6_readSon_152 (by decide) (fun _ => ?_) (fun hc => absurd hc (nI_ne9 (by omega)))
        refine lv_iinc (v := 3) (lv' := [(4, .int 3), (0, .ref (bd 0)), (1, .int (nI (A + q))), (2, .int (nI (4 * mv)))]) hx hb dX6_readSon_157 hl (k := 0) rfl (by decide +kernel) (by decide) rfl (fun ls hl => ?_)
        refine lv_goto (tgt := 93) hx hb dX6_readSon_160 (by decide) ?_
        refine lv_iload hx hb dX6_readSon_93 (lv_at hl 0 rfl) ?_
        refine lv_iconst (v := 4) hx hb dX6_readSon_95 (by decide +kernel) ?_
        refine lv_icmp_ge (tgt := 163) hx hb dX6_readSon_96 (by decide) (fun hc => absurd hc (by decide)) (fun _ => ?_)
        refine lv_aload_n hx hb dX6_readSon_99 rfl (lv_at hl 1 rfl) ?_
        refine x_get (v := .ref (bd 12)) hx hb hts hinX6 hown hK hP 0 (by decide) rfl rfl 20 (by decide) (hts _ (List.mem_of_getElem? (i := 4) rfl)) rfl dX6_readSon_100 ?_
        refine lv_iload_n hx hb dX6_readSon_103 rfl (lv_at hl 3 rfl) ?_
        refine lv_iload hx hb dX6_readSon_104 (lv_at hl 0 rfl) ?_
        refine lv_iadd hx hb dX6_readSon_106 ?_
        refine lv_aload_n hx hb dX6_readSon_107 rfl (lv_at hl 1 rfl) ?_
        refine lv_iload_n hx hb dX6_readSon_108 rfl (lv_at hl 2 rfl) ?_
        refine lv_iconst (v := 0) hx hb dX6_readSon_109 (by decide +kernel) ?_
        refine lv_iload hx hb dX6_readSon_110 (lv_at hl 0 rfl) ?_
        refine lv_iconst (v := 1) hx hb dX6_readSon_112 (by decide +kernel) ?_
        refine lv_icmp_ne (tgt := 125) hx hb dX6_readSon_113 (by decide) (fun _ => ?_) (fun hc => absurd hc (by decide))
        refine lv_iload hx hb dX6_readSon_125 (lv_at hl 0 rfl) ?_
        refine lv_iconst (v := 2) hx hb dX6_readSon_127 (by decide +kernel) ?_
        refine lv_icmp_ne (tgt := 136) hx hb dX6_readSon_128 (by decide) (fun _ => ?_) (fun hc => absurd hc (by decide))
        refine lv_iconst (v := 3) hx hb dX6_readSon_136 (by decide +kernel) ?_
        refine x_calli (x_runV (As := [.int (nI (A + q)), .int 0, .int 3]) (rest := [.int ((nI (4 * mv)) + 3), .ref (bd 12)]) hF (c6_digit hI (su (su (su (su (su (su S 12 (4 * mv) kv) 0 15 (nI (A + t + 1))) 0 15 (nI (A + (t + 1) + 1))) 12 (4 * mv + 1) (nI (dg cd (t + 1)))) 0 15 (nI (A + (t + 1 + 1) + 1))) 12 (4 * mv + 2) (nI (dg cd (t + 1 + 1)))) A q (t + 1 + 1 + 1) rfl hA137_2.1.le hAq 0 3) (cwV 3 hts gX6_readSon_X6_digit rfl rfl rfl (by decide +kernel) ⟨Nat.le_of_ble_eq_true rfl, Nat.le_of_ble_eq_true rfl⟩) hK hP (by decide) rfl rfl rfl hl.1 rfl (Nat.le_of_ble_eq_true rfl) dX6_readSon_137 ⟨Nat.zero_le _, Nat.zero_le _⟩) hS hAd (fun r137 S137 H locs hw hP _ hS => ?_)
        rw [show (48 : Int32) + 0 = 48 from by decide +kernel, show (48 : Int32) + 3 = 51 from by decide +kernel] at hw
        obtain ⟨hw, eS137⟩ := hw
        by_cases q137 : tko q (t + 1 + 1 + 1) (S 3 (A + (t + 1 + 1 + 1))) 48 51 = true
        · have eS137 : S137 = (su (su (su (su (su (su (su S 12 (4 * mv) kv) 0 15 (nI (A + t + 1))) 0 15 (nI (A + (t + 1) + 1))) 12 (4 * mv + 1) (nI (dg cd (t + 1)))) 0 15 (nI (A + (t + 1 + 1) + 1))) 12 (4 * mv + 2) (nI (dg cd (t + 1 + 1)))) 0 15 (nI (A + (t + 1 + 1 + 1) + 1))) := eS137.trans (if_pos q137)
          rw [eS137] at hP
          have hw : r137 = S 3 (A + (t + 1 + 1 + 1)) - 48 := hw.trans (if_pos q137)
          subst hw
          have hA137 : tAt cd q (t + 1 + 1 + 1 + 1) (5, mv + 1, 0) := hA137_2.step (tko_t q137).1 (by rw [okp54 hs, ← hcd _ (tko_t q137).1]; exact (tko_t q137).2)
          have hA137_3 := hA137
          have hf3 := dg_ok (cd := cd) (t := t + 1 + 1 + 1) (b := 3) (by decide) (by rw [← hcd _ (tko_t q137).1]; exact (tko_t q137).2)
          rw [show S 3 (A + (t + 1 + 1 + 1)) - 48 = nI (dg cd (t + 1 + 1 + 1)) from (congrArg (fun z => z - 48) (hcd _ (tko_t q137).1)).trans hf3.2.2]
          refine x_iast hx hb hK hI hAd hP hS 12 0 (by decide) (fun _ => rfl) rfl (4 * mv + 3) (nI_add _ 3) (by omega) (by decide) dX6_readSon_140 (fun H locs hP hS => ?_)
          refine lv_aload_n hx hb dX6_readSon_141 rfl (lv_at hl 1 rfl) ?_
          refine x_get (v := .ref (bd 12)) hx hb hts hinX6 hown hK hP 0 (by decide) rfl rfl 20 (by decide) (hts _ (List.mem_of_getElem? (i := 4) rfl)) rfl dX6_readSon_142 ?_
          refine lv_iload_n hx hb dX6_readSon_145 rfl (lv_at hl 3 rfl) ?_
          refine lv_iload hx hb dX6_readSon_146 (lv_at hl 0 rfl) ?_
          refine lv_iadd hx hb dX6_readSon_148 ?_
          refine x_iald (v := nI (dg cd (t + 1 + 1 + 1))) hx hb hK hP 12 0 (by decide) rfl rfl (4 * mv + 3) (nI_add _ 3) (by omega) (by decide) (su_at _ _ _ _) dX6_readSon_149 ?_
          refine lv_bipush (v := (-9)) hx hb dX6_readSon_150 (by decide +kernel) ?_
          refine lv_icmp_ne (tgt := 157) hx hb dX6_readSon_152 (by decide) (fun _ => ?_) (fun hc => absurd hc (nI_ne9 (by omega)))
          refine lv_iinc (v := 4) (lv' := [(4, .int 4), (0, .ref (bd 0)), (1, .int (nI (A + q))), (2, .int (nI (4 * mv)))]) hx hb dX6_readSon_157 hl (k := 0) rfl (by decide +kernel) (by decide) rfl (fun ls hl => ?_)
          refine lv_goto (tgt := 93) hx hb dX6_readSon_160 (by decide) ?_
          refine lv_iload hx hb dX6_readSon_93 (lv_at hl 0 rfl) ?_
          refine lv_iconst (v := 4) hx hb dX6_readSon_95 (by decide +kernel) ?_
          refine lv_icmp_ge (tgt := 163) hx hb dX6_readSon_96 (by decide) (fun _ => ?_) (fun hc => absurd (by decide) hc)
          obtain ⟨U, eU⟩ : ∃ z, z = (su (su (su (su (su (su (su (su S 12 (4 * mv) kv) 0 15 (nI (A + t + 1))) 0 15 (nI (A + (t + 1) + 1))) 12 (4 * mv + 1) (nI (dg cd (t + 1)))) 0 15 (nI (A + (t + 1 + 1) + 1))) 12 (4 * mv + 2) (nI (dg cd (t + 1 + 1)))) 0 15 (nI (A + (t + 1 + 1 + 1) + 1))) 12 (4 * mv + 3) (nI (dg cd (t + 1 + 1 + 1)))) := ⟨_, rfl⟩
          rw [← eU] at hP
          have u18 : U 0 18 = nI mv := by rw [eU]; exact hmv
          refine lv_aload_n hx hb dX6_readSon_163 rfl (lv_at hl 1 rfl) ?_
          refine lv_dup hx hb dX6_readSon_164 rfl ?_
          refine x_get (v := .int (nI mv)) hx hb hts hinX6 hown hK hP 0 (by decide) rfl rfl 18 (by decide) (hts _ (List.mem_of_getElem? (i := 1) rfl)) (congrArg (fun z => some (Value.int z)) u18) dX6_readSon_165 ?_
          refine lv_iconst (v := 1) hx hb dX6_readSon_168 (by decide +kernel) ?_
          refine lv_iadd hx hb dX6_readSon_169 ?_
          refine x_put hx hb hts hinX6 tyX6 tyX6_ok nmX6 hown hK hI hAd hP hS 0 (by decide) rfl rfl 18 (by decide) (hts _ (List.mem_of_getElem? (i := 1) rfl)) rfl (upd (U 0) 18 ((nI mv) + 1)) rfl rfl rfl (Nat.le_of_ble_eq_true rfl) dX6_readSon_170 (fun H locs hP hS => ?_)
          have hP : va_P (dC, dI) vwCl (xW (mLy cI cZ bd) 18 bd (su U 0 18 ((nI mv) + 1))) H := hP
          refine lv_iconst (v := 1) hx hb dX6_readSon_173 (by decide +kernel) ?_
          refine x_zret hx hb hr hlocks hP hS dX6_readSon_174 (Or.inr rfl) ?_
          have u15 : U 0 15 = nI (A + (t + 4)) := by rw [eU]; rfl
          have u12 : U 12 = upd (upd (upd (upd (S 12) (4 * mv) (kdv (cd t))) (4 * mv + 1) (nI (dg cd (t + 1)))) (4 * mv + 2) (nI (dg cd (t + 2)))) (4 * mv + 3) (nI (dg cd (t + 3))) := by rw [eU, ← hk17]; rfl
          have uf : ∀ k, k ≠ 0 → k ≠ 12 → U k = S k := fun k a c => by rw [eU]; simp only [su_ne a, su_ne c]
          have u0 : ∀ j, j ≠ 15 → U 0 j = S 0 j := fun j a => by rw [eU]; simp only [su_self, su_ne (show (0 : Nat) ≠ 12 by decide), upd_off a]
          exact Or.inl ⟨rfl, hA137_3, (congrFun (su_self _ _ _ _) 15).trans u15, (su_at _ _ _ _).trans (nI_1 mv), (su_ne (by decide)).trans u12, fun k a c => (su_ne a).trans (uf k a c), fun j a b => (congrFun (su_self _ _ _ _) j).trans ((upd_off b).trans (u0 j a)), hf1.1, hf2.1, hf3.1⟩
        · have eS137 : S137 = (su (su (su (su (su (su S 12 (4 * mv) kv) 0 15 (nI (A + t + 1))) 0 15 (nI (A + (t + 1) + 1))) 12 (4 * mv + 1) (nI (dg cd (t + 1)))) 0 15 (nI (A + (t + 1 + 1) + 1))) 12 (4 * mv + 2) (nI (dg cd (t + 1 + 1)))) := eS137.trans (if_neg q137)
          rw [eS137] at hP
          have hw : r137 = -9 := hw.trans (if_neg q137)
          subst hw
          have hB := hA137_2.bad (fun z => tko_f q137 ⟨z.1, by have z2 := z.2; rw [okp54 hs, ← hcd _ z.1] at z2; exact z2⟩) (fun _ s hs z => by simp at z)
          refine x_iast hx hb hK hI hAd hP hS 12 0 (by decide) (fun _ => rfl) rfl (4 * mv + 3) (nI_add _ 3) (by omega) (by decide) dX6_readSon_140 (fun H locs hP hS => ?_)
          refine lv_aload_n hx hb dX6_readSon_141 rfl (lv_at hl 1 rfl) ?_
          refine x_get (v := .ref (bd 12)) hx hb hts hinX6 hown hK hP 0 (by decide) rfl rfl 20 (by decide) (hts _ (List.mem_of_getElem? (i := 4) rfl)) rfl dX6_readSon_142 ?_
          refine lv_iload_n hx hb dX6_readSon_145 rfl (lv_at hl 3 rfl) ?_
          refine lv_iload hx hb dX6_readSon_146 (lv_at hl 0 rfl) ?_
          refine lv_iadd hx hb dX6_readSon_148 ?_
          refine x_iald (v := (-9)) hx hb hK hP 12 0 (by decide) rfl rfl (4 * mv + 3) (nI_add _ 3) (by omega) (by decide) (su_at _ _ _ _) dX6_readSon_149 ?_
          refine lv_bipush (v := (-9)) hx hb dX6_readSon_150 (by decide +kernel) ?_
          refine lv_icmp_ne (tgt := 157) hx hb dX6_readSon_152 (by decide) (fun hc => absurd (by decide) hc) (fun _ => ?_)
          refine lv_iconst (v := 0) hx hb dX6_readSon_155 (by decide +kernel) ?_
          refine x_zret hx hb hr hlocks hP hS dX6_readSon_156 (Or.inl rfl) ?_
          exact Or.inr ⟨rfl, _, hB, rfl, (((((((frmM.rf.row 12 _ _ (Or.inr rfl)).at 15 _ (Or.inl rfl)).at 15 _ (Or.inl rfl)).row 12 _ _ (Or.inr rfl)).at 15 _ (Or.inl rfl)).row 12 _ _ (Or.inr rfl)).row 12 _ _ (Or.inr rfl))⟩
      · have eS137 : S137 = (su (su (su (su S 12 (4 * mv) kv) 0 15 (nI (A + t + 1))) 0 15 (nI (A + (t + 1) + 1))) 12 (4 * mv + 1) (nI (dg cd (t + 1)))) := eS137.trans (if_neg q137)
        rw [eS137] at hP
        have hw : r137 = -9 := hw.trans (if_neg q137)
        subst hw
        have hB := hA137_1.bad (fun z => tko_f q137 ⟨z.1, by have z2 := z.2; rw [okp53 hs, ← hcd _ z.1] at z2; exact z2⟩) (fun _ s hs z => by simp at z)
        refine x_iast hx hb hK hI hAd hP hS 12 0 (by decide) (fun _ => rfl) rfl (4 * mv + 2) (nI_add _ 2) (by omega) (by decide) dX6_readSon_140 (fun H locs hP hS => ?_)
        refine lv_aload_n hx hb dX6_readSon_141 rfl (lv_at hl 1 rfl) ?_
        refine x_get (v := .ref (bd 12)) hx hb hts hinX6 hown hK hP 0 (by decide) rfl rfl 20 (by decide) (hts _ (List.mem_of_getElem? (i := 4) rfl)) rfl dX6_readSon_142 ?_
        refine lv_iload_n hx hb dX6_readSon_145 rfl (lv_at hl 3 rfl) ?_
        refine lv_iload hx hb dX6_readSon_146 (lv_at hl 0 rfl) ?_
        refine lv_iadd hx hb dX6_readSon_148 ?_
        refine x_iald (v := (-9)) hx hb hK hP 12 0 (by decide) rfl rfl (4 * mv + 2) (nI_add _ 2) (by omega) (by decide) (su_at _ _ _ _) dX6_readSon_149 ?_
        refine lv_bipush (v := (-9)) hx hb dX6_readSon_150 (by decide +kernel) ?_
        refine lv_icmp_ne (tgt := 157) hx hb dX6_readSon_152 (by decide) (fun hc => absurd (by decide) hc) (fun _ => ?_)
        refine lv_iconst (v := 0) hx hb dX6_readSon_155 (by decide +kernel) ?_
        refine x_zret hx hb hr hlocks hP hS dX6_readSon_156 (Or.inl rfl) ?_
        exact Or.inr ⟨rfl, _, hB, rfl, (((((frmM.rf.row 12 _ _ (Or.inr rfl)).at 15 _ (Or.inl rfl)).at 15 _ (Or.inl rfl)).row 12 _ _ (Or.inr rfl)).row 12 _ _ (Or.inr rfl))⟩
    · have eS137 : S137 = (su (su S 12 (4 * mv) kv) 0 15 (nI (A + t + 1))) := eS137.trans (if_neg q137)
      rw [eS137] at hP
      have hw : r137 = -9 := hw.trans (if_neg q137)
      subst hw
      have hB := hA80.bad (fun z => tko_f q137 ⟨z.1, by have z2 := z.2; rw [okp52 hs, ← hcd _ z.1] at z2; exact z2⟩) (fun _ s hs z => by simp at z)
      refine x_iast hx hb hK hI hAd hP hS 12 0 (by decide) (fun _ => rfl) rfl (4 * mv + 1) (nI_add _ 1) (by omega) (by decide) dX6_readSon_140 (fun H locs hP hS => ?_)
      refine lv_aload_n hx hb dX6_readSon_141 rfl (lv_at hl 0 rfl) ?_
      refine x_get (v := .ref (bd 12)) hx hb hts hinX6 hown hK hP 0 (by decide) rfl rfl 20 (by decide) (hts _ (List.mem_of_getElem? (i := 4) rfl)) rfl dX6_readSon_142 ?_
      refine lv_iload_n hx hb dX6_readSon_145 rfl (lv_at hl 2 rfl) ?_
      refine lv_iload hx hb dX6_readSon_146 (lv_at hl 3 rfl) ?_
      refine lv_iadd hx hb dX6_readSon_148 ?_
      refine x_iald (v := (-9)) hx hb hK hP 12 0 (by decide) rfl rfl (4 * mv + 1) (nI_add _ 1) (by omega) (by decide) (su_at _ _ _ _) dX6_readSon_149 ?_
      refine lv_bipush (v := (-9)) hx hb dX6_readSon_150 (by decide +kernel) ?_
      refine lv_icmp_ne (tgt := 157) hx hb dX6_readSon_152 (by decide) (fun hc => absurd (by decide) hc) (fun _ => ?_)
      refine lv_iconst (v := 0) hx hb dX6_readSon_155 (by decide +kernel) ?_
      refine x_zret hx hb hr hlocks hP hS dX6_readSon_156 (Or.inl rfl) ?_
      exact Or.inr ⟨rfl, _, hB, rfl, (((frmM.rf.row 12 _ _ (Or.inr rfl)).at 15 _ (Or.inl rfl)).row 12 _ _ (Or.inr rfl))⟩
  refine lv_iconst (v := 4) hx hb dX6_readSon_0 (by decide +kernel) ?_
  refine lv_aload_n hx hb dX6_readSon_1 rfl (lv_at hl 0 rfl) ?_
  refine x_get (v := .int (nI mv)) hx hb hts hinX6 hown hK hP 0 (by decide) rfl rfl 18 (by decide) (hts _ (List.mem_of_getElem? (i := 1) rfl)) (congrArg (fun z => some (Value.int z)) hmv) dX6_readSon_2 ?_
  refine lv_imul hx hb dX6_readSon_5 ?_
  refine lv_topi (fun x6 ex6 => ?_)
  obtain rfl : x6 = nI (4 * mv) := by rw [ex6]; exact pk_mul 4 mv
  refine lv_istore_n (lv' := [(2, .int (nI (4 * mv))), (0, .ref (bd 0)), (1, .int (nI (A + q)))]) hx hb dX6_readSon_6 rfl hl (by decide) rfl (fun ls hl => ?_)
  refine lv_aload_n hx hb dX6_readSon_7 rfl (lv_at hl 1 rfl) ?_
  refine x_get (v := .int (nI (A + t))) hx hb hts hinX6 hown hK hP 0 (by decide) rfl rfl 15 (by decide) (hts _ (List.mem_of_getElem? (i := 2) rfl)) (congrArg (fun z => some (Value.int z)) hat) dX6_readSon_8 ?_
  refine lv_iload_n hx hb dX6_readSon_11 rfl (lv_at hl 2 rfl) ?_
  refine lv_icmp_ge (tgt := 27) hx hb dX6_readSon_12 (by decide) (fun c12 => ?_) (fun c12 => ?_)
  · have d12 := Int32.not_lt.mpr c12
    have ht2 : ¬ t < q := by have := (nI_leI (by omega) (by omega)).mp c12; omega
    refine lv_iconst (v := 0) hx hb dX6_readSon_27 (by decide +kernel) ?_
    refine lv_istore_n (lv' := [(3, .int 0), (2, .int (nI (4 * mv))), (0, .ref (bd 0)), (1, .int (nI (A + q)))]) hx hb dX6_readSon_28 rfl hl (by decide) rfl (fun ls hl => ?_)
    refine lv_aload_n hx hb dX6_readSon_29 rfl (lv_at hl 2 rfl) ?_
    refine x_get (v := .ref (bd 12)) hx hb hts hinX6 hown hK hP 0 (by decide) rfl rfl 20 (by decide) (hts _ (List.mem_of_getElem? (i := 4) rfl)) rfl dX6_readSon_30 ?_
    refine lv_iload_n hx hb dX6_readSon_33 rfl (lv_at hl 1 rfl) ?_
    refine lv_iload_n hx hb dX6_readSon_34 rfl (lv_at hl 0 rfl) ?_
    refine lv_bipush (v := 115) hx hb dX6_readSon_35 (by decide +kernel) ?_
    refine lv_icmp_ne (tgt := 44) hx hb dX6_readSon_37 (by decide) (fun _ => ?_) (fun hc => absurd hc (by decide))
    refine lv_iload_n hx hb dX6_readSon_44 rfl (lv_at hl 0 rfl) ?_
    refine lv_bipush (v := 104) hx hb dX6_readSon_45 (by decide +kernel) ?_
    refine lv_icmp_ne (tgt := 54) hx hb dX6_readSon_47 (by decide) (fun _ => ?_) (fun hc => absurd hc (by decide))
    refine lv_iload_n hx hb dX6_readSon_54 rfl (lv_at hl 0 rfl) ?_
    refine lv_bipush (v := 112) hx hb dX6_readSon_55 (by decide +kernel) ?_
    refine lv_icmp_ne (tgt := 64) hx hb dX6_readSon_57 (by decide) (fun _ => ?_) (fun hc => absurd hc (by decide))
    refine lv_bipush (v := (-9)) hx hb dX6_readSon_64 (by decide +kernel) ?_
    refine x_iast hx hb hK hI hAd hP hS 12 0 (by decide) (fun _ => rfl) rfl (4 * mv) rfl (by omega) (by decide) dX6_readSon_66 (fun H locs hP hS => ?_)
    refine lv_aload_n hx hb dX6_readSon_67 rfl (lv_at hl 2 rfl) ?_
    refine x_get (v := .ref (bd 12)) hx hb hts hinX6 hown hK hP 0 (by decide) rfl rfl 20 (by decide) (hts _ (List.mem_of_getElem? (i := 4) rfl)) rfl dX6_readSon_68 ?_
    refine lv_iload_n hx hb dX6_readSon_71 rfl (lv_at hl 1 rfl) ?_
    refine x_iald (v := (-9)) hx hb hK hP 12 0 (by decide) rfl rfl (4 * mv) rfl (by omega) (by decide) (su_at _ _ _ _) dX6_readSon_72 ?_
    refine lv_bipush (v := (-9)) hx hb dX6_readSon_73 (by decide +kernel) ?_
    refine lv_icmp_ne (tgt := 80) hx hb dX6_readSon_75 (by decide) (fun hc => absurd (by decide) hc) (fun _ => ?_)
    have hB := hA.bad (fun z => ht2 z.1) (fun _ s hs z => by simp at z)
    refine lv_iconst (v := 0) hx hb dX6_readSon_78 (by decide +kernel) ?_
    refine x_zret hx hb hr hlocks hP hS dX6_readSon_79 (Or.inl rfl) ?_
    exact Or.inr ⟨rfl, _, hB, hat, frmM.rf.row 12 _ _ (Or.inr rfl)⟩
  · have d12 := Int32.not_le.mp c12
    have ht1 : t < q := by rcases Nat.lt_or_ge t q with z | z; exact z; exact absurd (nI_le (show A + q ≤ A + t by omega) (by omega)) c12
    refine lv_aload_n hx hb dX6_readSon_15 rfl (lv_at hl 1 rfl) ?_
    refine x_get (v := .ref (bd 3)) hx hb hts hinX6 hown hK hP 0 (by decide) rfl rfl 4 (by decide) (hts _ (List.mem_of_getElem? (i := 3) rfl)) rfl dX6_readSon_16 ?_
    refine lv_aload_n hx hb dX6_readSon_19 rfl (lv_at hl 1 rfl) ?_
    refine x_get (v := .int (nI (A + t))) hx hb hts hinX6 hown hK hP 0 (by decide) rfl rfl 15 (by decide) (hts _ (List.mem_of_getElem? (i := 2) rfl)) (congrArg (fun z => some (Value.int z)) hat) dX6_readSon_20 ?_
    refine x_iald (v := S 3 (A + t)) hx hb hK hP 3 0 (by decide) rfl rfl (A + t) rfl (by omega) (by decide) rfl dX6_readSon_23 ?_
    refine lv_goto (tgt := 28) hx hb dX6_readSon_24 (by decide) ?_
    refine lv_topi (fun x28 ex28 => ?_)
    subst ex28
    refine lv_istore_n (lv' := [(3, .int (S 3 (A + t))), (2, .int (nI (4 * mv))), (0, .ref (bd 0)), (1, .int (nI (A + q)))]) hx hb dX6_readSon_28 rfl hl (by decide) rfl (fun ls hl => ?_)
    refine lv_aload_n hx hb dX6_readSon_29 rfl (lv_at hl 2 rfl) ?_
    refine x_get (v := .ref (bd 12)) hx hb hts hinX6 hown hK hP 0 (by decide) rfl rfl 20 (by decide) (hts _ (List.mem_of_getElem? (i := 4) rfl)) rfl dX6_readSon_30 ?_
    refine lv_iload_n hx hb dX6_readSon_33 rfl (lv_at hl 1 rfl) ?_
    refine lv_iload_n hx hb dX6_readSon_34 rfl (lv_at hl 0 rfl) ?_
    refine lv_bipush (v := 115) hx hb dX6_readSon_35 (by decide +kernel) ?_
    refine lv_icmp_ne (tgt := 44) hx hb dX6_readSon_37 (by decide) (fun c37 => ?_) (fun c37 => ?_)
    · refine lv_iload_n hx hb dX6_readSon_44 rfl (lv_at hl 0 rfl) ?_
      refine lv_bipush (v := 104) hx hb dX6_readSon_45 (by decide +kernel) ?_
      refine lv_icmp_ne (tgt := 54) hx hb dX6_readSon_47 (by decide) (fun c47 => ?_) (fun c47 => ?_)
      · refine lv_iload_n hx hb dX6_readSon_54 rfl (lv_at hl 0 rfl) ?_
        refine lv_bipush (v := 112) hx hb dX6_readSon_55 (by decide +kernel) ?_
        refine lv_icmp_ne (tgt := 64) hx hb dX6_readSon_57 (by decide) (fun c57 => ?_) (fun c57 => ?_)
        · refine lv_bipush (v := (-9)) hx hb dX6_readSon_64 (by decide +kernel) ?_
          refine x_iast hx hb hK hI hAd hP hS 12 0 (by decide) (fun _ => rfl) rfl (4 * mv) rfl (by omega) (by decide) dX6_readSon_66 (fun H locs hP hS => ?_)
          refine lv_aload_n hx hb dX6_readSon_67 rfl (lv_at hl 2 rfl) ?_
          refine x_get (v := .ref (bd 12)) hx hb hts hinX6 hown hK hP 0 (by decide) rfl rfl 20 (by decide) (hts _ (List.mem_of_getElem? (i := 4) rfl)) rfl dX6_readSon_68 ?_
          refine lv_iload_n hx hb dX6_readSon_71 rfl (lv_at hl 1 rfl) ?_
          refine x_iald (v := (-9)) hx hb hK hP 12 0 (by decide) rfl rfl (4 * mv) rfl (by omega) (by decide) (su_at _ _ _ _) dX6_readSon_72 ?_
          refine lv_bipush (v := (-9)) hx hb dX6_readSon_73 (by decide +kernel) ?_
          refine lv_icmp_ne (tgt := 80) hx hb dX6_readSon_75 (by decide) (fun hc => absurd (by decide) hc) (fun _ => ?_)
          have hB := hA.bad (fun z => by have z2 := z.2; rw [okp51 hs, ← hcd _ z.1] at z2; exact (of_decide_eq_true z2).elim c37 (fun y => y.elim c47 c57)) (fun _ s hs z => by simp at z)
          refine lv_iconst (v := 0) hx hb dX6_readSon_78 (by decide +kernel) ?_
          refine x_zret hx hb hr hlocks hP hS dX6_readSon_79 (Or.inl rfl) ?_
          exact Or.inr ⟨rfl, _, hB, hat, frmM.rf.row 12 _ _ (Or.inr rfl)⟩
        · refine lv_iconst (v := 2) hx hb dX6_readSon_60 (by decide +kernel) ?_
          refine lv_goto (tgt := 66) hx hb dX6_readSon_61 (by decide) ?_
          refine x_iast hx hb hK hI hAd hP hS 12 0 (by decide) (fun _ => rfl) rfl (4 * mv) rfl (by omega) (by decide) dX6_readSon_66 (fun H locs hP hS => ?_)
          refine lv_aload_n hx hb dX6_readSon_67 rfl (lv_at hl 2 rfl) ?_
          refine x_get (v := .ref (bd 12)) hx hb hts hinX6 hown hK hP 0 (by decide) rfl rfl 20 (by decide) (hts _ (List.mem_of_getElem? (i := 4) rfl)) rfl dX6_readSon_68 ?_
          refine lv_iload_n hx hb dX6_readSon_71 rfl (lv_at hl 1 rfl) ?_
          refine x_iald (v := 2) hx hb hK hP 12 0 (by decide) rfl rfl (4 * mv) rfl (by omega) (by decide) (su_at _ _ _ _) dX6_readSon_72 ?_
          refine lv_bipush (v := (-9)) hx hb dX6_readSon_73 (by decide +kernel) ?_
          refine lv_icmp_ne (tgt := 80) hx hb dX6_readSon_75 (by decide) (fun _ => ?_) (fun hc => absurd hc (by decide))
          have hx17 : cd t = 112 := (hcd _ ht1).symm.trans c57
          have hA80 : tAt cd q (t + 1) (5, mv, 2) := hA.step ht1 (by rw [okp51 hs, hx17]; decide +kernel)
          have hk17 : (2 : Int32) = kdv (cd t) := by rw [hx17]; decide +kernel
          refine lv_aload_n hx hb dX6_readSon_80 rfl (lv_at hl 2 rfl) ?_
          refine lv_dup hx hb dX6_readSon_81 rfl ?_
          refine x_get (v := .int (nI (A + t))) hx hb hts hinX6 hown hK hP 0 (by decide) rfl rfl 15 (by decide) (hts _ (List.mem_of_getElem? (i := 2) rfl)) (congrArg (fun z => some (Value.int z)) hat) dX6_readSon_82 ?_
          refine lv_iconst (v := 1) hx hb dX6_readSon_85 (by decide +kernel) ?_
          refine lv_iadd hx hb dX6_readSon_86 ?_
          refine x_put hx hb hts hinX6 tyX6 tyX6_ok nmX6 hown hK hI hAd hP hS 0 (by decide) rfl rfl 15 (by decide) (hts _ (List.mem_of_getElem? (i := 2) rfl)) rfl (upd ((su S 12 (4 * mv) 2) 0) 15 ((nI (A + t)) + 1)) rfl rfl rfl (Nat.le_of_ble_eq_true rfl) dX6_readSon_87 (fun H locs hP hS => ?_)
          have hP : va_P (dC, dI) vwCl (xW (mLy cI cZ bd) 18 bd (su (su S 12 (4 * mv) 2) 0 15 ((nI (A + t)) + 1))) H := hP
          rw [nI_1] at hP
          have hP : va_P (dC, dI) vwCl (xW (mLy cI cZ bd) 18 bd (su (su S 12 (4 * mv) 2) 0 15 (nI (A + t + 1)))) H := hP
          refine lv_iconst (v := 1) hx hb dX6_readSon_90 (by decide +kernel) ?_
          refine lv_istore (lv' := [(4, .int 1), (3, .int (S 3 (A + t))), (2, .int (nI (4 * mv))), (0, .ref (bd 0)), (1, .int (nI (A + q)))]) hx hb dX6_readSon_91 hl (by decide) rfl (fun ls hl => ?_)
          exact L93 _ hA80 hk17 _ _ ls hP hS (lv_sub hl [3, 4, 2, 0] rfl)
      · refine lv_iconst (v := 1) hx hb dX6_readSon_50 (by decide +kernel) ?_
        refine lv_goto (tgt := 66) hx hb dX6_readSon_51 (by decide) ?_
        refine x_iast hx hb hK hI hAd hP hS 12 0 (by decide) (fun _ => rfl) rfl (4 * mv) rfl (by omega) (by decide) dX6_readSon_66 (fun H locs hP hS => ?_)
        refine lv_aload_n hx hb dX6_readSon_67 rfl (lv_at hl 2 rfl) ?_
        refine x_get (v := .ref (bd 12)) hx hb hts hinX6 hown hK hP 0 (by decide) rfl rfl 20 (by decide) (hts _ (List.mem_of_getElem? (i := 4) rfl)) rfl dX6_readSon_68 ?_
        refine lv_iload_n hx hb dX6_readSon_71 rfl (lv_at hl 1 rfl) ?_
        refine x_iald (v := 1) hx hb hK hP 12 0 (by decide) rfl rfl (4 * mv) rfl (by omega) (by decide) (su_at _ _ _ _) dX6_readSon_72 ?_
        refine lv_bipush (v := (-9)) hx hb dX6_readSon_73 (by decide +kernel) ?_
        refine lv_icmp_ne (tgt := 80) hx hb dX6_readSon_75 (by decide) (fun _ => ?_) (fun hc => absurd hc (by decide))
        have hx17 : cd t = 104 := (hcd _ ht1).symm.trans c47
        have hA80 : tAt cd q (t + 1) (5, mv, 2) := hA.step ht1 (by rw [okp51 hs, hx17]; decide +kernel)
        have hk17 : (1 : Int32) = kdv (cd t) := by rw [hx17]; decide +kernel
        refine lv_aload_n hx hb dX6_readSon_80 rfl (lv_at hl 2 rfl) ?_
        refine lv_dup hx hb dX6_readSon_81 rfl ?_
        refine x_get (v := .int (nI (A + t))) hx hb hts hinX6 hown hK hP 0 (by decide) rfl rfl 15 (by decide) (hts _ (List.mem_of_getElem? (i := 2) rfl)) (congrArg (fun z => some (Value.int z)) hat) dX6_readSon_82 ?_
        refine lv_iconst (v := 1) hx hb dX6_readSon_85 (by decide +kernel) ?_
        refine lv_iadd hx hb dX6_readSon_86 ?_
        refine x_put hx hb hts hinX6 tyX6 tyX6_ok nmX6 hown hK hI hAd hP hS 0 (by decide) rfl rfl 15 (by decide) (hts _ (List.mem_of_getElem? (i := 2) rfl)) rfl (upd ((su S 12 (4 * mv) 1) 0) 15 ((nI (A + t)) + 1)) rfl rfl rfl (Nat.le_of_ble_eq_true rfl) dX6_readSon_87 (fun H locs hP hS => ?_)
        have hP : va_P (dC, dI) vwCl (xW (mLy cI cZ bd) 18 bd (su (su S 12 (4 * mv) 1) 0 15 ((nI (A + t)) + 1))) H := hP
        rw [nI_1] at hP
        have hP : va_P (dC, dI) vwCl (xW (mLy cI cZ bd) 18 bd (su (su S 12 (4 * mv) 1) 0 15 (nI (A + t + 1)))) H := hP
        refine lv_iconst (v := 1) hx hb dX6_readSon_90 (by decide +kernel) ?_
        refine lv_istore (lv' := [(4, .int 1), (3, .int (S 3 (A + t))), (2, .int (nI (4 * mv))), (0, .ref (bd 0)), (1, .int (nI (A + q)))]) hx hb dX6_readSon_91 hl (by decide) rfl (fun ls hl => ?_)
        exact L93 _ hA80 hk17 _ _ ls hP hS (lv_sub hl [3, 4, 2, 0] rfl)
    · refine lv_iconst (v := 0) hx hb dX6_readSon_40 (by decide +kernel) ?_
      refine lv_goto (tgt := 66) hx hb dX6_readSon_41 (by decide) ?_
      refine x_iast hx hb hK hI hAd hP hS 12 0 (by decide) (fun _ => rfl) rfl (4 * mv) rfl (by omega) (by decide) dX6_readSon_66 (fun H locs hP hS => ?_)
      refine lv_aload_n hx hb dX6_readSon_67 rfl (lv_at hl 2 rfl) ?_
      refine x_get (v := .ref (bd 12)) hx hb hts hinX6 hown hK hP 0 (by decide) rfl rfl 20 (by decide) (hts _ (List.mem_of_getElem? (i := 4) rfl)) rfl dX6_readSon_68 ?_
      refine lv_iload_n hx hb dX6_readSon_71 rfl (lv_at hl 1 rfl) ?_
      refine x_iald (v := 0) hx hb hK hP 12 0 (by decide) rfl rfl (4 * mv) rfl (by omega) (by decide) (su_at _ _ _ _) dX6_readSon_72 ?_
      refine lv_bipush (v := (-9)) hx hb dX6_readSon_73 (by decide +kernel) ?_
      refine lv_icmp_ne (tgt := 80) hx hb dX6_readSon_75 (by decide) (fun _ => ?_) (fun hc => absurd hc (by decide))
      have hx17 : cd t = 115 := (hcd _ ht1).symm.trans c37
      have hA80 : tAt cd q (t + 1) (5, mv, 2) := hA.step ht1 (by rw [okp51 hs, hx17]; decide +kernel)
      have hk17 : (0 : Int32) = kdv (cd t) := by rw [hx17]; decide +kernel
      refine lv_aload_n hx hb dX6_readSon_80 rfl (lv_at hl 2 rfl) ?_
      refine lv_dup hx hb dX6_readSon_81 rfl ?_
      refine x_get (v := .int (nI (A + t))) hx hb hts hinX6 hown hK hP 0 (by decide) rfl rfl 15 (by decide) (hts _ (List.mem_of_getElem? (i := 2) rfl)) (congrArg (fun z => some (Value.int z)) hat) dX6_readSon_82 ?_
      refine lv_iconst (v := 1) hx hb dX6_readSon_85 (by decide +kernel) ?_
      refine lv_iadd hx hb dX6_readSon_86 ?_
      refine x_put hx hb hts hinX6 tyX6 tyX6_ok nmX6 hown hK hI hAd hP hS 0 (by decide) rfl rfl 15 (by decide) (hts _ (List.mem_of_getElem? (i := 2) rfl)) rfl (upd ((su S 12 (4 * mv) 0) 0) 15 ((nI (A + t)) + 1)) rfl rfl rfl (Nat.le_of_ble_eq_true rfl) dX6_readSon_87 (fun H locs hP hS => ?_)
      have hP : va_P (dC, dI) vwCl (xW (mLy cI cZ bd) 18 bd (su (su S 12 (4 * mv) 0) 0 15 ((nI (A + t)) + 1))) H := hP
      rw [nI_1] at hP
      have hP : va_P (dC, dI) vwCl (xW (mLy cI cZ bd) 18 bd (su (su S 12 (4 * mv) 0) 0 15 (nI (A + t + 1)))) H := hP
      refine lv_iconst (v := 1) hx hb dX6_readSon_90 (by decide +kernel) ?_
      refine lv_istore (lv' := [(4, .int 1), (3, .int (S 3 (A + t))), (2, .int (nI (4 * mv))), (0, .ref (bd 0)), (1, .int (nI (A + q)))]) hx hb dX6_readSon_91 hl (by decide) rfl (fun ls hl => ?_)
      exact L93 _ hA80 hk17 _ _ ls hP hS (lv_sub hl [3, 4, 2, 0] rfl)

end M8
