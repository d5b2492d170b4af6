section M1
variable {l : Launch} {dC : Nat → ClassId} {dI : Nat → Nat → Nat} {cI cZ cS cG : ClassId} {ad bd : Nat → Nat}
set_option maxHeartbeats 4000000 in
set_option maxRecDepth 100000 in
theorem c6_fails (hI : xI 18 bd) (S : xSt) (k : Int32) : xMi l yX6_fails wsX6_fails ({ frames := 0, cells := 0, slots := 0, locals := 0 }) (dC, dI) vwCl (tyl cI cZ cS cG) (mLy cI cZ bd) 18 bd [.ref (bd 0), .int k] S (fun r S' => r = -10 - k ∧ S' = su S 0 0 k) := by
  refine xM_of (cc := cX6_fails) (nL := 2) (ret := (some .int)) (by decide) rfl (Nat.le_of_ble_eq_true rfl) ?_
  intro p e s m below meth c ls B hl hK hP
  obtain ⟨hx, hb, hml, hown, hts, hr, hlocks⟩ := B
  have hl : lv_has ls 2 [(0, .ref (bd 0)), (1, .int k)] := hl
  have hS : va_S (xA 18 bd) s.heap s.heap [] := va_S.rf
  have hAd : ∀ k, k < 18 → xA 18 bd (bd k) := xA_in
  have hinX6 : ∀ w ∈ wsX60, w ∈ wsX6_fails := fun _ h => List.mem_cons_of_mem _ (List.mem_append_right _ h)
  have hF : CallFix p m c cX6_fails 2 s _ wsX6_fails RX6 := ⟨hx, hb, hml, hown, hts⟩
  refine lv_aload_n hx hb dX6_fails_0 rfl (lv_at hl 0 rfl) ?_
  refine lv_iload_n hx hb dX6_fails_1 rfl (lv_at hl 1 rfl) ?_
  refine x_put hx hb hts hinX6 tyX6 tyX6_ok nmX6 hown hK hI hAd hP hS 0 (by decide) rfl rfl 0 (by decide) (hts _ (List.mem_of_getElem? (i := 1) rfl)) rfl (upd (S 0) 0 k) rfl rfl rfl (Nat.le_of_ble_eq_true rfl) dX6_fails_2 (fun H locs hP hS => ?_)
  have hP : va_P (dC, dI) vwCl (xW (mLy cI cZ bd) 18 bd (su S 0 0 k)) H := hP
  refine lv_bipush (v := (-10)) hx hb dX6_fails_5 (by decide +kernel) ?_
  refine lv_iload_n hx hb dX6_fails_7 rfl (lv_at hl 1 rfl) ?_
  refine lv_isub hx hb dX6_fails_8 ?_
  refine x_iret hx hb hr hlocks hP hS dX6_fails_9 ?_
  exact ⟨rfl, rfl⟩

set_option maxHeartbeats 4000000 in
set_option maxRecDepth 100000 in
theorem c6_lost (hI : xI 18 bd) (S : xSt) (k : Int32) : xMl l yX6_lost wsX6_lost ({ frames := 0, cells := 0, slots := 0, locals := 0 }) (dC, dI) vwCl (tyl cI cZ cS cG) (mLy cI cZ bd) 18 bd [.ref (bd 0), .int k] S (fun r S' => r = -9223372036854775808 ∧ S' = su S 0 0 k) := by
  refine xM_of (cc := cX6_lost) (nL := 2) (ret := (some .long)) (by decide) rfl (Nat.le_of_ble_eq_true rfl) ?_
  intro p e s m below meth c ls B hl hK hP
  obtain ⟨hx, hb, hml, hown, hts, hr, hlocks⟩ := B
  have hl : lv_has ls 2 [(0, .ref (bd 0)), (1, .int k)] := hl
  have hS : va_S (xA 18 bd) s.heap s.heap [] := va_S.rf
  have hAd : ∀ k, k < 18 → xA 18 bd (bd k) := xA_in
  have hinX6 : ∀ w ∈ wsX60, w ∈ wsX6_lost := fun _ h => List.mem_cons_of_mem _ (List.mem_append_right _ h)
  have hF : CallFix p m c cX6_lost 2 s _ wsX6_lost RX6 := ⟨hx, hb, hml, hown, hts⟩
  refine lv_aload_n hx hb dX6_lost_0 rfl (lv_at hl 0 rfl) ?_
  refine lv_iload_n hx hb dX6_lost_1 rfl (lv_at hl 1 rfl) ?_
  refine x_put hx hb hts hinX6 tyX6 tyX6_ok nmX6 hown hK hI hAd hP hS 0 (by decide) rfl rfl 0 (by decide) (hts _ (List.mem_of_getElem? (i := 1) rfl)) rfl (upd (S 0) 0 k) rfl rfl rfl (Nat.le_of_ble_eq_true rfl) dX6_lost_2 (fun H locs hP hS => ?_)
  have hP : va_P (dC, dI) vwCl (xW (mLy cI cZ bd) 18 bd (su S 0 0 k)) H := hP
  refine lv_ldc2 (v := (-9223372036854775808)) hx hb hown (hts _ (List.mem_of_getElem? (i := 2) rfl)) dX6_lost_5 ?_
  refine x_lret hx hb hr hlocks hP hS dX6_lost_8 ?_
  exact ⟨rfl, rfl⟩

set_option maxHeartbeats 4000000 in
set_option maxRecDepth 100000 in
theorem c6_within (hI : xI 18 bd) (S : xSt) (v a b : Int32) : xMi l yX6_within wsX6_within ({ frames := 0, cells := 0, slots := 0, locals := 0 }) (dC, dI) vwCl (tyl cI cZ cS cG) (mLy cI cZ bd) 18 bd [.int v, .int a, .int b] S (fun r S' => r = (if wit v a b then 1 else 0) ∧ S' = S) := by
  refine xM_of (cc := cX6_within) (nL := 3) (ret := (some .boolean)) (by decide) rfl (Nat.le_of_ble_eq_true rfl) ?_
  intro p e s m below meth c ls B hl hK hP
  obtain ⟨hx, hb, hml, hown, hts, hr, hlocks⟩ := B
  have hl : lv_has ls 3 [(0, .int v), (1, .int a), (2, .int b)] := hl
  have hS : va_S (xA 18 bd) s.heap s.heap [] := va_S.rf
  have hAd : ∀ k, k < 18 → xA 18 bd (bd k) := xA_in
  have hF : CallFix p m c cX6_within 3 s _ wsX6_within RX6 := ⟨hx, hb, hml, hown, hts⟩
  refine lv_iload_n hx hb dX6_within_0 rfl (lv_at hl 0 rfl) ?_
  refine lv_iload_n hx hb dX6_within_1 rfl (lv_at hl 1 rfl) ?_
  refine lv_icmp_lt (tgt := 14) hx hb dX6_within_2 (by decide) (fun c2 => ?_) (fun c2 => ?_)
  · have d2 := Int32.not_le.mpr c2
    refine lv_iconst (v := 0) hx hb dX6_within_14 (by decide +kernel) ?_
    refine x_zret hx hb hr hlocks hP hS dX6_within_15 (Or.inl rfl) ?_
    skip
    exact ⟨by simp [inR, wit, c2, d2], rfl⟩
  · have d2 := Int32.not_lt.mp c2
    refine lv_iload_n hx hb dX6_within_5 rfl (lv_at hl 0 rfl) ?_
    refine lv_iload_n hx hb dX6_within_6 rfl (lv_at hl 2 rfl) ?_
    refine lv_icmp_gt (tgt := 14) hx hb dX6_within_7 (by decide) (fun c7 => ?_) (fun c7 => ?_)
    · have d7 := Int32.not_le.mpr c7
      refine lv_iconst (v := 0) hx hb dX6_within_14 (by decide +kernel) ?_
      refine x_zret hx hb hr hlocks hP hS dX6_within_15 (Or.inl rfl) ?_
      skip
      exact ⟨by simp [inR, wit, c2, d2, c7, d7], rfl⟩
    · have d7 := Int32.not_lt.mp c7
      refine lv_iconst (v := 1) hx hb dX6_within_10 (by decide +kernel) ?_
      refine lv_goto (tgt := 15) hx hb dX6_within_11 (by decide) ?_
      refine x_zret hx hb hr hlocks hP hS dX6_within_15 (Or.inr rfl) ?_
      skip
      exact ⟨by simp [inR, wit, c2, d2, c7, d7], rfl⟩

set_option maxHeartbeats 4000000 in
set_option maxRecDepth 100000 in
theorem c6_isSheet (hI : xI 18 bd) (S : xSt) (k : Int32) : xMi l yX6_isSheet wsX6_isSheet ({ frames := 1, cells := 0, slots := 0, locals := 22 }) (dC, dI) vwCl (tyl cI cZ cS cG) (mLy cI cZ bd) 18 bd [.int k] S (fun r S' => r = (if wit k 0 3 then 1 else 0) ∧ S' = S) := by
  refine xM_of (cc := cX6_isSheet) (nL := 1) (ret := (some .boolean)) (by decide) rfl (Nat.le_of_ble_eq_true rfl) ?_
  intro p e s m below meth c ls B hl hK hP
  obtain ⟨hx, hb, hml, hown, hts, hr, hlocks⟩ := B
  have hl : lv_has ls 1 [(0, .int k)] := hl
  have hS : va_S (xA 18 bd) s.heap s.heap [] := va_S.rf
  have hAd : ∀ k, k < 18 → xA 18 bd (bd k) := xA_in
  have hF : CallFix p m c cX6_isSheet 1 s _ wsX6_isSheet RX6 := ⟨hx, hb, hml, hown, hts⟩
  refine lv_iload_n hx hb dX6_isSheet_0 rfl (lv_at hl 0 rfl) ?_
  refine lv_iconst (v := 0) hx hb dX6_isSheet_1 (by decide +kernel) ?_
  refine lv_iconst (v := 3) hx hb dX6_isSheet_2 (by decide +kernel) ?_
  refine x_calli (x_runS (As := [.int k, .int 0, .int 3]) (rest := []) hF (c6_within hI S k 0 3 ) (va_cwS 3 hts gX6_isSheet_X6_within rfl rfl rfl (by decide +kernel) ⟨Nat.le_of_ble_eq_true rfl, Nat.le_of_ble_eq_true rfl⟩) hK hP rfl hl.1 rfl (Nat.le_of_ble_eq_true rfl) dX6_isSheet_3 ⟨Nat.zero_le _, Nat.zero_le _⟩) hS hAd (fun r3 S3 H locs hw hP _ hS => ?_)
  obtain ⟨hw, eS3⟩ := hw
  rw [eS3] at hP
  by_cases q3 : wit k 0 3 = true
  · have hw : r3 = 1 := hw.trans (if_pos q3)
    subst hw
    refine x_zret hx hb hr hlocks hP hS dX6_isSheet_6 (Or.inr rfl) ?_
    exact ⟨by simp [q3], rfl⟩
  · have hw : r3 = 0 := hw.trans (if_neg q3)
    subst hw
    refine x_zret hx hb hr hlocks hP hS dX6_isSheet_6 (Or.inl rfl) ?_
    exact ⟨by simp [q3], rfl⟩

set_option maxHeartbeats 4000000 in
set_option maxRecDepth 100000 in
theorem c6_isSort (hI : xI 18 bd) (S : xSt) (k : Int32) : xMi l yX6_isSort wsX6_isSort ({ frames := 1, cells := 0, slots := 0, locals := 22 }) (dC, dI) vwCl (tyl cI cZ cS cG) (mLy cI cZ bd) 18 bd [.int k] S (fun r S' => r = (if wit k 0 2 then 1 else 0) ∧ S' = S) := by
  refine xM_of (cc := cX6_isSort) (nL := 1) (ret := (some .boolean)) (by decide) rfl (Nat.le_of_ble_eq_true rfl) ?_
  intro p e s m below meth c ls B hl hK hP
  obtain ⟨hx, hb, hml, hown, hts, hr, hlocks⟩ := B
  have hl : lv_has ls 1 [(0, .int k)] := hl
  have hS : va_S (xA 18 bd) s.heap s.heap [] := va_S.rf
  have hAd : ∀ k, k < 18 → xA 18 bd (bd k) := xA_in
  have hF : CallFix p m c cX6_isSort 1 s _ wsX6_isSort RX6 := ⟨hx, hb, hml, hown, hts⟩
  refine lv_iload_n hx hb dX6_isSort_0 rfl (lv_at hl 0 rfl) ?_
  refine lv_iconst (v := 0) hx hb dX6_isSort_1 (by decide +kernel) ?_
  refine lv_iconst (v := 2) hx hb dX6_isSort_2 (by decide +kernel) ?_
  refine x_calli (x_runS (As := [.int k, .int 0, .int 2]) (rest := []) hF (c6_within hI S k 0 2 ) (va_cwS 3 hts gX6_isSort_X6_within rfl rfl rfl (by decide +kernel) ⟨Nat.le_of_ble_eq_true rfl, Nat.le_of_ble_eq_true rfl⟩) hK hP rfl hl.1 rfl (Nat.le_of_ble_eq_true rfl) dX6_isSort_3 ⟨Nat.zero_le _, Nat.zero_le _⟩) hS hAd (fun r3 S3 H locs hw hP _ hS => ?_)
  obtain ⟨hw, eS3⟩ := hw
  rw [eS3] at hP
  by_cases q3 : wit k 0 2 = true
  · have hw : r3 = 1 := hw.trans (if_pos q3)
    subst hw
    refine x_zret hx hb hr hlocks hP hS dX6_isSort_6 (Or.inr rfl) ?_
    exact ⟨by simp [q3], rfl⟩
  · have hw : r3 = 0 := hw.trans (if_neg q3)
    subst hw
    refine x_zret hx hb hr hlocks hP hS dX6_isSort_6 (Or.inl rfl) ?_
    exact ⟨by simp [q3], rfl⟩

set_option maxHeartbeats 4000000 in
set_option maxRecDepth 100000 in
theorem c6_isCourt (hI : xI 18 bd) (S : xSt) (k : Int32) : xMi l yX6_isCourt wsX6_isCourt ({ frames := 0, cells := 0, slots := 0, locals := 0 }) (dC, dI) vwCl (tyl cI cZ cS cG) (mLy cI cZ bd) 18 bd [.ref (bd 0), .int k] S (fun r S' => r = (if inR k (S 0 5) then 1 else 0) ∧ S' = S) := by
  refine xM_of (cc := cX6_isCourt) (nL := 2) (ret := (some .boolean)) (by decide) rfl (Nat.le_of_ble_eq_true rfl) ?_
  intro p e s m below meth c ls B hl hK hP
  obtain ⟨hx, hb, hml, hown, hts, hr, hlocks⟩ := B
  have hl : lv_has ls 2 [(0, .ref (bd 0)), (1, .int k)] := hl
  have hS : va_S (xA 18 bd) s.heap s.heap [] := va_S.rf
  have hAd : ∀ k, k < 18 → xA 18 bd (bd k) := xA_in
  have hinX6 : ∀ w ∈ wsX60, w ∈ wsX6_isCourt := fun _ h => List.mem_cons_of_mem _ (List.mem_append_right _ h)
  have hF : CallFix p m c cX6_isCourt 2 s _ wsX6_isCourt RX6 := ⟨hx, hb, hml, hown, hts⟩
  refine lv_iload_n hx hb dX6_isCourt_0 rfl (lv_at hl 1 rfl) ?_
  refine lv_if_lt (tgt := 16) hx hb dX6_isCourt_1 (by decide) (fun c1 => ?_) (fun c1 => ?_)
  · have d1 := Int32.not_le.mpr c1
    refine lv_iconst (v := 0) hx hb dX6_isCourt_16 (by decide +kernel) ?_
    refine x_zret hx hb hr hlocks hP hS dX6_isCourt_17 (Or.inl rfl) ?_
    skip
    exact ⟨by simp [inR, wit, c1, d1], rfl⟩
  · have d1 := Int32.not_lt.mp c1
    refine lv_iload_n hx hb dX6_isCourt_4 rfl (lv_at hl 1 rfl) ?_
    refine lv_aload_n hx hb dX6_isCourt_5 rfl (lv_at hl 0 rfl) ?_
    refine x_get (v := .int (S 0 5)) hx hb hts hinX6 hown hK hP 0 (by decide) rfl rfl 5 (by decide) (hts _ (List.mem_of_getElem? (i := 1) rfl)) rfl dX6_isCourt_6 ?_
    refine lv_icmp_ge (tgt := 16) hx hb dX6_isCourt_9 (by decide) (fun c9 => ?_) (fun c9 => ?_)
    · have d9 := Int32.not_lt.mpr c9
      refine lv_iconst (v := 0) hx hb dX6_isCourt_16 (by decide +kernel) ?_
      refine x_zret hx hb hr hlocks hP hS dX6_isCourt_17 (Or.inl rfl) ?_
      skip
      exact ⟨by simp [inR, wit, c1, d1, c9, d9], rfl⟩
    · have d9 := Int32.not_le.mp c9
      refine lv_iconst (v := 1) hx hb dX6_isCourt_12 (by decide +kernel) ?_
      refine lv_goto (tgt := 17) hx hb dX6_isCourt_13 (by decide) ?_
      refine x_zret hx hb hr hlocks hP hS dX6_isCourt_17 (Or.inr rfl) ?_
      skip
      exact ⟨by simp [inR, wit, c1, d1, c9, d9], rfl⟩

set_option maxHeartbeats 4000000 in
set_option maxRecDepth 100000 in
theorem c6_isYear (hI : xI 18 bd) (S : xSt) (k : Int32) : xMi l yX6_isYear wsX6_isYear ({ frames := 0, cells := 0, slots := 0, locals := 0 }) (dC, dI) vwCl (tyl cI cZ cS cG) (mLy cI cZ bd) 18 bd [.ref (bd 0), .int k] S (fun r S' => r = (if inR k (S 0 6) then 1 else 0) ∧ S' = S) := by
  refine xM_of (cc := cX6_isYear) (nL := 2) (ret := (some .boolean)) (by decide) rfl (Nat.le_of_ble_eq_true rfl) ?_
  intro p e s m below meth c ls B hl hK hP
  obtain ⟨hx, hb, hml, hown, hts, hr, hlocks⟩ := B
  have hl : lv_has ls 2 [(0, .ref (bd 0)), (1, .int k)] := hl
  have hS : va_S (xA 18 bd) s.heap s.heap [] := va_S.rf
  have hAd : ∀ k, k < 18 → xA 18 bd (bd k) := xA_in
  have hinX6 : ∀ w ∈ wsX60, w ∈ wsX6_isYear := fun _ h => List.mem_cons_of_mem _ (List.mem_append_right _ h)
  have hF : CallFix p m c cX6_isYear 2 s _ wsX6_isYear RX6 := ⟨hx, hb, hml, hown, hts⟩
  refine lv_iload_n hx hb dX6_isYear_0 rfl (lv_at hl 1 rfl) ?_
  refine lv_if_lt (tgt := 16) hx hb dX6_isYear_1 (by decide) (fun c1 => ?_) (fun c1 => ?_)
  · have d1 := Int32.not_le.mpr c1
    refine lv_iconst (v := 0) hx hb dX6_isYear_16 (by decide +kernel) ?_
    refine x_zret hx hb hr hlocks hP hS dX6_isYear_17 (Or.inl rfl) ?_
    skip
    exact ⟨by simp [inR, wit, c1, d1], rfl⟩
  · have d1 := Int32.not_lt.mp c1
    refine lv_iload_n hx hb dX6_isYear_4 rfl (lv_at hl 1 rfl) ?_
    refine lv_aload_n hx hb dX6_isYear_5 rfl (lv_at hl 0 rfl) ?_
    refine x_get (v := .int (S 0 6)) hx hb hts hinX6 hown hK hP 0 (by decide) rfl rfl 6 (by decide) (hts _ (List.mem_of_getElem? (i := 1) rfl)) rfl dX6_isYear_6 ?_
    refine lv_icmp_ge (tgt := 16) hx hb dX6_isYear_9 (by decide) (fun c9 => ?_) (fun c9 => ?_)
    · have d9 := Int32.not_lt.mpr c9
      refine lv_iconst (v := 0) hx hb dX6_isYear_16 (by decide +kernel) ?_
      refine x_zret hx hb hr hlocks hP hS dX6_isYear_17 (Or.inl rfl) ?_
      skip
      exact ⟨by simp [inR, wit, c1, d1, c9, d9], rfl⟩
    · have d9 := Int32.not_le.mp c9
      refine lv_iconst (v := 1) hx hb dX6_isYear_12 (by decide +kernel) ?_
      refine lv_goto (tgt := 17) hx hb dX6_isYear_13 (by decide) ?_
      refine x_zret hx hb hr hlocks hP hS dX6_isYear_17 (Or.inr rfl) ?_
      skip
      exact ⟨by simp [inR, wit, c1, d1, c9, d9], rfl⟩

set_option maxHeartbeats 4000000 in
set_option maxRecDepth 100000 in
theorem c6_isSon (hI : xI 18 bd) (S : xSt) (k : Int32) : xMi l yX6_isSon wsX6_isSon ({ frames := 0, cells := 0, slots := 0, locals := 0 }) (dC, dI) vwCl (tyl cI cZ cS cG) (mLy cI cZ bd) 18 bd [.ref (bd 0), .int k] S (fun r S' => r = (if inR k (S 0 7) then 1 else 0) ∧ S' = S) := by
  refine xM_of (cc := cX6_isSon) (nL := 2) (ret := (some .boolean)) (by decide) rfl (Nat.le_of_ble_eq_true rfl) ?_
  intro p e s m below meth c ls B hl hK hP
  obtain ⟨hx, hb, hml, hown, hts, hr, hlocks⟩ := B
  have hl : lv_has ls 2 [(0, .ref (bd 0)), (1, .int k)] := hl
  have hS : va_S (xA 18 bd) s.heap s.heap [] := va_S.rf
  have hAd : ∀ k, k < 18 → xA 18 bd (bd k) := xA_in
  have hinX6 : ∀ w ∈ wsX60, w ∈ wsX6_isSon := fun _ h => List.mem_cons_of_mem _ (List.mem_append_right _ h)
  have hF : CallFix p m c cX6_isSon 2 s _ wsX6_isSon RX6 := ⟨hx, hb, hml, hown, hts⟩
  refine lv_iload_n hx hb dX6_isSon_0 rfl (lv_at hl 1 rfl) ?_
  refine lv_if_lt (tgt := 16) hx hb dX6_isSon_1 (by decide) (fun c1 => ?_) (fun c1 => ?_)
  · have d1 := Int32.not_le.mpr c1
    refine lv_iconst (v := 0) hx hb dX6_isSon_16 (by decide +kernel) ?_
    refine x_zret hx hb hr hlocks hP hS dX6_isSon_17 (Or.inl rfl) ?_
    skip
    exact ⟨by simp [inR, wit, c1, d1], rfl⟩
  · have d1 := Int32.not_lt.mp c1
    refine lv_iload_n hx hb dX6_isSon_4 rfl (lv_at hl 1 rfl) ?_
    refine lv_aload_n hx hb dX6_isSon_5 rfl (lv_at hl 0 rfl) ?_
    refine x_get (v := .int (S 0 7)) hx hb hts hinX6 hown hK hP 0 (by decide) rfl rfl 7 (by decide) (hts _ (List.mem_of_getElem? (i := 1) rfl)) rfl dX6_isSon_6 ?_
    refine lv_icmp_ge (tgt := 16) hx hb dX6_isSon_9 (by decide) (fun c9 => ?_) (fun c9 => ?_)
    · have d9 := Int32.not_lt.mpr c9
      refine lv_iconst (v := 0) hx hb dX6_isSon_16 (by decide +kernel) ?_
      refine x_zret hx hb hr hlocks hP hS dX6_isSon_17 (Or.inl rfl) ?_
      skip
      exact ⟨by simp [inR, wit, c1, d1, c9, d9], rfl⟩
    · have d9 := Int32.not_le.mp c9
      refine lv_iconst (v := 1) hx hb dX6_isSon_12 (by decide +kernel) ?_
      refine lv_goto (tgt := 17) hx hb dX6_isSon_13 (by decide) ?_
      refine x_zret hx hb hr hlocks hP hS dX6_isSon_17 (Or.inr rfl) ?_
      skip
      exact ⟨by simp [inR, wit, c1, d1, c9, d9], rfl⟩

set_option maxHeartbeats 4000000 in
set_option maxRecDepth 100000 in
theorem c6_begins (hI : xI 18 bd) (S : xSt) (k : Int32) : xMv l yX6_begins wsX6_begins ({ frames := 0, cells := 0, slots := 0, locals := 0 }) (dC, dI) vwCl (tyl cI cZ cS cG) (mLy cI cZ bd) 18 bd [.ref (bd 0), .int k] S (fun S' => S' = su S 0 1 (31 * S 0 1 + k)) := by
  refine xM_of (cc := cX6_begins) (nL := 2) (ret := none) (by decide) rfl (Nat.le_of_ble_eq_true rfl) ?_
  intro p e s m below meth c ls B hl hK hP
  obtain ⟨hx, hb, hml, hown, hts, hr, hlocks⟩ := B
  have hl : lv_has ls 2 [(0, .ref (bd 0)), (1, .int k)] := hl
  have hS : va_S (xA 18 bd) s.heap s.heap [] := va_S.rf
  have hAd : ∀ k, k < 18 → xA 18 bd (bd k) := xA_in
  have hinX6 : ∀ w ∈ wsX60, w ∈ wsX6_begins := fun _ h => List.mem_cons_of_mem _ (List.mem_append_right _ h)
  have hF : CallFix p m c cX6_begins 2 s _ wsX6_begins RX6 := ⟨hx, hb, hml, hown, hts⟩
  refine lv_aload_n hx hb dX6_begins_0 rfl (lv_at hl 0 rfl) ?_
  refine lv_bipush (v := 31) hx hb dX6_begins_1 (by decide +kernel) ?_
  refine lv_aload_n hx hb dX6_begins_3 rfl (lv_at hl 0 rfl) ?_
  refine x_get (v := .int (S 0 1)) hx hb hts hinX6 hown hK hP 0 (by decide) rfl rfl 1 (by decide) (hts _ (List.mem_of_getElem? (i := 1) rfl)) rfl dX6_begins_4 ?_
  refine lv_imul hx hb dX6_begins_7 ?_
  refine lv_iload_n hx hb dX6_begins_8 rfl (lv_at hl 1 rfl) ?_
  refine lv_iadd hx hb dX6_begins_9 ?_
  refine x_put hx hb hts hinX6 tyX6 tyX6_ok nmX6 hown hK hI hAd hP hS 0 (by decide) rfl rfl 1 (by decide) (hts _ (List.mem_of_getElem? (i := 1) rfl)) rfl (upd (S 0) 1 ((31 * (S 0 1)) + k)) rfl rfl rfl (Nat.le_of_ble_eq_true rfl) dX6_begins_10 (fun H locs hP hS => ?_)
  have hP : va_P (dC, dI) vwCl (xW (mLy cI cZ bd) 18 bd (su S 0 1 ((31 * (S 0 1)) + k))) H := hP
  refine x_vret hx hb hr hlocks hP hS dX6_begins_13 ?_
  exact rfl

set_option maxHeartbeats 4000000 in
set_option maxRecDepth 100000 in
theorem c6_trace (hI : xI 18 bd) (S : xSt) : xMi l yX6_trace wsX6_trace ({ frames := 0, cells := 0, slots := 0, locals := 0 }) (dC, dI) vwCl (tyl cI cZ cS cG) (mLy cI cZ bd) 18 bd [.ref (bd 0)] S (fun r S' => r = S 0 1 ∧ S' = S) := by
  refine xM_of (cc := cX6_trace) (nL := 1) (ret := (some .int)) (by decide) rfl (Nat.le_of_ble_eq_true rfl) ?_
  intro p e s m below meth c ls B hl hK hP
  obtain ⟨hx, hb, hml, hown, hts, hr, hlocks⟩ := B
  have hl : lv_has ls 1 [(0, .ref (bd 0))] := hl
  have hS : va_S (xA 18 bd) s.heap s.heap [] := va_S.rf
  have hAd : ∀ k, k < 18 → xA 18 bd (bd k) := xA_in
  have hinX6 : ∀ w ∈ wsX60, w ∈ wsX6_trace := fun _ h => List.mem_cons_of_mem _ (List.mem_append_right _ h)
  have hF : CallFix p m c cX6_trace 1 s _ wsX6_trace RX6 := ⟨hx, hb, hml, hown, hts⟩
  refine lv_aload_n hx hb dX6_trace_0 rfl (lv_at hl 0 rfl) ?_
  refine x_get (v := .int (S 0 1)) hx hb hts hinX6 hown hK hP 0 (by decide) rfl rfl 1 (by decide) (hts _ (List.mem_of_getElem? (i := 1) rfl)) rfl dX6_trace_1 ?_
  refine x_iret hx hb hr hlocks hP hS dX6_trace_4 ?_
  exact ⟨rfl, rfl⟩

set_option maxHeartbeats 4000000 in
set_option maxRecDepth 100000 in
theorem c6_fault (hI : xI 18 bd) (S : xSt) : xMi l yX6_fault wsX6_fault ({ frames := 0, cells := 0, slots := 0, locals := 0 }) (dC, dI) vwCl (tyl cI cZ cS cG) (mLy cI cZ bd) 18 bd [.ref (bd 0)] S (fun r S' => r = S 0 0 ∧ S' = S) := by
  refine xM_of (cc := cX6_fault) (nL := 1) (ret := (some .int)) (by decide) rfl (Nat.le_of_ble_eq_true rfl) ?_
  intro p e s m below meth c ls B hl hK hP
  obtain ⟨hx, hb, hml, hown, hts, hr, hlocks⟩ := B
  have hl : lv_has ls 1 [(0, .ref (bd 0))] := hl
  have hS : va_S (xA 18 bd) s.heap s.heap [] := va_S.rf
  have hAd : ∀ k, k < 18 → xA 18 bd (bd k) := xA_in
  have hinX6 : ∀ w ∈ wsX60, w ∈ wsX6_fault := fun _ h => List.mem_cons_of_mem _ (List.mem_append_right _ h)
  have hF : CallFix p m c cX6_fault 1 s _ wsX6_fault RX6 := ⟨hx, hb, hml, hown, hts⟩
  refine lv_aload_n hx hb dX6_fault_0 rfl (lv_at hl 0 rfl) ?_
  refine x_get (v := .int (S 0 0)) hx hb hts hinX6 hown hK hP 0 (by decide) rfl rfl 0 (by decide) (hts _ (List.mem_of_getElem? (i := 1) rfl)) rfl dX6_fault_1 ?_
  refine x_iret hx hb hr hlocks hP hS dX6_fault_4 ?_
  exact ⟨rfl, rfl⟩

set_option maxHeartbeats 4000000 in
set_option maxRecDepth 100000 in
theorem c6_stakeBy (hI : xI 18 bd) (S : xSt) (j : Nat) (f y : Int32) (hj : j < 6) : xMi l yX6_stakeBy wsX6_stakeBy ({ frames := 0, cells := 0, slots := 0, locals := 0 }) (dC, dI) vwCl (tyl cI cZ cS cG) (mLy cI cZ bd) 18 bd [.ref (bd 0), .int (nI j), .int f, .int y] S (fun r S' => r = stake1 (S 7 j) (S 8 j) (S 5 j) (y - f) ∧ S' = S) := by
  refine xM_of (cc := cX6_stakeBy) (nL := 5) (ret := (some .int)) (by decide) rfl (Nat.le_of_ble_eq_true rfl) ?_
  intro p e s m below meth c ls B hl hK hP
  obtain ⟨hx, hb, hml, hown, hts, hr, hlocks⟩ := B
  have hl : lv_has ls 5 [(0, .ref (bd 0)), (1, .int (nI j)), (2, .int f), (3, .int y)] := hl
  have hS : va_S (xA 18 bd) s.heap s.heap [] := va_S.rf
  have hAd : ∀ k, k < 18 → xA 18 bd (bd k) := xA_in
  have hinX6 : ∀ w ∈ wsX60, w ∈ wsX6_stakeBy := fun _ h => List.mem_cons_of_mem _ (List.mem_append_right _ h)
  have hF : CallFix p m c cX6_stakeBy 5 s _ wsX6_stakeBy RX6 := ⟨hx, hb, hml, hown, hts⟩
  refine lv_aload_n hx hb dX6_stakeBy_0 rfl (lv_at hl 0 rfl) ?_
  refine x_get (v := .ref (bd 7)) hx hb hts hinX6 hown hK hP 0 (by decide) rfl rfl 11 (by decide) (hts _ (List.mem_of_getElem? (i := 1) rfl)) rfl dX6_stakeBy_1 ?_
  refine lv_iload_n hx hb dX6_stakeBy_4 rfl (lv_at hl 1 rfl) ?_
  refine x_iald (v := S 7 j) hx hb hK hP 7 0 (by decide) rfl rfl j rfl (by omega) (by decide) rfl dX6_stakeBy_5 ?_
  refine lv_aload_n hx hb dX6_stakeBy_6 rfl (lv_at hl 0 rfl) ?_
  refine x_get (v := .ref (bd 8)) hx hb hts hinX6 hown hK hP 0 (by decide) rfl rfl 12 (by decide) (hts _ (List.mem_of_getElem? (i := 2) rfl)) rfl dX6_stakeBy_7 ?_
  refine lv_iload_n hx hb dX6_stakeBy_10 rfl (lv_at hl 1 rfl) ?_
  refine x_iald (v := S 8 j) hx hb hK hP 8 0 (by decide) rfl rfl j rfl (by omega) (by decide) rfl dX6_stakeBy_11 ?_
  refine lv_iload_n hx hb dX6_stakeBy_12 rfl (lv_at hl 3 rfl) ?_
  refine lv_iload_n hx hb dX6_stakeBy_13 rfl (lv_at hl 2 rfl) ?_
  refine lv_isub hx hb dX6_stakeBy_14 ?_
  refine lv_imul hx hb dX6_stakeBy_15 ?_
  refine lv_isub hx hb dX6_stakeBy_16 ?_
  refine lv_topi (fun x17 ex17 => ?_)
  refine lv_istore (lv' := [(4, .int x17), (0, .ref (bd 0)), (1, .int (nI j)), (2, .int f), (3, .int y)]) hx hb dX6_stakeBy_17 hl (by decide) rfl (fun ls hl => ?_)
  refine lv_iload hx hb dX6_stakeBy_19 (lv_at hl 0 rfl) ?_
  refine lv_if_ge (tgt := 28) hx hb dX6_stakeBy_21 (by decide) (fun c21 => ?_) (fun c21 => ?_)
  · have d21 := Int32.not_lt.mpr c21
    refine lv_iload hx hb dX6_stakeBy_28 (lv_at hl 0 rfl) ?_
    refine lv_istore (lv' := [(4, .int x17), (0, .ref (bd 0)), (1, .int (nI j)), (2, .int f), (3, .int y)]) hx hb dX6_stakeBy_30 hl (by decide) rfl (fun ls hl => ?_)
    refine lv_aload_n hx hb dX6_stakeBy_32 rfl (lv_at hl 1 rfl) ?_
    refine x_get (v := .ref (bd 5)) hx hb hts hinX6 hown hK hP 0 (by decide) rfl rfl 9 (by decide) (hts _ (List.mem_of_getElem? (i := 3) rfl)) rfl dX6_stakeBy_33 ?_
    refine lv_iload_n hx hb dX6_stakeBy_36 rfl (lv_at hl 2 rfl) ?_
    refine x_iald (v := S 5 j) hx hb hK hP 5 0 (by decide) rfl rfl j rfl (by omega) (by decide) rfl dX6_stakeBy_37 ?_
    refine lv_if_ne (tgt := 46) hx hb dX6_stakeBy_38 (by decide) (fun c38 => ?_) (fun c38 => ?_)
    · refine lv_aload_n hx hb dX6_stakeBy_46 rfl (lv_at hl 1 rfl) ?_
      refine x_get (v := .ref (bd 5)) hx hb hts hinX6 hown hK hP 0 (by decide) rfl rfl 9 (by decide) (hts _ (List.mem_of_getElem? (i := 3) rfl)) rfl dX6_stakeBy_47 ?_
      refine lv_iload_n hx hb dX6_stakeBy_50 rfl (lv_at hl 2 rfl) ?_
      refine x_iald (v := S 5 j) hx hb hK hP 5 0 (by decide) rfl rfl j rfl (by omega) (by decide) rfl dX6_stakeBy_51 ?_
      refine lv_iconst (v := 1) hx hb dX6_stakeBy_52 (by decide +kernel) ?_
      refine lv_icmp_ne (tgt := 63) hx hb dX6_stakeBy_53 (by decide) (fun c53 => ?_) (fun c53 => ?_)
      · refine lv_iload hx hb dX6_stakeBy_63 (lv_at hl 0 rfl) ?_
        refine lv_iconst (v := 2) hx hb dX6_stakeBy_65 (by decide +kernel) ?_
        refine lv_idiv hx hb dX6_stakeBy_66 (by decide +kernel) ?_
        refine x_iret hx hb hr hlocks hP hS dX6_stakeBy_67 ?_
        subst ex17
        exact ⟨by simp [stake1, c21, d21, c38, c53], rfl⟩
      · refine lv_iload hx hb dX6_stakeBy_56 (lv_at hl 0 rfl) ?_
        refine lv_iconst (v := 2) hx hb dX6_stakeBy_58 (by decide +kernel) ?_
        refine lv_iadd hx hb dX6_stakeBy_59 ?_
        refine lv_goto (tgt := 67) hx hb dX6_stakeBy_60 (by decide) ?_
        refine x_iret hx hb hr hlocks hP hS dX6_stakeBy_67 ?_
        subst ex17
        exact ⟨by simp [stake1, c21, d21, c38, c53], rfl⟩
    · refine lv_iload hx hb dX6_stakeBy_41 (lv_at hl 0 rfl) ?_
      refine lv_goto (tgt := 67) hx hb dX6_stakeBy_43 (by decide) ?_
      refine x_iret hx hb hr hlocks hP hS dX6_stakeBy_67 ?_
      subst ex17
      exact ⟨by simp [stake1, c21, d21, c38], rfl⟩
  · have d21 := Int32.not_le.mp c21
    refine lv_iconst (v := 0) hx hb dX6_stakeBy_24 (by decide +kernel) ?_
    refine lv_goto (tgt := 30) hx hb dX6_stakeBy_25 (by decide) ?_
    refine lv_istore (lv' := [(4, .int 0), (0, .ref (bd 0)), (1, .int (nI j)), (2, .int f), (3, .int y)]) hx hb dX6_stakeBy_30 hl (by decide) rfl (fun ls hl => ?_)
    refine lv_aload_n hx hb dX6_stakeBy_32 rfl (lv_at hl 1 rfl) ?_
    refine x_get (v := .ref (bd 5)) hx hb hts hinX6 hown hK hP 0 (by decide) rfl rfl 9 (by decide) (hts _ (List.mem_of_getElem? (i := 3) rfl)) rfl dX6_stakeBy_33 ?_
    refine lv_iload_n hx hb dX6_stakeBy_36 rfl (lv_at hl 2 rfl) ?_
    refine x_iald (v := S 5 j) hx hb hK hP 5 0 (by decide) rfl rfl j rfl (by omega) (by decide) rfl dX6_stakeBy_37 ?_
    refine lv_if_ne (tgt := 46) hx hb dX6_stakeBy_38 (by decide) (fun c38 => ?_) (fun c38 => ?_)
    · refine lv_aload_n hx hb dX6_stakeBy_46 rfl (lv_at hl 1 rfl) ?_
      refine x_get (v := .ref (bd 5)) hx hb hts hinX6 hown hK hP 0 (by decide) rfl rfl 9 (by decide) (hts _ (List.mem_of_getElem? (i := 3) rfl)) rfl dX6_stakeBy_47 ?_
      refine lv_iload_n hx hb dX6_stakeBy_50 rfl (lv_at hl 2 rfl) ?_
      refine x_iald (v := S 5 j) hx hb hK hP 5 0 (by decide) rfl rfl j rfl (by omega) (by decide) rfl dX6_stakeBy_51 ?_
      refine lv_iconst (v := 1) hx hb dX6_stakeBy_52 (by decide +kernel) ?_
      refine lv_icmp_ne (tgt := 63) hx hb dX6_stakeBy_53 (by decide) (fun c53 => ?_) (fun c53 => ?_)
      · refine lv_iload hx hb dX6_stakeBy_63 (lv_at hl 0 rfl) ?_
        refine lv_iconst (v := 2) hx hb dX6_stakeBy_65 (by decide +kernel) ?_
        refine lv_idiv hx hb dX6_stakeBy_66 (by decide +kernel) ?_
        refine x_iret hx hb hr hlocks hP hS dX6_stakeBy_67 ?_
        subst ex17
        exact ⟨by simp [stake1, c21, d21, c38, c53], rfl⟩
      · refine lv_iload hx hb dX6_stakeBy_56 (lv_at hl 0 rfl) ?_
        refine lv_iconst (v := 2) hx hb dX6_stakeBy_58 (by decide +kernel) ?_
        refine lv_iadd hx hb dX6_stakeBy_59 ?_
        refine lv_goto (tgt := 67) hx hb dX6_stakeBy_60 (by decide) ?_
        refine x_iret hx hb hr hlocks hP hS dX6_stakeBy_67 ?_
        subst ex17
        exact ⟨by simp [stake1, c21, d21, c38, c53], rfl⟩
    · refine lv_iload hx hb dX6_stakeBy_41 (lv_at hl 0 rfl) ?_
      refine lv_goto (tgt := 67) hx hb dX6_stakeBy_43 (by decide) ?_
      refine x_iret hx hb hr hlocks hP hS dX6_stakeBy_67 ?_
      subst ex17
      exact ⟨by simp [stake1, c21, d21, c38], rfl⟩

end M1
