section C2
variable {l : Launch} {dC : Nat → ClassId} {dI : Nat → Nat → Nat} {cI cZ cS cG : ClassId} {ad bd : Nat → Nat}
set_option maxHeartbeats 4000000 in
set_option maxRecDepth 100000 in
theorem c5_isCourt (hI : xI 42 ad) (S : xSt) (k : Int32) : xMi l yX5_isCourt wsX5_isCourt ({ frames := 0, cells := 0, slots := 0, locals := 0 }) (dC, dI) vwCl (tyl cI cZ cS cG) (cLy cI cZ cS cG ad) 42 ad [.ref (ad 0), .int k] S (fun r S' => r = (if inR k (S 12 0) then 1 else 0) ∧ S' = S) := by
  refine xM_of (cc := cX5_isCourt) (nL := 2) (ret := (some .boolean)) (by decide) rfl (Nat.le_of_ble_eq_true rfl) ?_
  intro p e s m below meth c ls B hl hK hP
  obtain ⟨hx, hb, hml, hown, hts, hr, hlocks⟩ := B
  have hl : lv_has ls 2 [(0, .ref (ad 0)), (1, .int k)] := hl
  have hS : va_S (xA 42 ad) s.heap s.heap [] := va_S.rf
  have hAd : ∀ k, k < 42 → xA 42 ad (ad k) := xA_in
  have hinX4 : ∀ w ∈ wsX40, w ∈ wsX5_isCourt := fun _ h => List.mem_cons_of_mem _ (List.mem_append_right _ h)
  have hinX5 : ∀ w ∈ wsX50, w ∈ wsX5_isCourt := fun _ h => List.mem_cons_of_mem _ (List.mem_append_left _ (List.mem_append_right _ h))
  have hF : CallFix p m c cX5_isCourt 2 s _ wsX5_isCourt RX5 := ⟨hx, hb, hml, hown, hts⟩
  refine lv_iload_n hx hb dX5_isCourt_0 rfl (lv_at hl 1 rfl) ?_
  refine lv_if_lt (tgt := 19) hx hb dX5_isCourt_1 (by decide) (fun c1 => ?_) (fun c1 => ?_)
  · have d1 := Int32.not_le.mpr c1
    refine lv_iconst (v := 0) hx hb dX5_isCourt_19 (by decide +kernel) ?_
    refine x_zret hx hb hr hlocks hP hS dX5_isCourt_20 (Or.inl rfl) ?_
    skip
    exact ⟨by simp [inR, wit, c1, d1], rfl⟩
  · have d1 := Int32.not_lt.mp c1
    refine lv_iload_n hx hb dX5_isCourt_4 rfl (lv_at hl 1 rfl) ?_
    refine lv_aload_n hx hb dX5_isCourt_5 rfl (lv_at hl 0 rfl) ?_
    refine x_get (v := .ref (ad 12)) hx hb hts hinX5 hown hK hP 0 (by decide) rfl rfl 2 (by decide) (hts _ (List.mem_of_getElem? (i := 1) rfl)) rfl dX5_isCourt_6 ?_
    refine x_get (v := .int (S 12 0)) hx hb hts hinX4 hown hK hP 12 (by decide) rfl rfl 0 (by decide) (hts _ (List.mem_of_getElem? (i := 2) rfl)) rfl dX5_isCourt_9 ?_
    refine lv_icmp_ge (tgt := 19) hx hb dX5_isCourt_12 (by decide) (fun c12 => ?_) (fun c12 => ?_)
    · have d12 := Int32.not_lt.mpr c12
      refine lv_iconst (v := 0) hx hb dX5_isCourt_19 (by decide +kernel) ?_
      refine x_zret hx hb hr hlocks hP hS dX5_isCourt_20 (Or.inl rfl) ?_
      skip
      exact ⟨by simp [inR, wit, c1, d1, c12, d12], rfl⟩
    · have d12 := Int32.not_le.mp c12
      refine lv_iconst (v := 1) hx hb dX5_isCourt_15 (by decide +kernel) ?_
      refine lv_goto (tgt := 20) hx hb dX5_isCourt_16 (by decide) ?_
      refine x_zret hx hb hr hlocks hP hS dX5_isCourt_20 (Or.inr rfl) ?_
      skip
      exact ⟨by simp [inR, wit, c1, d1, c12, d12], rfl⟩

set_option maxHeartbeats 4000000 in
set_option maxRecDepth 100000 in
theorem c5_isYear (hI : xI 42 ad) (S : xSt) (k : Int32) : xMi l yX5_isYear wsX5_isYear ({ frames := 0, cells := 0, slots := 0, locals := 0 }) (dC, dI) vwCl (tyl cI cZ cS cG) (cLy cI cZ cS cG ad) 42 ad [.ref (ad 0), .int k] S (fun r S' => r = (if inR k (S 12 1) then 1 else 0) ∧ S' = S) := by
  refine xM_of (cc := cX5_isYear) (nL := 2) (ret := (some .boolean)) (by decide) rfl (Nat.le_of_ble_eq_true rfl) ?_
  intro p e s m below meth c ls B hl hK hP
  obtain ⟨hx, hb, hml, hown, hts, hr, hlocks⟩ := B
  have hl : lv_has ls 2 [(0, .ref (ad 0)), (1, .int k)] := hl
  have hS : va_S (xA 42 ad) s.heap s.heap [] := va_S.rf
  have hAd : ∀ k, k < 42 → xA 42 ad (ad k) := xA_in
  have hinX4 : ∀ w ∈ wsX40, w ∈ wsX5_isYear := fun _ h => List.mem_cons_of_mem _ (List.mem_append_right _ h)
  have hinX5 : ∀ w ∈ wsX50, w ∈ wsX5_isYear := fun _ h => List.mem_cons_of_mem _ (List.mem_append_left _ (List.mem_append_right _ h))
  have hF : CallFix p m c cX5_isYear 2 s _ wsX5_isYear RX5 := ⟨hx, hb, hml, hown, hts⟩
  refine lv_iload_n hx hb dX5_isYear_0 rfl (lv_at hl 1 rfl) ?_
  refine lv_if_lt (tgt := 19) hx hb dX5_isYear_1 (by decide) (fun c1 => ?_) (fun c1 => ?_)
  · have d1 := Int32.not_le.mpr c1
    refine lv_iconst (v := 0) hx hb dX5_isYear_19 (by decide +kernel) ?_
    refine x_zret hx hb hr hlocks hP hS dX5_isYear_20 (Or.inl rfl) ?_
    skip
    exact ⟨by simp [inR, wit, c1, d1], rfl⟩
  · have d1 := Int32.not_lt.mp c1
    refine lv_iload_n hx hb dX5_isYear_4 rfl (lv_at hl 1 rfl) ?_
    refine lv_aload_n hx hb dX5_isYear_5 rfl (lv_at hl 0 rfl) ?_
    refine x_get (v := .ref (ad 12)) hx hb hts hinX5 hown hK hP 0 (by decide) rfl rfl 2 (by decide) (hts _ (List.mem_of_getElem? (i := 1) rfl)) rfl dX5_isYear_6 ?_
    refine x_get (v := .int (S 12 1)) hx hb hts hinX4 hown hK hP 12 (by decide) rfl rfl 1 (by decide) (hts _ (List.mem_of_getElem? (i := 2) rfl)) rfl dX5_isYear_9 ?_
    refine lv_icmp_ge (tgt := 19) hx hb dX5_isYear_12 (by decide) (fun c12 => ?_) (fun c12 => ?_)
    · have d12 := Int32.not_lt.mpr c12
      refine lv_iconst (v := 0) hx hb dX5_isYear_19 (by decide +kernel) ?_
      refine x_zret hx hb hr hlocks hP hS dX5_isYear_20 (Or.inl rfl) ?_
      skip
      exact ⟨by simp [inR, wit, c1, d1, c12, d12], rfl⟩
    · have d12 := Int32.not_le.mp c12
      refine lv_iconst (v := 1) hx hb dX5_isYear_15 (by decide +kernel) ?_
      refine lv_goto (tgt := 20) hx hb dX5_isYear_16 (by decide) ?_
      refine x_zret hx hb hr hlocks hP hS dX5_isYear_20 (Or.inr rfl) ?_
      skip
      exact ⟨by simp [inR, wit, c1, d1, c12, d12], rfl⟩

set_option maxHeartbeats 4000000 in
set_option maxRecDepth 100000 in
theorem c5_isSon (hI : xI 42 ad) (S : xSt) (k : Int32) : xMi l yX5_isSon wsX5_isSon ({ frames := 0, cells := 0, slots := 0, locals := 0 }) (dC, dI) vwCl (tyl cI cZ cS cG) (cLy cI cZ cS cG ad) 42 ad [.ref (ad 0), .int k] S (fun r S' => r = (if inR k (S 12 2) then 1 else 0) ∧ S' = S) := by
  refine xM_of (cc := cX5_isSon) (nL := 2) (ret := (some .boolean)) (by decide) rfl (Nat.le_of_ble_eq_true rfl) ?_
  intro p e s m below meth c ls B hl hK hP
  obtain ⟨hx, hb, hml, hown, hts, hr, hlocks⟩ := B
  have hl : lv_has ls 2 [(0, .ref (ad 0)), (1, .int k)] := hl
  have hS : va_S (xA 42 ad) s.heap s.heap [] := va_S.rf
  have hAd : ∀ k, k < 42 → xA 42 ad (ad k) := xA_in
  have hinX4 : ∀ w ∈ wsX40, w ∈ wsX5_isSon := fun _ h => List.mem_cons_of_mem _ (List.mem_append_right _ h)
  have hinX5 : ∀ w ∈ wsX50, w ∈ wsX5_isSon := fun _ h => List.mem_cons_of_mem _ (List.mem_append_left _ (List.mem_append_right _ h))
  have hF : CallFix p m c cX5_isSon 2 s _ wsX5_isSon RX5 := ⟨hx, hb, hml, hown, hts⟩
  refine lv_iload_n hx hb dX5_isSon_0 rfl (lv_at hl 1 rfl) ?_
  refine lv_if_lt (tgt := 19) hx hb dX5_isSon_1 (by decide) (fun c1 => ?_) (fun c1 => ?_)
  · have d1 := Int32.not_le.mpr c1
    refine lv_iconst (v := 0) hx hb dX5_isSon_19 (by decide +kernel) ?_
    refine x_zret hx hb hr hlocks hP hS dX5_isSon_20 (Or.inl rfl) ?_
    skip
    exact ⟨by simp [inR, wit, c1, d1], rfl⟩
  · have d1 := Int32.not_lt.mp c1
    refine lv_iload_n hx hb dX5_isSon_4 rfl (lv_at hl 1 rfl) ?_
    refine lv_aload_n hx hb dX5_isSon_5 rfl (lv_at hl 0 rfl) ?_
    refine x_get (v := .ref (ad 12)) hx hb hts hinX5 hown hK hP 0 (by decide) rfl rfl 2 (by decide) (hts _ (List.mem_of_getElem? (i := 1) rfl)) rfl dX5_isSon_6 ?_
    refine x_get (v := .int (S 12 2)) hx hb hts hinX4 hown hK hP 12 (by decide) rfl rfl 2 (by decide) (hts _ (List.mem_of_getElem? (i := 2) rfl)) rfl dX5_isSon_9 ?_
    refine lv_icmp_ge (tgt := 19) hx hb dX5_isSon_12 (by decide) (fun c12 => ?_) (fun c12 => ?_)
    · have d12 := Int32.not_lt.mpr c12
      refine lv_iconst (v := 0) hx hb dX5_isSon_19 (by decide +kernel) ?_
      refine x_zret hx hb hr hlocks hP hS dX5_isSon_20 (Or.inl rfl) ?_
      skip
      exact ⟨by simp [inR, wit, c1, d1, c12, d12], rfl⟩
    · have d12 := Int32.not_le.mp c12
      refine lv_iconst (v := 1) hx hb dX5_isSon_15 (by decide +kernel) ?_
      refine lv_goto (tgt := 20) hx hb dX5_isSon_16 (by decide) ?_
      refine x_zret hx hb hr hlocks hP hS dX5_isSon_20 (Or.inr rfl) ?_
      skip
      exact ⟨by simp [inR, wit, c1, d1, c12, d12], rfl⟩

set_option maxHeartbeats 4000000 in
set_option maxRecDepth 100000 in
theorem c5_hasTreaty (hI : xI 42 ad) (S : xSt) : xMi l yX5_hasTreaty wsX5_hasTreaty ({ frames := 0, cells := 0, slots := 0, locals := 0 }) (dC, dI) vwCl (tyl cI cZ cS cG) (cLy cI cZ cS cG ad) 42 ad [.ref (ad 0)] S (fun r S' => r = (if ¬ S 12 2 ≤ 0 then 1 else 0) ∧ S' = S) := by
  refine xM_of (cc := cX5_hasTreaty) (nL := 1) (ret := (some .boolean)) (by decide) rfl (Nat.le_of_ble_eq_true rfl) ?_
  intro p e s m below meth c ls B hl hK hP
  obtain ⟨hx, hb, hml, hown, hts, hr, hlocks⟩ := B
  have hl : lv_has ls 1 [(0, .ref (ad 0))] := hl
  have hS : va_S (xA 42 ad) s.heap s.heap [] := va_S.rf
  have hAd : ∀ k, k < 42 → xA 42 ad (ad k) := xA_in
  have hinX4 : ∀ w ∈ wsX40, w ∈ wsX5_hasTreaty := fun _ h => List.mem_cons_of_mem _ (List.mem_append_right _ h)
  have hinX5 : ∀ w ∈ wsX50, w ∈ wsX5_hasTreaty := fun _ h => List.mem_cons_of_mem _ (List.mem_append_left _ (List.mem_append_right _ h))
  have hF : CallFix p m c cX5_hasTreaty 1 s _ wsX5_hasTreaty RX5 := ⟨hx, hb, hml, hown, hts⟩
  refine lv_aload_n hx hb dX5_hasTreaty_0 rfl (lv_at hl 0 rfl) ?_
  refine x_get (v := .ref (ad 12)) hx hb hts hinX5 hown hK hP 0 (by decide) rfl rfl 2 (by decide) (hts _ (List.mem_of_getElem? (i := 1) rfl)) rfl dX5_hasTreaty_1 ?_
  refine x_get (v := .int (S 12 2)) hx hb hts hinX4 hown hK hP 12 (by decide) rfl rfl 2 (by decide) (hts _ (List.mem_of_getElem? (i := 2) rfl)) rfl dX5_hasTreaty_4 ?_
  refine lv_if_le (tgt := 14) hx hb dX5_hasTreaty_7 (by decide) (fun c7 => ?_) (fun c7 => ?_)
  · have d7 := Int32.not_lt.mpr c7
    refine lv_iconst (v := 0) hx hb dX5_hasTreaty_14 (by decide +kernel) ?_
    refine x_zret hx hb hr hlocks hP hS dX5_hasTreaty_15 (Or.inl rfl) ?_
    skip
    exact ⟨by simp [inR, wit, c7, d7], rfl⟩
  · have d7 := Int32.not_le.mp c7
    refine lv_iconst (v := 1) hx hb dX5_hasTreaty_10 (by decide +kernel) ?_
    refine lv_goto (tgt := 15) hx hb dX5_hasTreaty_11 (by decide) ?_
    refine x_zret hx hb hr hlocks hP hS dX5_hasTreaty_15 (Or.inr rfl) ?_
    skip
    exact ⟨by simp [inR, wit, c7, d7], rfl⟩

set_option maxHeartbeats 4000000 in
set_option maxRecDepth 100000 in
theorem c5_isSheet (hI : xI 42 ad) (S : xSt) (k : Int32) : xMi l yX5_isSheet wsX5_isSheet ({ frames := 0, cells := 0, slots := 0, locals := 0 }) (dC, dI) vwCl (tyl cI cZ cS cG) (cLy cI cZ cS cG ad) 42 ad [.int k] S (fun r S' => r = (if wit k 0 3 then 1 else 0) ∧ S' = S) := by
  refine xM_of (cc := cX5_isSheet) (nL := 1) (ret := (some .boolean)) (by decide) rfl (Nat.le_of_ble_eq_true rfl) ?_
  intro p e s m below meth c ls B hl hK hP
  obtain ⟨hx, hb, hml, hown, hts, hr, hlocks⟩ := B
  have hl : lv_has ls 1 [(0, .int k)] := hl
  have hS : va_S (xA 42 ad) s.heap s.heap [] := va_S.rf
  have hAd : ∀ k, k < 42 → xA 42 ad (ad k) := xA_in
  have hF : CallFix p m c cX5_isSheet 1 s _ wsX5_isSheet RX5 := ⟨hx, hb, hml, hown, hts⟩
  refine lv_iload_n hx hb dX5_isSheet_0 rfl (lv_at hl 0 rfl) ?_
  refine lv_if_lt (tgt := 13) hx hb dX5_isSheet_1 (by decide) (fun c1 => ?_) (fun c1 => ?_)
  · have d1 := Int32.not_le.mpr c1
    refine lv_iconst (v := 0) hx hb dX5_isSheet_13 (by decide +kernel) ?_
    refine x_zret hx hb hr hlocks hP hS dX5_isSheet_14 (Or.inl rfl) ?_
    skip
    exact ⟨by simp [wit, ← four_le, c1, d1], rfl⟩
  · have d1 := Int32.not_lt.mp c1
    refine lv_iload_n hx hb dX5_isSheet_4 rfl (lv_at hl 0 rfl) ?_
    refine lv_iconst (v := 4) hx hb dX5_isSheet_5 (by decide +kernel) ?_
    refine lv_icmp_ge (tgt := 13) hx hb dX5_isSheet_6 (by decide) (fun c6 => ?_) (fun c6 => ?_)
    · have d6 := Int32.not_lt.mpr c6
      refine lv_iconst (v := 0) hx hb dX5_isSheet_13 (by decide +kernel) ?_
      refine x_zret hx hb hr hlocks hP hS dX5_isSheet_14 (Or.inl rfl) ?_
      skip
      exact ⟨by simp [wit, ← four_le, c1, d1, c6, d6], rfl⟩
    · have d6 := Int32.not_le.mp c6
      refine lv_iconst (v := 1) hx hb dX5_isSheet_9 (by decide +kernel) ?_
      refine lv_goto (tgt := 14) hx hb dX5_isSheet_10 (by decide) ?_
      refine x_zret hx hb hr hlocks hP hS dX5_isSheet_14 (Or.inr rfl) ?_
      skip
      exact ⟨by simp [wit, ← four_le, c1, d1, c6, d6], rfl⟩

set_option maxHeartbeats 4000000 in
set_option maxRecDepth 100000 in
theorem c5_isLane (hI : xI 42 ad) (S : xSt) (k : Int32) : xMi l yX5_isLane wsX5_isLane ({ frames := 0, cells := 0, slots := 0, locals := 0 }) (dC, dI) vwCl (tyl cI cZ cS cG) (cLy cI cZ cS cG ad) 42 ad [.int k] S (fun r S' => r = (if wit k 0 2 then 1 else 0) ∧ S' = S) := by
  refine xM_of (cc := cX5_isLane) (nL := 1) (ret := (some .boolean)) (by decide) rfl (Nat.le_of_ble_eq_true rfl) ?_
  intro p e s m below meth c ls B hl hK hP
  obtain ⟨hx, hb, hml, hown, hts, hr, hlocks⟩ := B
  have hl : lv_has ls 1 [(0, .int k)] := hl
  have hS : va_S (xA 42 ad) s.heap s.heap [] := va_S.rf
  have hAd : ∀ k, k < 42 → xA 42 ad (ad k) := xA_in
  have hF : CallFix p m c cX5_isLane 1 s _ wsX5_isLane RX5 := ⟨hx, hb, hml, hown, hts⟩
  refine lv_iload_n hx hb dX5_isLane_0 rfl (lv_at hl 0 rfl) ?_
  refine lv_if_lt (tgt := 13) hx hb dX5_isLane_1 (by decide) (fun c1 => ?_) (fun c1 => ?_)
  · have d1 := Int32.not_le.mpr c1
    refine lv_iconst (v := 0) hx hb dX5_isLane_13 (by decide +kernel) ?_
    refine x_zret hx hb hr hlocks hP hS dX5_isLane_14 (Or.inl rfl) ?_
    skip
    exact ⟨by simp [inR, wit, c1, d1], rfl⟩
  · have d1 := Int32.not_lt.mp c1
    refine lv_iload_n hx hb dX5_isLane_4 rfl (lv_at hl 0 rfl) ?_
    refine lv_iconst (v := 2) hx hb dX5_isLane_5 (by decide +kernel) ?_
    refine lv_icmp_gt (tgt := 13) hx hb dX5_isLane_6 (by decide) (fun c6 => ?_) (fun c6 => ?_)
    · have d6 := Int32.not_le.mpr c6
      refine lv_iconst (v := 0) hx hb dX5_isLane_13 (by decide +kernel) ?_
      refine x_zret hx hb hr hlocks hP hS dX5_isLane_14 (Or.inl rfl) ?_
      skip
      exact ⟨by simp [inR, wit, c1, d1, c6, d6], rfl⟩
    · have d6 := Int32.not_lt.mp c6
      refine lv_iconst (v := 1) hx hb dX5_isLane_9 (by decide +kernel) ?_
      refine lv_goto (tgt := 14) hx hb dX5_isLane_10 (by decide) ?_
      refine x_zret hx hb hr hlocks hP hS dX5_isLane_14 (Or.inr rfl) ?_
      skip
      exact ⟨by simp [inR, wit, c1, d1, c6, d6], rfl⟩

set_option maxHeartbeats 4000000 in
set_option maxRecDepth 100000 in
theorem c5_faulted (hI : xI 42 ad) (S : xSt) (k : Int32) : xMi l yX5_faulted wsX5_faulted ({ frames := 0, cells := 0, slots := 0, locals := 0 }) (dC, dI) vwCl (tyl cI cZ cS cG) (cLy cI cZ cS cG ad) 42 ad [.ref (ad 0), .int k] S (fun r S' => r = -10 - k ∧ S' = su S 0 8 k) := by
  refine xM_of (cc := cX5_faulted) (nL := 2) (ret := (some .int)) (by decide) rfl (Nat.le_of_ble_eq_true rfl) ?_
  intro p e s m below meth c ls B hl hK hP
  obtain ⟨hx, hb, hml, hown, hts, hr, hlocks⟩ := B
  have hl : lv_has ls 2 [(0, .ref (ad 0)), (1, .int k)] := hl
  have hS : va_S (xA 42 ad) s.heap s.heap [] := va_S.rf
  have hAd : ∀ k, k < 42 → xA 42 ad (ad k) := xA_in
  have hinX5 : ∀ w ∈ wsX50, w ∈ wsX5_faulted := fun _ h => List.mem_cons_of_mem _ (List.mem_append_right _ h)
  have hF : CallFix p m c cX5_faulted 2 s _ wsX5_faulted RX5 := ⟨hx, hb, hml, hown, hts⟩
  refine lv_aload_n hx hb dX5_faulted_0 rfl (lv_at hl 0 rfl) ?_
  refine lv_iload_n hx hb dX5_faulted_1 rfl (lv_at hl 1 rfl) ?_
  refine x_put hx hb hts hinX5 tyX5 tyX5_ok nmX5 hown hK hI hAd hP hS 0 (by decide) rfl rfl 8 (by decide) (hts _ (List.mem_of_getElem? (i := 1) rfl)) rfl (upd (S 0) 8 k) rfl rfl rfl (Nat.le_of_ble_eq_true rfl) dX5_faulted_2 (fun H locs hP hS => ?_)
  have hP : va_P (dC, dI) vwCl (xW (cLy cI cZ cS cG ad) 42 ad (su S 0 8 k)) H := hP
  refine lv_bipush (v := (-10)) hx hb dX5_faulted_5 (by decide +kernel) ?_
  refine lv_iload_n hx hb dX5_faulted_7 rfl (lv_at hl 1 rfl) ?_
  refine lv_isub hx hb dX5_faulted_8 ?_
  refine x_iret hx hb hr hlocks hP hS dX5_faulted_9 ?_
  exact ⟨rfl, rfl⟩

set_option maxHeartbeats 4000000 in
set_option maxRecDepth 100000 in
theorem c5_leaveTrace (hI : xI 42 ad) (S : xSt) (k : Int32) : xMv l yX5_leaveTrace wsX5_leaveTrace ({ frames := 0, cells := 0, slots := 0, locals := 0 }) (dC, dI) vwCl (tyl cI cZ cS cG) (cLy cI cZ cS cG ad) 42 ad [.ref (ad 0), .int k] S (fun S' => S' = su S 0 7 (31 * S 0 7 + k)) := by
  refine xM_of (cc := cX5_leaveTrace) (nL := 2) (ret := none) (by decide) rfl (Nat.le_of_ble_eq_true rfl) ?_
  intro p e s m below meth c ls B hl hK hP
  obtain ⟨hx, hb, hml, hown, hts, hr, hlocks⟩ := B
  have hl : lv_has ls 2 [(0, .ref (ad 0)), (1, .int k)] := hl
  have hS : va_S (xA 42 ad) s.heap s.heap [] := va_S.rf
  have hAd : ∀ k, k < 42 → xA 42 ad (ad k) := xA_in
  have hinX5 : ∀ w ∈ wsX50, w ∈ wsX5_leaveTrace := fun _ h => List.mem_cons_of_mem _ (List.mem_append_right _ h)
  have hF : CallFix p m c cX5_leaveTrace 2 s _ wsX5_leaveTrace RX5 := ⟨hx, hb, hml, hown, hts⟩
  refine lv_aload_n hx hb dX5_leaveTrace_0 rfl (lv_at hl 0 rfl) ?_
  refine lv_bipush (v := 31) hx hb dX5_leaveTrace_1 (by decide +kernel) ?_
  refine lv_aload_n hx hb dX5_leaveTrace_3 rfl (lv_at hl 0 rfl) ?_
  refine x_get (v := .int (S 0 7)) hx hb hts hinX5 hown hK hP 0 (by decide) rfl rfl 7 (by decide) (hts _ (List.mem_of_getElem? (i := 1) rfl)) rfl dX5_leaveTrace_4 ?_
  refine lv_imul hx hb dX5_leaveTrace_7 ?_
  refine lv_iload_n hx hb dX5_leaveTrace_8 rfl (lv_at hl 1 rfl) ?_
  refine lv_iadd hx hb dX5_leaveTrace_9 ?_
  refine x_put hx hb hts hinX5 tyX5 tyX5_ok nmX5 hown hK hI hAd hP hS 0 (by decide) rfl rfl 7 (by decide) (hts _ (List.mem_of_getElem? (i := 1) rfl)) rfl (upd (S 0) 7 ((31 * (S 0 7)) + k)) rfl rfl rfl (Nat.le_of_ble_eq_true rfl) dX5_leaveTrace_10 (fun H locs hP hS => ?_)
  have hP : va_P (dC, dI) vwCl (xW (cLy cI cZ cS cG ad) 42 ad (su S 0 7 ((31 * (S 0 7)) + k))) H := hP
  refine x_vret hx hb hr hlocks hP hS dX5_leaveTrace_13 ?_
  exact rfl

set_option maxHeartbeats 4000000 in
set_option maxRecDepth 100000 in
theorem c5_everySon (hI : xI 42 ad) (S : xSt) : xMi l yX5_everySon wsX5_everySon ({ frames := 0, cells := 0, slots := 0, locals := 0 }) (dC, dI) vwCl (tyl cI cZ cS cG) (cLy cI cZ cS cG ad) 42 ad [.ref (ad 0)] S (fun r S' => r = 1 <<< (S 12 2 &&& 31) - 1 ∧ S' = S) := by
  refine xM_of (cc := cX5_everySon) (nL := 1) (ret := (some .int)) (by decide) rfl (Nat.le_of_ble_eq_true rfl) ?_
  intro p e s m below meth c ls B hl hK hP
  obtain ⟨hx, hb, hml, hown, hts, hr, hlocks⟩ := B
  have hl : lv_has ls 1 [(0, .ref (ad 0))] := hl
  have hS : va_S (xA 42 ad) s.heap s.heap [] := va_S.rf
  have hAd : ∀ k, k < 42 → xA 42 ad (ad k) := xA_in
  have hinX4 : ∀ w ∈ wsX40, w ∈ wsX5_everySon := fun _ h => List.mem_cons_of_mem _ (List.mem_append_right _ h)
  have hinX5 : ∀ w ∈ wsX50, w ∈ wsX5_everySon := fun _ h => List.mem_cons_of_mem _ (List.mem_append_left _ (List.mem_append_right _ h))
  have hF : CallFix p m c cX5_everySon 1 s _ wsX5_everySon RX5 := ⟨hx, hb, hml, hown, hts⟩
  refine lv_iconst (v := 1) hx hb dX5_everySon_0 (by decide +kernel) ?_
  refine lv_aload_n hx hb dX5_everySon_1 rfl (lv_at hl 0 rfl) ?_
  refine x_get (v := .ref (ad 12)) hx hb hts hinX5 hown hK hP 0 (by decide) rfl rfl 2 (by decide) (hts _ (List.mem_of_getElem? (i := 1) rfl)) rfl dX5_everySon_2 ?_
  refine x_get (v := .int (S 12 2)) hx hb hts hinX4 hown hK hP 12 (by decide) rfl rfl 2 (by decide) (hts _ (List.mem_of_getElem? (i := 2) rfl)) rfl dX5_everySon_5 ?_
  refine lv_ishl hx hb dX5_everySon_8 ?_
  refine lv_iconst (v := 1) hx hb dX5_everySon_9 (by decide +kernel) ?_
  refine lv_isub hx hb dX5_everySon_10 ?_
  refine x_iret hx hb hr hlocks hP hS dX5_everySon_11 ?_
  exact ⟨rfl, rfl⟩

set_option maxHeartbeats 4000000 in
set_option maxRecDepth 100000 in
theorem c5_trace (hI : xI 42 ad) (S : xSt) : xMi l yX5_trace wsX5_trace ({ frames := 0, cells := 0, slots := 0, locals := 0 }) (dC, dI) vwCl (tyl cI cZ cS cG) (cLy cI cZ cS cG ad) 42 ad [.ref (ad 0)] S (fun r S' => r = S 0 7 ∧ S' = S) := by
  refine xM_of (cc := cX5_trace) (nL := 1) (ret := (some .int)) (by decide) rfl (Nat.le_of_ble_eq_true rfl) ?_
  intro p e s m below meth c ls B hl hK hP
  obtain ⟨hx, hb, hml, hown, hts, hr, hlocks⟩ := B
  have hl : lv_has ls 1 [(0, .ref (ad 0))] := hl
  have hS : va_S (xA 42 ad) s.heap s.heap [] := va_S.rf
  have hAd : ∀ k, k < 42 → xA 42 ad (ad k) := xA_in
  have hinX5 : ∀ w ∈ wsX50, w ∈ wsX5_trace := fun _ h => List.mem_cons_of_mem _ (List.mem_append_right _ h)
  have hF : CallFix p m c cX5_trace 1 s _ wsX5_trace RX5 := ⟨hx, hb, hml, hown, hts⟩
  refine lv_aload_n hx hb dX5_trace_0 rfl (lv_at hl 0 rfl) ?_
  refine x_get (v := .int (S 0 7)) hx hb hts hinX5 hown hK hP 0 (by decide) rfl rfl 7 (by decide) (hts _ (List.mem_of_getElem? (i := 1) rfl)) rfl dX5_trace_1 ?_
  refine x_iret hx hb hr hlocks hP hS dX5_trace_4 ?_
  exact ⟨rfl, rfl⟩

set_option maxHeartbeats 4000000 in
set_option maxRecDepth 100000 in
theorem c5_fault (hI : xI 42 ad) (S : xSt) : xMi l yX5_fault wsX5_fault ({ frames := 0, cells := 0, slots := 0, locals := 0 }) (dC, dI) vwCl (tyl cI cZ cS cG) (cLy cI cZ cS cG ad) 42 ad [.ref (ad 0)] S (fun r S' => r = S 0 8 ∧ S' = S) := by
  refine xM_of (cc := cX5_fault) (nL := 1) (ret := (some .int)) (by decide) rfl (Nat.le_of_ble_eq_true rfl) ?_
  intro p e s m below meth c ls B hl hK hP
  obtain ⟨hx, hb, hml, hown, hts, hr, hlocks⟩ := B
  have hl : lv_has ls 1 [(0, .ref (ad 0))] := hl
  have hS : va_S (xA 42 ad) s.heap s.heap [] := va_S.rf
  have hAd : ∀ k, k < 42 → xA 42 ad (ad k) := xA_in
  have hinX5 : ∀ w ∈ wsX50, w ∈ wsX5_fault := fun _ h => List.mem_cons_of_mem _ (List.mem_append_right _ h)
  have hF : CallFix p m c cX5_fault 1 s _ wsX5_fault RX5 := ⟨hx, hb, hml, hown, hts⟩
  refine lv_aload_n hx hb dX5_fault_0 rfl (lv_at hl 0 rfl) ?_
  refine x_get (v := .int (S 0 8)) hx hb hts hinX5 hown hK hP 0 (by decide) rfl rfl 8 (by decide) (hts _ (List.mem_of_getElem? (i := 1) rfl)) rfl dX5_fault_1 ?_
  refine x_iret hx hb hr hlocks hP hS dX5_fault_4 ?_
  exact ⟨rfl, rfl⟩

set_option maxHeartbeats 4000000 in
set_option maxRecDepth 100000 in
theorem c2_hasCell (hI : xI 42 ad) (S : xSt) (k : Nat) (hk : k < 4) (i : Int32) : xMi l yX2_hasCell wsX2_hasCell ({ frames := 0, cells := 0, slots := 0, locals := 0 }) (dC, dI) vwCl (tyl cI cZ cS cG) (cLy cI cZ cS cG ad) 42 ad [.ref (ad (2 + k)), .int i] S (fun r S' => r = (if inR i (S (2 + k) 3) then 1 else 0) ∧ S' = S) := by
  refine xM_of (cc := cX2_hasCell) (nL := 2) (ret := (some .boolean)) (by decide) rfl (Nat.le_of_ble_eq_true rfl) ?_
  intro p e s m below meth c ls B hl hK hP
  obtain ⟨hx, hb, hml, hown, hts, hr, hlocks⟩ := B
  have hl : lv_has ls 2 [(0, .ref (ad (2 + k))), (1, .int i)] := hl
  have hS : va_S (xA 42 ad) s.heap s.heap [] := va_S.rf
  have hAd : ∀ k, k < 42 → xA 42 ad (ad k) := xA_in
  have hinX2 : ∀ w ∈ wsX20, w ∈ wsX2_hasCell := fun _ h => List.mem_cons_of_mem _ (List.mem_append_right _ h)
  have hF : CallFix p m c cX2_hasCell 2 s _ wsX2_hasCell RX2 := ⟨hx, hb, hml, hown, hts⟩
  refine lv_iload_n hx hb dX2_hasCell_0 rfl (lv_at hl 1 rfl) ?_
  refine lv_if_lt (tgt := 16) hx hb dX2_hasCell_1 (by decide) (fun c1 => ?_) (fun c1 => ?_)
  · have d1 := Int32.not_le.mpr c1
    refine lv_iconst (v := 0) hx hb dX2_hasCell_16 (by decide +kernel) ?_
    refine x_zret hx hb hr hlocks hP hS dX2_hasCell_17 (Or.inl rfl) ?_
    skip
    exact ⟨by simp [inR, wit, c1, d1], rfl⟩
  · have d1 := Int32.not_lt.mp c1
    refine lv_iload_n hx hb dX2_hasCell_4 rfl (lv_at hl 1 rfl) ?_
    refine lv_aload_n hx hb dX2_hasCell_5 rfl (lv_at hl 0 rfl) ?_
    refine x_get (v := .int (S (2 + k) 3)) hx hb hts hinX2 hown hK hP (2 + k) (by omega) (cLy_sheet (by omega) _) rfl 3 (by decide) (hts _ (List.mem_of_getElem? (i := 1) rfl)) rfl dX2_hasCell_6 ?_
    refine lv_icmp_ge (tgt := 16) hx hb dX2_hasCell_9 (by decide) (fun c9 => ?_) (fun c9 => ?_)
    · have d9 := Int32.not_lt.mpr c9
      refine lv_iconst (v := 0) hx hb dX2_hasCell_16 (by decide +kernel) ?_
      refine x_zret hx hb hr hlocks hP hS dX2_hasCell_17 (Or.inl rfl) ?_
      skip
      exact ⟨by simp [inR, wit, c1, d1, c9, d9], rfl⟩
    · have d9 := Int32.not_le.mp c9
      refine lv_iconst (v := 1) hx hb dX2_hasCell_12 (by decide +kernel) ?_
      refine lv_goto (tgt := 17) hx hb dX2_hasCell_13 (by decide) ?_
      refine x_zret hx hb hr hlocks hP hS dX2_hasCell_17 (Or.inr rfl) ?_
      skip
      exact ⟨by simp [inR, wit, c1, d1, c9, d9], rfl⟩

set_option maxHeartbeats 4000000 in
set_option maxRecDepth 100000 in
theorem c2_hasCells (hI : xI 42 ad) (S : xSt) (k : Nat) (hk : k < 4) (i n : Int32) : xMi l yX2_hasCells wsX2_hasCells ({ frames := 0, cells := 0, slots := 0, locals := 0 }) (dC, dI) vwCl (tyl cI cZ cS cG) (cLy cI cZ cS cG ad) 42 ad [.ref (ad (2 + k)), .int i, .int n] S (fun r S' => r = (if hCs i n (S (2 + k) 3) then 1 else 0) ∧ S' = S) := by
  refine xM_of (cc := cX2_hasCells) (nL := 3) (ret := (some .boolean)) (by decide) rfl (Nat.le_of_ble_eq_true rfl) ?_
  intro p e s m below meth c ls B hl hK hP
  obtain ⟨hx, hb, hml, hown, hts, hr, hlocks⟩ := B
  have hl : lv_has ls 3 [(0, .ref (ad (2 + k))), (1, .int i), (2, .int n)] := hl
  have hS : va_S (xA 42 ad) s.heap s.heap [] := va_S.rf
  have hAd : ∀ k, k < 42 → xA 42 ad (ad k) := xA_in
  have hinX2 : ∀ w ∈ wsX20, w ∈ wsX2_hasCells := fun _ h => List.mem_cons_of_mem _ (List.mem_append_right _ h)
  have hF : CallFix p m c cX2_hasCells 3 s _ wsX2_hasCells RX2 := ⟨hx, hb, hml, hown, hts⟩
  refine lv_iload_n hx hb dX2_hasCells_0 rfl (lv_at hl 1 rfl) ?_
  refine lv_if_lt (tgt := 30) hx hb dX2_hasCells_1 (by decide) (fun c1 => ?_) (fun c1 => ?_)
  · have d1 := Int32.not_le.mpr c1
    refine lv_iconst (v := 0) hx hb dX2_hasCells_30 (by decide +kernel) ?_
    refine x_zret hx hb hr hlocks hP hS dX2_hasCells_31 (Or.inl rfl) ?_
    skip
    exact ⟨by simp [hCs, c1, d1], rfl⟩
  · have d1 := Int32.not_lt.mp c1
    refine lv_iload_n hx hb dX2_hasCells_4 rfl (lv_at hl 1 rfl) ?_
    refine lv_aload_n hx hb dX2_hasCells_5 rfl (lv_at hl 0 rfl) ?_
    refine x_get (v := .int (S (2 + k) 3)) hx hb hts hinX2 hown hK hP (2 + k) (by omega) (cLy_sheet (by omega) _) rfl 3 (by decide) (hts _ (List.mem_of_getElem? (i := 1) rfl)) rfl dX2_hasCells_6 ?_
    refine lv_icmp_gt (tgt := 30) hx hb dX2_hasCells_9 (by decide) (fun c9 => ?_) (fun c9 => ?_)
    · have d9 := Int32.not_le.mpr c9
      refine lv_iconst (v := 0) hx hb dX2_hasCells_30 (by decide +kernel) ?_
      refine x_zret hx hb hr hlocks hP hS dX2_hasCells_31 (Or.inl rfl) ?_
      skip
      exact ⟨by simp [hCs, c1, d1, c9, d9], rfl⟩
    · have d9 := Int32.not_lt.mp c9
      refine lv_iload_n hx hb dX2_hasCells_12 rfl (lv_at hl 2 rfl) ?_
      refine lv_if_lt (tgt := 30) hx hb dX2_hasCells_13 (by decide) (fun c13 => ?_) (fun c13 => ?_)
      · have d13 := Int32.not_le.mpr c13
        refine lv_iconst (v := 0) hx hb dX2_hasCells_30 (by decide +kernel) ?_
        refine x_zret hx hb hr hlocks hP hS dX2_hasCells_31 (Or.inl rfl) ?_
        skip
        exact ⟨by simp [hCs, c1, d1, c9, d9, c13, d13], rfl⟩
      · have d13 := Int32.not_lt.mp c13
        refine lv_iload_n hx hb dX2_hasCells_16 rfl (lv_at hl 2 rfl) ?_
        refine lv_aload_n hx hb dX2_hasCells_17 rfl (lv_at hl 0 rfl) ?_
        refine x_get (v := .int (S (2 + k) 3)) hx hb hts hinX2 hown hK hP (2 + k) (by omega) (cLy_sheet (by omega) _) rfl 3 (by decide) (hts _ (List.mem_of_getElem? (i := 1) rfl)) rfl dX2_hasCells_18 ?_
        refine lv_iload_n hx hb dX2_hasCells_21 rfl (lv_at hl 1 rfl) ?_
        refine lv_isub hx hb dX2_hasCells_22 ?_
        refine lv_icmp_gt (tgt := 30) hx hb dX2_hasCells_23 (by decide) (fun c23 => ?_) (fun c23 => ?_)
        · have d23 := Int32.not_le.mpr c23
          refine lv_iconst (v := 0) hx hb dX2_hasCells_30 (by decide +kernel) ?_
          refine x_zret hx hb hr hlocks hP hS dX2_hasCells_31 (Or.inl rfl) ?_
          skip
          exact ⟨by simp [hCs, c1, d1, c9, d9, c13, d13, c23, d23], rfl⟩
        · have d23 := Int32.not_lt.mp c23
          refine lv_iconst (v := 1) hx hb dX2_hasCells_26 (by decide +kernel) ?_
          refine lv_goto (tgt := 31) hx hb dX2_hasCells_27 (by decide) ?_
          refine x_zret hx hb hr hlocks hP hS dX2_hasCells_31 (Or.inr rfl) ?_
          skip
          exact ⟨by simp [hCs, c1, d1, c9, d9, c13, d13, c23, d23], rfl⟩

set_option maxHeartbeats 4000000 in
set_option maxRecDepth 100000 in
theorem c2_at (hI : xI 42 ad) (S : xSt) (k : Nat) (hk : k < 4) (L : Nat) (hL : S (2 + k) 3 = nI L) (hL60 : L ≤ 60) (i : Int32) : xMi l yX2_at wsX2_at ({ frames := 1, cells := 0, slots := 0, locals := 21 }) (dC, dI) vwCl (tyl cI cZ cS cG) (cLy cI cZ cS cG ad) 42 ad [.ref (ad (2 + k)), .int i] S (fun r S' => r = (if inR i (S (2 + k) 3) then S (6 + k) (nN i) else 0) ∧ S' = S) := by
  refine xM_of (cc := cX2_at) (nL := 2) (ret := (some .int)) (by decide) rfl (Nat.le_of_ble_eq_true rfl) ?_
  intro p e s m below meth c ls B hl hK hP
  obtain ⟨hx, hb, hml, hown, hts, hr, hlocks⟩ := B
  have hl : lv_has ls 2 [(0, .ref (ad (2 + k))), (1, .int i)] := hl
  have hS : va_S (xA 42 ad) s.heap s.heap [] := va_S.rf
  have hAd : ∀ k, k < 42 → xA 42 ad (ad k) := xA_in
  have hinX2 : ∀ w ∈ wsX20, w ∈ wsX2_at := fun _ h => List.mem_cons_of_mem _ (List.mem_append_right _ h)
  have hF : CallFix p m c cX2_at 2 s _ wsX2_at RX2 := ⟨hx, hb, hml, hown, hts⟩
  refine lv_aload_n hx hb dX2_at_0 rfl (lv_at hl 0 rfl) ?_
  refine lv_iload_n hx hb dX2_at_1 rfl (lv_at hl 1 rfl) ?_
  refine x_calli (x_runV (As := [.int i]) (rest := []) hF (c2_hasCell hI S k (by omega) i ) (cwV 1 hts gX2_at_X2_hasCell rfl rfl rfl (by decide +kernel) ⟨Nat.le_of_ble_eq_true rfl, Nat.le_of_ble_eq_true rfl⟩) hK hP (by omega) (cLy_sheet (by omega) _) rfl rfl hl.1 rfl (Nat.le_of_ble_eq_true rfl) dX2_at_2 ⟨Nat.zero_le _, Nat.zero_le _⟩) hS hAd (fun r2 S2 H locs hw hP _ hS => ?_)
  obtain ⟨hw, eS2⟩ := hw
  rw [eS2] at hP
  by_cases q2 : inR i (S (2 + k) 3) = true
  · have hw : r2 = 1 := hw.trans (if_pos q2)
    subst hw
    obtain ⟨j2, hj2, rfl⟩ : ∃ j, j < L ∧ i = nI j := inR_ex (by rw [← hL]; exact q2) (by omega)
    have en2 : nN (nI j2) = j2 := nN_nI (by omega)
    refine lv_if_eq (tgt := 17) hx hb dX2_at_5 (by decide) (fun hc => absurd hc (by decide)) (fun _ => ?_)
    refine lv_aload_n hx hb dX2_at_8 rfl (lv_at hl 0 rfl) ?_
    refine x_get (v := .ref (ad (6 + k))) hx hb hts hinX2 hown hK hP (2 + k) (by omega) (cLy_sheet (by omega) _) rfl 0 (by decide) (hts _ (List.mem_of_getElem? (i := 1) rfl)) rfl dX2_at_9 ?_
    refine lv_iload_n hx hb dX2_at_12 rfl (lv_at hl 1 rfl) ?_
    refine x_iald (v := S (6 + k) j2) hx hb hK hP (6 + k) 0 (by omega) (cLy_cells (by omega) _) rfl j2 rfl (by omega) (by decide) rfl dX2_at_13 ?_
    refine lv_goto (tgt := 18) hx hb dX2_at_14 (by decide) ?_
    refine x_iret hx hb hr hlocks hP hS dX2_at_18 ?_
    skip
    exact ⟨by first | (simp [q2, en2]; done) | grind, rfl⟩
  · have hw : r2 = 0 := hw.trans (if_neg q2)
    subst hw
    refine lv_if_eq (tgt := 17) hx hb dX2_at_5 (by decide) (fun _ => ?_) (fun hc => absurd (by decide) hc)
    refine lv_iconst (v := 0) hx hb dX2_at_17 (by decide +kernel) ?_
    refine x_iret hx hb hr hlocks hP hS dX2_at_18 ?_
    skip
    exact ⟨by first | (simp [q2]; done) | grind, rfl⟩

set_option maxHeartbeats 4000000 in
set_option maxRecDepth 100000 in
theorem c2_cut (hI : xI 42 ad) (S : xSt) (k : Nat) (hk : k < 4) (v : Int32) : xMi l yX2_cut wsX2_cut ({ frames := 0, cells := 0, slots := 0, locals := 0 }) (dC, dI) vwCl (tyl cI cZ cS cG) (cLy cI cZ cS cG ad) 42 ad [.ref (ad (2 + k)), .int v] S (fun r S' => r = cutL (S (2 + k) 2) v ∧ S' = S) := by
  refine xM_of (cc := cX2_cut) (nL := 2) (ret := (some .int)) (by decide) rfl (Nat.le_of_ble_eq_true rfl) ?_
  intro p e s m below meth c ls B hl hK hP
  obtain ⟨hx, hb, hml, hown, hts, hr, hlocks⟩ := B
  have hl : lv_has ls 2 [(0, .ref (ad (2 + k))), (1, .int v)] := hl
  have hS : va_S (xA 42 ad) s.heap s.heap [] := va_S.rf
  have hAd : ∀ k, k < 42 → xA 42 ad (ad k) := xA_in
  have hinX2 : ∀ w ∈ wsX20, w ∈ wsX2_cut := fun _ h => List.mem_cons_of_mem _ (List.mem_append_right _ h)
  have hF : CallFix p m c cX2_cut 2 s _ wsX2_cut RX2 := ⟨hx, hb, hml, hown, hts⟩
  refine lv_aload_n hx hb dX2_cut_0 rfl (lv_at hl 0 rfl) ?_
  refine x_get (v := .int (S (2 + k) 2)) hx hb hts hinX2 hown hK hP (2 + k) (by omega) (cLy_sheet (by omega) _) rfl 2 (by decide) (hts _ (List.mem_of_getElem? (i := 1) rfl)) rfl dX2_cut_1 ?_
  by_cases z4_0 : S (2 + k) 2 = 0
  · refine W.eq (g2 := F0 m 4 ls (.int 0 :: [])) (by rw [z4_0]) ?_
    refine lv_lookup (tgt := 32) (off := 28) hx hb dX2_cut_4 (by decide +kernel) (by decide +kernel) (by decide) ?_
    refine lv_iload_n hx hb dX2_cut_32 rfl (lv_at hl 1 rfl) ?_
    refine lv_i2b hx hb dX2_cut_33 rfl ?_
    refine x_iret hx hb hr hlocks hP hS dX2_cut_34 ?_
    skip
    exact ⟨by simp [cutL, z4_0], rfl⟩
  · skip
    by_cases z4_1 : S (2 + k) 2 = 1
    · refine W.eq (g2 := F0 m 4 ls (.int 1 :: [])) (by rw [z4_1]) ?_
      refine lv_lookup (tgt := 35) (off := 31) hx hb dX2_cut_4 (by decide +kernel) (by decide +kernel) (by decide) ?_
      refine lv_iload_n hx hb dX2_cut_35 rfl (lv_at hl 1 rfl) ?_
      refine lv_i2s hx hb dX2_cut_36 rfl ?_
      refine x_iret hx hb hr hlocks hP hS dX2_cut_37 ?_
      skip
      exact ⟨by simp [cutL, z4_0, z4_1], rfl⟩
    · skip
      refine lv_lookup (tgt := 38) (off := 34) hx hb dX2_cut_4 (by decide +kernel) (outL0_1 z4_0 z4_1) (by decide) ?_
      refine lv_iload_n hx hb dX2_cut_38 rfl (lv_at hl 1 rfl) ?_
      refine x_iret hx hb hr hlocks hP hS dX2_cut_39 ?_
      skip
      exact ⟨by simp [cutL, z4_0, z4_1], rfl⟩

set_option maxHeartbeats 4000000 in
set_option maxRecDepth 100000 in
theorem c2_write (hI : xI 42 ad) (S : xSt) (k : Nat) (hk : k < 4) (L : Nat) (hL : S (2 + k) 3 = nI L) (hL60 : L ≤ 60) (i v : Int32) : xMv l yX2_write wsX2_write ({ frames := 1, cells := 0, slots := 0, locals := 21 }) (dC, dI) vwCl (tyl cI cZ cS cG) (cLy cI cZ cS cG ad) 42 ad [.ref (ad (2 + k)), .int i, .int v] S (fun S' => S' = (if inR i (S (2 + k) 3) then su S (6 + k) (nN i) (cutL (S (2 + k) 2) v) else S)) := by
  refine xM_of (cc := cX2_write) (nL := 3) (ret := none) (by decide) rfl (Nat.le_of_ble_eq_true rfl) ?_
  intro p e s m below meth c ls B hl hK hP
  obtain ⟨hx, hb, hml, hown, hts, hr, hlocks⟩ := B
  have hl : lv_has ls 3 [(0, .ref (ad (2 + k))), (1, .int i), (2, .int v)] := hl
  have hS : va_S (xA 42 ad) s.heap s.heap [] := va_S.rf
  have hAd : ∀ k, k < 42 → xA 42 ad (ad k) := xA_in
  have hinX2 : ∀ w ∈ wsX20, w ∈ wsX2_write := fun _ h => List.mem_cons_of_mem _ (List.mem_append_right _ h)
  have hF : CallFix p m c cX2_write 3 s _ wsX2_write RX2 := ⟨hx, hb, hml, hown, hts⟩
  refine lv_aload_n hx hb dX2_write_0 rfl (lv_at hl 0 rfl) ?_
  refine lv_iload_n hx hb dX2_write_1 rfl (lv_at hl 1 rfl) ?_
  refine x_calli (x_runV (As := [.int i]) (rest := []) hF (c2_hasCell hI S k (by omega) i ) (cwV 1 hts gX2_write_X2_hasCell rfl rfl rfl (by decide +kernel) ⟨Nat.le_of_ble_eq_true rfl, Nat.le_of_ble_eq_true rfl⟩) hK hP (by omega) (cLy_sheet (by omega) _) rfl rfl hl.1 rfl (Nat.le_of_ble_eq_true rfl) dX2_write_2 ⟨Nat.zero_le _, Nat.zero_le _⟩) hS hAd (fun r2 S2 H locs hw hP _ hS => ?_)
  obtain ⟨hw, eS2⟩ := hw
  rw [eS2] at hP
  by_cases q2 : inR i (S (2 + k) 3) = true
  · have hw : r2 = 1 := hw.trans (if_pos q2)
    subst hw
    obtain ⟨j2, hj2, rfl⟩ : ∃ j, j < L ∧ i = nI j := inR_ex (by rw [← hL]; exact q2) (by omega)
    have en2 : nN (nI j2) = j2 := nN_nI (by omega)
    refine lv_if_eq (tgt := 19) hx hb dX2_write_5 (by decide) (fun hc => absurd hc (by decide)) (fun _ => ?_)
    refine lv_aload_n hx hb dX2_write_8 rfl (lv_at hl 0 rfl) ?_
    refine x_get (v := .ref (ad (6 + k))) hx hb hts hinX2 hown hK hP (2 + k) (by omega) (cLy_sheet (by omega) _) rfl 0 (by decide) (hts _ (List.mem_of_getElem? (i := 1) rfl)) rfl dX2_write_9 ?_
    refine lv_iload_n hx hb dX2_write_12 rfl (lv_at hl 1 rfl) ?_
    refine lv_aload_n hx hb dX2_write_13 rfl (lv_at hl 0 rfl) ?_
    refine lv_iload_n hx hb dX2_write_14 rfl (lv_at hl 2 rfl) ?_
    refine x_calli (x_runV (As := [.int v]) (rest := [.int (nI j2), .ref (ad (6 + k))]) hF (c2_cut hI S k (by omega) v ) (cwV 1 hts gX2_write_X2_cut rfl rfl rfl (by decide +kernel) ⟨Nat.le_of_ble_eq_true rfl, Nat.le_of_ble_eq_true rfl⟩) hK hP (by omega) (cLy_sheet (by omega) _) rfl rfl hl.1 rfl (Nat.le_of_ble_eq_true rfl) dX2_write_15 ⟨Nat.zero_le _, Nat.zero_le _⟩) hS hAd (fun r15 S15 H locs hw hP _ hS => ?_)
    obtain ⟨er15, eS15⟩ := hw
    rw [eS15] at hP
    refine x_iast hx hb hK hI hAd hP hS (6 + k) 0 (by omega) (cLy_cells (by omega)) rfl j2 rfl (by omega) (by decide) dX2_write_18 (fun H locs hP hS => ?_)
    refine x_vret hx hb hr hlocks hP hS dX2_write_19 ?_
    subst er15
    exact (by first | (simp [q2, en2]; done) | grind)
  · have hw : r2 = 0 := hw.trans (if_neg q2)
    subst hw
    refine lv_if_eq (tgt := 19) hx hb dX2_write_5 (by decide) (fun _ => ?_) (fun hc => absurd (by decide) hc)
    refine x_vret hx hb hr hlocks hP hS dX2_write_19 ?_
    skip
    exact (by first | (simp [q2]; done) | grind)

set_option maxHeartbeats 4000000 in
set_option maxRecDepth 100000 in
theorem c2_begin (hI : xI 42 ad) (S : xSt) (k : Nat) (hk : k < 4) (ln : Int32) (n0 : Nat) (hn0 : n0 ≤ 60) : xMv l yX2_begin wsX2_begin ({ frames := 1, cells := 0, slots := 0, locals := 40 }) (dC, dI) vwCl (tyl cI cZ cS cG) (cLy cI cZ cS cG ad) 42 ad [.ref (ad (2 + k)), .int ln, .int (nI n0)] S (fun S' => S' = shN S k ln (nI n0)) := by
  refine xM_of (cc := cX2_begin) (nL := 4) (ret := none) (by decide) rfl (Nat.le_of_ble_eq_true rfl) ?_
  intro p e s m below meth c ls B hl hK hP
  obtain ⟨hx, hb, hml, hown, hts, hr, hlocks⟩ := B
  have hl : lv_has ls 4 [(0, .ref (ad (2 + k))), (1, .int ln), (2, .int (nI n0))] := hl
  have hS : va_S (xA 42 ad) s.heap s.heap [] := va_S.rf
  have hAd : ∀ k, k < 42 → xA 42 ad (ad k) := xA_in
  have hinX2 : ∀ w ∈ wsX20, w ∈ wsX2_begin := fun _ h => List.mem_cons_of_mem _ (List.mem_append_right _ h)
  have hF : CallFix p m c cX2_begin 4 s _ wsX2_begin RX2 := ⟨hx, hb, hml, hown, hts⟩
  have L26 : ∀ (n : Nat) (i : Nat) (hi : i + n = 60) (H : Heap) (locs : List Loc) (ls : Array Slot), va_P (dC, dI) vwCl (xW (cLy cI cZ cS cG ad) 42 ad (sr (su (su (su S (2 + k) 1 1) (2 + k) 2 ln) (2 + k) 3 (nI n0)) (6 + k) (fil (fun _ => 0) (S (6 + k)) i))) H → va_S (xA 42 ad) s.heap H locs → lv_has ls 4 [(0, .ref (ad (2 + k))), (1, .int ln), (2, .int (nI n0)), (3, .int (nI i))] → W p l e ({ frames := 1, cells := 0, slots := 0, locals := 40 }) s m ([.ref (ad (2 + k)), .int ln, .int (nI n0)] : List Value).toArray below meth c H locs 0 0 (MQ below (xQv (dC, dI) vwCl (cLy cI cZ cS cG ad) 42 ad (fun S' => S' = shN S k ln (nI n0))) ([.ref (ad (2 + k)), .int ln, .int (nI n0)] : List Value).toArray s 0 0 (xA 42 ad)) (F0 m 26 ls []) := by
    intro n
    induction n with
    | zero =>
      intro i hi H locs ls hP hS hl
      refine lv_iload_n hx hb dX2_begin_26 rfl (lv_at hl 3 rfl) ?_
      refine lv_bipush (v := 60) hx hb dX2_begin_27 (by decide +kernel) ?_
      refine lv_icmp_ge (tgt := 45) hx hb dX2_begin_29 (by decide) (fun _ => ?_) (fun hc => absurd (nI_le (a := 60) (by omega) (by omega)) hc)
      refine x_vret hx hb hr hlocks hP hS dX2_begin_45 ?_
      exact (by rw [show i = 60 by omega]; rfl)
    | succ n ih =>
      intro i hi H locs ls hP hS hl
      refine lv_iload_n hx hb dX2_begin_26 rfl (lv_at hl 3 rfl) ?_
      refine lv_bipush (v := 60) hx hb dX2_begin_27 (by decide +kernel) ?_
      refine lv_icmp_ge (tgt := 45) hx hb dX2_begin_29 (by decide) (fun hc => absurd hc (nI_ge (b := 60) (by omega) (by omega))) (fun _ => ?_)
      refine lv_aload_n hx hb dX2_begin_32 rfl (lv_at hl 0 rfl) ?_
      refine x_get (v := .ref (ad (6 + k))) hx hb hts hinX2 hown hK hP (2 + k) (by omega) (cLy_sheet (by omega) _) rfl 0 (by decide) (hts _ (List.mem_of_getElem? (i := 11) rfl)) rfl dX2_begin_33 ?_
      refine lv_iload_n hx hb dX2_begin_36 rfl (lv_at hl 3 rfl) ?_
      refine lv_iconst (v := 0) hx hb dX2_begin_37 (by decide +kernel) ?_
      refine x_iast hx hb hK hI hAd hP hS (6 + k) 0 (by omega) (cLy_cells (by omega)) rfl i rfl (by omega) (by decide) dX2_begin_38 (fun H locs hP hS => ?_)
      refine lv_iinc (v := nI (i + 1)) (lv' := [(3, .int (nI (i + 1))), (0, .ref (ad (2 + k))), (1, .int ln), (2, .int (nI n0))]) hx hb dX2_begin_39 hl (k := 3) rfl (nI_1 _) (by decide) rfl (fun ls hl => ?_)
      refine lv_goto (tgt := 26) hx hb dX2_begin_42 (by decide) ?_
      have eST : (su (sr (su (su (su S (2 + k) 1 1) (2 + k) 2 ln) (2 + k) 3 (nI n0)) (6 + k) (fil (fun _ => 0) (S (6 + k)) i)) (6 + k) i 0) = (sr (su (su (su S (2 + k) 1 1) (2 + k) 2 ln) (2 + k) 3 (nI n0)) (6 + k) (fil (fun _ => 0) (S (6 + k)) (i + 1))) := su_fil rfl
      rw [eST] at hP
      exact ih (i + 1) (by omega) H locs ls hP hS (lv_sub hl [1, 2, 3, 0] rfl)
  refine lv_aload_n hx hb dX2_begin_0 rfl (lv_at hl 0 rfl) ?_
  refine lv_iconst (v := 1) hx hb dX2_begin_1 (by decide +kernel) ?_
  refine x_put hx hb hts hinX2 tyX2 tyX2_ok nmX2 hown hK hI hAd hP hS (2 + k) (by omega) (cLy_sheet (by omega) _) rfl 1 (by decide) (hts _ (List.mem_of_getElem? (i := 1) rfl)) rfl (upd (S (2 + k)) 1 1) ((cLy_sheet (by omega) _).trans rfl) (by decide +kernel) rfl (Nat.le_of_ble_eq_true rfl) dX2_begin_2 (fun H locs hP hS => ?_)
  have hP : va_P (dC, dI) vwCl (xW (cLy cI cZ cS cG ad) 42 ad (su S (2 + k) 1 1)) H := hP
  refine lv_aload_n hx hb dX2_begin_5 rfl (lv_at hl 0 rfl) ?_
  refine lv_iload_n hx hb dX2_begin_6 rfl (lv_at hl 1 rfl) ?_
  refine x_put hx hb hts hinX2 tyX2 tyX2_ok nmX2 hown hK hI hAd hP hS (2 + k) (by omega) (cLy_sheet (by omega) _) rfl 2 (by decide) (hts _ (List.mem_of_getElem? (i := 2) rfl)) rfl (upd ((su S (2 + k) 1 1) (2 + k)) 2 ln) ((cLy_sheet (by omega) _).trans rfl) rfl rfl (Nat.le_of_ble_eq_true rfl) dX2_begin_7 (fun H locs hP hS => ?_)
  have hP : va_P (dC, dI) vwCl (xW (cLy cI cZ cS cG ad) 42 ad (su (su S (2 + k) 1 1) (2 + k) 2 ln)) H := hP
  refine lv_aload_n hx hb dX2_begin_10 rfl (lv_at hl 0 rfl) ?_
  refine lv_iconst (v := 0) hx hb dX2_begin_11 (by decide +kernel) ?_
  refine lv_iload_n hx hb dX2_begin_12 rfl (lv_at hl 2 rfl) ?_
  refine lv_bipush (v := 60) hx hb dX2_begin_13 (by decide +kernel) ?_
  refine va_mmin hx hb (hml.trans hl.1.symm) hown (hts _ (List.mem_of_getElem? (i := 3) rfl)) (hts _ (List.mem_of_getElem? (i := 4) rfl)) (hts _ (List.mem_of_getElem? (i := 5) rfl)) (hts _ (List.mem_of_getElem? (i := 6) rfl)) (Nat.le_of_ble_eq_true rfl) (Nat.le_of_ble_eq_true rfl) (Nat.zero_le _) (Nat.zero_le _) dX2_begin_15 ?_
  refine va_mmax hx hb (hml.trans hl.1.symm) hown (hts _ (List.mem_of_getElem? (i := 7) rfl)) (hts _ (List.mem_of_getElem? (i := 8) rfl)) (hts _ (List.mem_of_getElem? (i := 5) rfl)) (hts _ (List.mem_of_getElem? (i := 9) rfl)) (Nat.le_of_ble_eq_true rfl) (Nat.le_of_ble_eq_true rfl) (Nat.zero_le _) (Nat.zero_le _) dX2_begin_18 ?_
  rw [mm60 hn0]
  refine x_put hx hb hts hinX2 tyX2 tyX2_ok nmX2 hown hK hI hAd hP hS (2 + k) (by omega) (cLy_sheet (by omega) _) rfl 3 (by decide) (hts _ (List.mem_of_getElem? (i := 10) rfl)) rfl (upd ((su (su S (2 + k) 1 1) (2 + k) 2 ln) (2 + k)) 3 (nI n0)) ((cLy_sheet (by omega) _).trans rfl) rfl rfl (Nat.le_of_ble_eq_true rfl) dX2_begin_21 (fun H locs hP hS => ?_)
  have hP : va_P (dC, dI) vwCl (xW (cLy cI cZ cS cG ad) 42 ad (su (su (su S (2 + k) 1 1) (2 + k) 2 ln) (2 + k) 3 (nI n0))) H := hP
  refine lv_iconst (v := 0) hx hb dX2_begin_24 (by decide +kernel) ?_
  refine lv_istore_n (lv' := [(3, .int 0), (0, .ref (ad (2 + k))), (1, .int ln), (2, .int (nI n0))]) hx hb dX2_begin_25 rfl hl (by decide) rfl (fun ls hl => ?_)
  have hP : va_P (dC, dI) vwCl (xW (cLy cI cZ cS cG ad) 42 ad (sr (su (su (su S (2 + k) 1 1) (2 + k) 2 ln) (2 + k) 3 (nI n0)) (6 + k) (fil (fun _ => 0) (S (6 + k)) 0))) H := by rw [fil_0, sr_same' (show S (6 + k) = (su (su (su S (2 + k) 1 1) (2 + k) 2 ln) (2 + k) 3 (nI n0)) (6 + k) from by simp [su, sr])]; exact hP
  exact L26 60 0 rfl _ _ ls hP hS (lv_sub hl [1, 2, 3, 0] rfl)

set_option maxHeartbeats 4000000 in
set_option maxRecDepth 100000 in
theorem c5_laneFault (hI : xI 42 ad) (S : xSt) (k : Nat) (hk : k < 4) (ln : Int32) : xMi l yX5_laneFault wsX5_laneFault ({ frames := 0, cells := 0, slots := 0, locals := 0 }) (dC, dI) vwCl (tyl cI cZ cS cG) (cLy cI cZ cS cG ad) 42 ad [.ref (ad (2 + k)), .int ln] S (fun r S' => r = laneF S k ln ∧ S' = S) := by
  refine xM_of (cc := cX5_laneFault) (nL := 2) (ret := (some .int)) (by decide) rfl (Nat.le_of_ble_eq_true rfl) ?_
  intro p e s m below meth c ls B hl hK hP
  obtain ⟨hx, hb, hml, hown, hts, hr, hlocks⟩ := B
  have hl : lv_has ls 2 [(0, .ref (ad (2 + k))), (1, .int ln)] := hl
  have hS : va_S (xA 42 ad) s.heap s.heap [] := va_S.rf
  have hAd : ∀ k, k < 42 → xA 42 ad (ad k) := xA_in
  have hinX2 : ∀ w ∈ wsX20, w ∈ wsX5_laneFault := fun _ h => List.mem_cons_of_mem _ (List.mem_append_right _ h)
  have hF : CallFix p m c cX5_laneFault 2 s _ wsX5_laneFault RX5 := ⟨hx, hb, hml, hown, hts⟩
  refine lv_aload_n hx hb dX5_laneFault_0 rfl (lv_at hl 0 rfl) ?_
  refine x_get (v := .int (S (2 + k) 1)) hx hb hts hinX2 hown hK hP (2 + k) (by omega) (cLy_sheet (by omega) _) rfl 1 (by decide) (hts _ (List.mem_of_getElem? (i := 1) rfl)) rfl dX5_laneFault_1 ?_
  refine lv_if_ne (tgt := 9) hx hb dX5_laneFault_4 (by decide) (fun c4 => ?_) (fun c4 => ?_)
  · refine lv_aload_n hx hb dX5_laneFault_9 rfl (lv_at hl 0 rfl) ?_
    refine x_get (v := .int (S (2 + k) 2)) hx hb hts hinX2 hown hK hP (2 + k) (by omega) (cLy_sheet (by omega) _) rfl 2 (by decide) (hts _ (List.mem_of_getElem? (i := 2) rfl)) rfl dX5_laneFault_10 ?_
    refine lv_iload_n hx hb dX5_laneFault_13 rfl (lv_at hl 1 rfl) ?_
    refine lv_icmp_ne (tgt := 21) hx hb dX5_laneFault_14 (by decide) (fun c14 => ?_) (fun c14 => ?_)
    · refine lv_iconst (v := 2) hx hb dX5_laneFault_21 (by decide +kernel) ?_
      refine x_iret hx hb hr hlocks hP hS dX5_laneFault_22 ?_
      skip
      exact ⟨by simp [laneF, c4, c14], rfl⟩
    · refine lv_iconst (v := 0) hx hb dX5_laneFault_17 (by decide +kernel) ?_
      refine lv_goto (tgt := 22) hx hb dX5_laneFault_18 (by decide) ?_
      refine x_iret hx hb hr hlocks hP hS dX5_laneFault_22 ?_
      skip
      exact ⟨by simp [laneF, c4, c14], rfl⟩
  · refine lv_iconst (v := 1) hx hb dX5_laneFault_7 (by decide +kernel) ?_
    refine x_iret hx hb hr hlocks hP hS dX5_laneFault_8 ?_
    skip
    exact ⟨by simp [laneF, c4], rfl⟩

set_option maxHeartbeats 4000000 in
set_option maxRecDepth 100000 in
theorem c5_rowFault (hI : xI 42 ad) (S : xSt) (k : Nat) (hk : k < 4) (ln i n : Int32) : xMi l yX5_rowFault wsX5_rowFault ({ frames := 1, cells := 0, slots := 0, locals := 22 }) (dC, dI) vwCl (tyl cI cZ cS cG) (cLy cI cZ cS cG ad) 42 ad [.ref (ad (2 + k)), .int ln, .int i, .int n] S (fun r S' => r = rowF S k ln i n ∧ S' = S) := by
  refine xM_of (cc := cX5_rowFault) (nL := 5) (ret := (some .int)) (by decide) rfl (Nat.le_of_ble_eq_true rfl) ?_
  intro p e s m below meth c ls B hl hK hP
  obtain ⟨hx, hb, hml, hown, hts, hr, hlocks⟩ := B
  have hl : lv_has ls 5 [(0, .ref (ad (2 + k))), (1, .int ln), (2, .int i), (3, .int n)] := hl
  have hS : va_S (xA 42 ad) s.heap s.heap [] := va_S.rf
  have hAd : ∀ k, k < 42 → xA 42 ad (ad k) := xA_in
  have hF : CallFix p m c cX5_rowFault 5 s _ wsX5_rowFault RX5 := ⟨hx, hb, hml, hown, hts⟩
  refine lv_aload_n hx hb dX5_rowFault_0 rfl (lv_at hl 0 rfl) ?_
  refine lv_iload_n hx hb dX5_rowFault_1 rfl (lv_at hl 1 rfl) ?_
  refine x_calli (x_runS (As := [.ref (ad (2 + k)), .int ln]) (rest := []) hF (c5_laneFault hI S k (by omega) ln ) (va_cwS 2 hts gX5_rowFault_X5_laneFault rfl rfl rfl (by decide +kernel) ⟨Nat.le_of_ble_eq_true rfl, Nat.le_of_ble_eq_true rfl⟩) hK hP rfl hl.1 rfl (Nat.le_of_ble_eq_true rfl) dX5_rowFault_2 ⟨Nat.zero_le _, Nat.zero_le _⟩) hS hAd (fun r2 S2 H locs hw hP _ hS => ?_)
  obtain ⟨er2, eS2⟩ := hw
  rw [eS2] at hP
  refine lv_istore (lv' := [(4, .int r2), (0, .ref (ad (2 + k))), (1, .int ln), (2, .int i), (3, .int n)]) hx hb dX5_rowFault_5 hl (by decide) rfl (fun ls hl => ?_)
  refine lv_iload hx hb dX5_rowFault_7 (lv_at hl 0 rfl) ?_
  refine lv_if_eq (tgt := 15) hx hb dX5_rowFault_9 (by decide) (fun c9 => ?_) (fun c9 => ?_)
  · refine lv_iload_n hx hb dX5_rowFault_15 rfl (lv_at hl 4 rfl) ?_
    refine lv_if_ge (tgt := 21) hx hb dX5_rowFault_16 (by decide) (fun c16 => ?_) (fun c16 => ?_)
    · have d16 := Int32.not_lt.mpr c16
      refine lv_aload_n hx hb dX5_rowFault_21 rfl (lv_at hl 1 rfl) ?_
      refine lv_iload_n hx hb dX5_rowFault_22 rfl (lv_at hl 3 rfl) ?_
      refine lv_iload_n hx hb dX5_rowFault_23 rfl (lv_at hl 4 rfl) ?_
      refine x_calli (x_runV (As := [.int i, .int n]) (rest := []) hF (c2_hasCells hI S k (by omega) i n ) (cwV 2 hts gX5_rowFault_X2_hasCells rfl rfl rfl (by decide +kernel) ⟨Nat.le_of_ble_eq_true rfl, Nat.le_of_ble_eq_true rfl⟩) hK hP (by omega) (cLy_sheet (by omega) _) rfl rfl hl.1 rfl (Nat.le_of_ble_eq_true rfl) dX5_rowFault_24 ⟨Nat.zero_le _, Nat.zero_le _⟩) hS hAd (fun r24 S24 H locs hw hP _ hS => ?_)
      obtain ⟨hw, eS24⟩ := hw
      rw [eS24] at hP
      by_cases q24 : hCs i n (S (2 + k) 3) = true
      · have hw : r24 = 1 := hw.trans (if_pos q24)
        subst hw
        refine lv_if_eq (tgt := 34) hx hb dX5_rowFault_27 (by decide) (fun hc => absurd hc (by decide)) (fun _ => ?_)
        refine lv_iconst (v := 0) hx hb dX5_rowFault_30 (by decide +kernel) ?_
        refine lv_goto (tgt := 35) hx hb dX5_rowFault_31 (by decide) ?_
        refine x_iret hx hb hr hlocks hP hS dX5_rowFault_35 ?_
        subst er2
        exact ⟨by simp [rowF, c9, c16, d16, q24], rfl⟩
      · have hw : r24 = 0 := hw.trans (if_neg q24)
        subst hw
        refine lv_if_eq (tgt := 34) hx hb dX5_rowFault_27 (by decide) (fun _ => ?_) (fun hc => absurd (by decide) hc)
        refine lv_iconst (v := 3) hx hb dX5_rowFault_34 (by decide +kernel) ?_
        refine x_iret hx hb hr hlocks hP hS dX5_rowFault_35 ?_
        subst er2
        exact ⟨by simp [rowF, c9, c16, d16, q24], rfl⟩
    · have d16 := Int32.not_le.mp c16
      refine lv_iconst (v := 4) hx hb dX5_rowFault_19 (by decide +kernel) ?_
      refine x_iret hx hb hr hlocks hP hS dX5_rowFault_20 ?_
      subst er2
      exact ⟨by simp [rowF, c9, c16, d16], rfl⟩
  · refine lv_iload hx hb dX5_rowFault_12 (lv_at hl 0 rfl) ?_
    refine x_iret hx hb hr hlocks hP hS dX5_rowFault_14 ?_
    subst er2
    exact ⟨by simp [rowF, c9], rfl⟩

end C2
