section C6
variable {l : Launch} {dC : Nat → ClassId} {dI : Nat → Nat → Nat} {cI cZ cS cG : ClassId} {ad bd : Nat → Nat}
set_option maxHeartbeats 4000000 in
set_option maxRecDepth 100000 in
theorem c3_takesDigit (hI : xI 42 ad) (S : xSt) (q t : Nat) (hq : S 10 1 = nI q) (hp : S 10 2 = nI t) (htq : t ≤ q) (hq60 : q ≤ 60) (fn ln : Int32) : xMi l yX3_takesDigit wsX3_takesDigit ({ frames := 0, cells := 0, slots := 0, locals := 0 }) (dC, dI) vwCl (tyl cI cZ cS cG) (cLy cI cZ cS cG ad) 42 ad [.ref (ad 10), .int fn, .int ln] S (fun r S' => r = (if tko q t (S 11 t) fn ln then S 11 t - fn else -9) ∧ S' = (if tko q t (S 11 t) fn ln then su S 10 2 (nI (t + 1)) else S)) := by
  refine xM_of (cc := cX3_takesDigit) (nL := 4) (ret := (some .int)) (by decide) rfl (Nat.le_of_ble_eq_true rfl) ?_
  intro p e s m below meth c ls B hl hK hP
  obtain ⟨hx, hb, hml, hown, hts, hr, hlocks⟩ := B
  have hl : lv_has ls 4 [(0, .ref (ad 10)), (1, .int fn), (2, .int ln)] := hl
  have hS : va_S (xA 42 ad) s.heap s.heap [] := va_S.rf
  have hAd : ∀ k, k < 42 → xA 42 ad (ad k) := xA_in
  have hinX3 : ∀ w ∈ wsX30, w ∈ wsX3_takesDigit := fun _ h => List.mem_cons_of_mem _ (List.mem_append_right _ h)
  have hF : CallFix p m c cX3_takesDigit 4 s _ wsX3_takesDigit RX3 := ⟨hx, hb, hml, hown, hts⟩
  refine lv_aload_n hx hb dX3_takesDigit_0 rfl (lv_at hl 0 rfl) ?_
  refine x_get (v := .int (nI t)) hx hb hts hinX3 hown hK hP 10 (by decide) rfl rfl 2 (by decide) (hts _ (List.mem_of_getElem? (i := 1) rfl)) (congrArg (fun z => some (Value.int z)) hp) dX3_takesDigit_1 ?_
  refine lv_aload_n hx hb dX3_takesDigit_4 rfl (lv_at hl 0 rfl) ?_
  refine x_get (v := .int (nI q)) hx hb hts hinX3 hown hK hP 10 (by decide) rfl rfl 1 (by decide) (hts _ (List.mem_of_getElem? (i := 2) rfl)) (congrArg (fun z => some (Value.int z)) hq) dX3_takesDigit_5 ?_
  refine lv_icmp_ge (tgt := 37) hx hb dX3_takesDigit_8 (by decide) (fun c8 => ?_) (fun c8 => ?_)
  · have d8 := Int32.not_lt.mpr c8
    have ht2 : ¬ t < q := by have := (nI_leI (by omega) (by omega)).mp c8; omega
    refine lv_bipush (v := (-9)) hx hb dX3_takesDigit_37 (by decide +kernel) ?_
    refine x_iret hx hb hr hlocks hP hS dX3_takesDigit_39 ?_
    skip
    exact ⟨by simp [tko, wit, c8, d8, ht2], by simp [tko, wit, c8, d8, ht2, ← nI_1]⟩
  · have d8 := Int32.not_le.mp c8
    have ht1 : t < q := by rcases Nat.lt_or_ge t q with z | z; exact z; exact absurd (nI_le z (by omega)) c8
    refine lv_aload_n hx hb dX3_takesDigit_11 rfl (lv_at hl 0 rfl) ?_
    refine x_get (v := .ref (ad 11)) hx hb hts hinX3 hown hK hP 10 (by decide) rfl rfl 0 (by decide) (hts _ (List.mem_of_getElem? (i := 3) rfl)) rfl dX3_takesDigit_12 ?_
    refine lv_aload_n hx hb dX3_takesDigit_15 rfl (lv_at hl 0 rfl) ?_
    refine x_get (v := .int (nI t)) hx hb hts hinX3 hown hK hP 10 (by decide) rfl rfl 2 (by decide) (hts _ (List.mem_of_getElem? (i := 1) rfl)) (congrArg (fun z => some (Value.int z)) hp) dX3_takesDigit_16 ?_
    refine x_iald (v := S 11 t) hx hb hK hP 11 0 (by decide) rfl rfl t rfl (by omega) (by decide) rfl dX3_takesDigit_19 ?_
    refine lv_iload_n hx hb dX3_takesDigit_20 rfl (lv_at hl 1 rfl) ?_
    refine lv_icmp_lt (tgt := 37) hx hb dX3_takesDigit_21 (by decide) (fun c21 => ?_) (fun c21 => ?_)
    · have d21 := Int32.not_le.mpr c21
      refine lv_bipush (v := (-9)) hx hb dX3_takesDigit_37 (by decide +kernel) ?_
      refine x_iret hx hb hr hlocks hP hS dX3_takesDigit_39 ?_
      skip
      exact ⟨by simp [tko, wit, c8, d8, ht1, c21, d21], by simp [tko, wit, c8, d8, ht1, c21, d21, ← nI_1]⟩
    · have d21 := Int32.not_lt.mp c21
      refine lv_aload_n hx hb dX3_takesDigit_24 rfl (lv_at hl 0 rfl) ?_
      refine x_get (v := .ref (ad 11)) hx hb hts hinX3 hown hK hP 10 (by decide) rfl rfl 0 (by decide) (hts _ (List.mem_of_getElem? (i := 3) rfl)) rfl dX3_takesDigit_25 ?_
      refine lv_aload_n hx hb dX3_takesDigit_28 rfl (lv_at hl 0 rfl) ?_
      refine x_get (v := .int (nI t)) hx hb hts hinX3 hown hK hP 10 (by decide) rfl rfl 2 (by decide) (hts _ (List.mem_of_getElem? (i := 1) rfl)) (congrArg (fun z => some (Value.int z)) hp) dX3_takesDigit_29 ?_
      refine x_iald (v := S 11 t) hx hb hK hP 11 0 (by decide) rfl rfl t rfl (by omega) (by decide) rfl dX3_takesDigit_32 ?_
      refine lv_iload_n hx hb dX3_takesDigit_33 rfl (lv_at hl 2 rfl) ?_
      refine lv_icmp_le (tgt := 40) hx hb dX3_takesDigit_34 (by decide) (fun c34 => ?_) (fun c34 => ?_)
      · have d34 := Int32.not_lt.mpr c34
        refine lv_aload_n hx hb dX3_takesDigit_40 rfl (lv_at hl 0 rfl) ?_
        refine x_get (v := .ref (ad 11)) hx hb hts hinX3 hown hK hP 10 (by decide) rfl rfl 0 (by decide) (hts _ (List.mem_of_getElem? (i := 3) rfl)) rfl dX3_takesDigit_41 ?_
        refine lv_aload_n hx hb dX3_takesDigit_44 rfl (lv_at hl 0 rfl) ?_
        refine x_get (v := .int (nI t)) hx hb hts hinX3 hown hK hP 10 (by decide) rfl rfl 2 (by decide) (hts _ (List.mem_of_getElem? (i := 1) rfl)) (congrArg (fun z => some (Value.int z)) hp) dX3_takesDigit_45 ?_
        refine x_iald (v := S 11 t) hx hb hK hP 11 0 (by decide) rfl rfl t rfl (by omega) (by decide) rfl dX3_takesDigit_48 ?_
        refine lv_iload_n hx hb dX3_takesDigit_49 rfl (lv_at hl 1 rfl) ?_
        refine lv_isub hx hb dX3_takesDigit_50 ?_
        refine lv_topi (fun x51 ex51 => ?_)
        refine lv_istore_n (lv' := [(3, .int x51), (0, .ref (ad 10)), (1, .int fn), (2, .int ln)]) hx hb dX3_takesDigit_51 rfl hl (by decide) rfl (fun ls hl => ?_)
        refine lv_aload_n hx hb dX3_takesDigit_52 rfl (lv_at hl 1 rfl) ?_
        refine lv_dup hx hb dX3_takesDigit_53 rfl ?_
        refine x_get (v := .int (nI t)) hx hb hts hinX3 hown hK hP 10 (by decide) rfl rfl 2 (by decide) (hts _ (List.mem_of_getElem? (i := 1) rfl)) (congrArg (fun z => some (Value.int z)) hp) dX3_takesDigit_54 ?_
        refine lv_iconst (v := 1) hx hb dX3_takesDigit_57 (by decide +kernel) ?_
        refine lv_iadd hx hb dX3_takesDigit_58 ?_
        refine x_put hx hb hts hinX3 tyX3 tyX3_ok nmX3 hown hK hI hAd hP hS 10 (by decide) rfl rfl 2 (by decide) (hts _ (List.mem_of_getElem? (i := 1) rfl)) rfl (upd (S 10) 2 ((nI t) + 1)) rfl rfl rfl (Nat.le_of_ble_eq_true rfl) dX3_takesDigit_59 (fun H locs hP hS => ?_)
        have hP : va_P (dC, dI) vwCl (xW (cLy cI cZ cS cG ad) 42 ad (su S 10 2 ((nI t) + 1))) H := hP
        refine lv_iload_n hx hb dX3_takesDigit_62 rfl (lv_at hl 0 rfl) ?_
        refine x_iret hx hb hr hlocks hP hS dX3_takesDigit_63 ?_
        subst ex51
        exact ⟨by simp [tko, wit, c8, d8, ht1, c21, d21, c34, d34], by simp [tko, wit, c8, d8, ht1, c21, d21, c34, d34, ← nI_1]⟩
      · have d34 := Int32.not_le.mp c34
        refine lv_bipush (v := (-9)) hx hb dX3_takesDigit_37 (by decide +kernel) ?_
        refine x_iret hx hb hr hlocks hP hS dX3_takesDigit_39 ?_
        skip
        exact ⟨by simp [tko, wit, c8, d8, ht1, c21, d21, c34, d34], by simp [tko, wit, c8, d8, ht1, c21, d21, c34, d34, ← nI_1]⟩

set_option maxHeartbeats 4000000 in
set_option maxRecDepth 100000 in
theorem c3_takes (hI : xI 42 ad) (S : xSt) (q t : Nat) (hq : S 10 1 = nI q) (hp : S 10 2 = nI t) (htq : t ≤ q) (hq60 : q ≤ 60) (cn : Int32) : xMi l yX3_takes wsX3_takes ({ frames := 1, cells := 0, slots := 0, locals := 23 }) (dC, dI) vwCl (tyl cI cZ cS cG) (cLy cI cZ cS cG ad) 42 ad [.ref (ad 10), .int cn] S (fun r S' => r = (if tko q t (S 11 t) cn cn then 1 else 0) ∧ S' = (if tko q t (S 11 t) cn cn then su S 10 2 (nI (t + 1)) else S)) := by
  refine xM_of (cc := cX3_takes) (nL := 2) (ret := (some .boolean)) (by decide) rfl (Nat.le_of_ble_eq_true rfl) ?_
  intro p e s m below meth c ls B hl hK hP
  obtain ⟨hx, hb, hml, hown, hts, hr, hlocks⟩ := B
  have hl : lv_has ls 2 [(0, .ref (ad 10)), (1, .int cn)] := hl
  have hS : va_S (xA 42 ad) s.heap s.heap [] := va_S.rf
  have hAd : ∀ k, k < 42 → xA 42 ad (ad k) := xA_in
  have hF : CallFix p m c cX3_takes 2 s _ wsX3_takes RX3 := ⟨hx, hb, hml, hown, hts⟩
  refine lv_aload_n hx hb dX3_takes_0 rfl (lv_at hl 0 rfl) ?_
  refine lv_iload_n hx hb dX3_takes_1 rfl (lv_at hl 1 rfl) ?_
  refine lv_iload_n hx hb dX3_takes_2 rfl (lv_at hl 1 rfl) ?_
  refine x_calli (x_runV (As := [.int cn, .int cn]) (rest := []) hF (c3_takesDigit hI S q t hq hp (by omega) hq60 cn cn) (cwV 2 hts gX3_takes_X3_takesDigit rfl rfl rfl (by decide +kernel) ⟨Nat.le_of_ble_eq_true rfl, Nat.le_of_ble_eq_true rfl⟩) hK hP (by decide) rfl rfl rfl hl.1 rfl (Nat.le_of_ble_eq_true rfl) dX3_takes_3 ⟨Nat.zero_le _, Nat.zero_le _⟩) hS hAd (fun r3 S3 H locs hw hP _ hS => ?_)
  obtain ⟨hw, eS3⟩ := hw
  by_cases q3 : tko q t (S 11 t) cn cn = true
  · have eS3 := eS3.trans (if_pos q3)
    rw [eS3] at hP
    have hw : r3 = S 11 t - cn := hw.trans (if_pos q3)
    subst hw
    have hz : S 11 t - cn = 0 := by rw [wit_same (tko_t q3).2]; exact Int32.sub_self _
    rw [hz]
    refine lv_bipush (v := (-9)) hx hb dX3_takes_6 (by decide +kernel) ?_
    refine lv_icmp_eq (tgt := 15) hx hb dX3_takes_8 (by decide) (fun hc => absurd hc (by decide)) (fun _ => ?_)
    refine lv_iconst (v := 1) hx hb dX3_takes_11 (by decide +kernel) ?_
    refine lv_goto (tgt := 16) hx hb dX3_takes_12 (by decide) ?_
    refine x_zret hx hb hr hlocks hP hS dX3_takes_16 (Or.inr rfl) ?_
    exact ⟨by simp [q3], by simp [q3]⟩
  · have eS3 := eS3.trans (if_neg q3)
    rw [eS3] at hP
    have hw : r3 = -9 := hw.trans (if_neg q3)
    subst hw
    refine lv_bipush (v := (-9)) hx hb dX3_takes_6 (by decide +kernel) ?_
    refine lv_icmp_eq (tgt := 15) hx hb dX3_takes_8 (by decide) (fun _ => ?_) (fun hc => absurd (by decide) hc)
    refine lv_iconst (v := 0) hx hb dX3_takes_15 (by decide +kernel) ?_
    refine x_zret hx hb hr hlocks hP hS dX3_takes_16 (Or.inl rfl) ?_
    exact ⟨by simp [q3], by simp [q3]⟩

set_option maxHeartbeats 4000000 in
set_option maxRecDepth 100000 in
theorem c3_takesKind (hI : xI 42 ad) (S : xSt) (q t : Nat) (hq : S 10 1 = nI q) (hp : S 10 2 = nI t) (htq : t ≤ q) (hq60 : q ≤ 60) : xMi l yX3_takesKind wsX3_takesKind ({ frames := 2, cells := 0, slots := 0, locals := 44 }) (dC, dI) vwCl (tyl cI cZ cS cG) (cLy cI cZ cS cG ad) 42 ad [.ref (ad 10)] S (fun r S' => r = (if tko q t (S 11 t) 115 115 then 0 else if tko q t (S 11 t) 104 104 then 1 else if tko q t (S 11 t) 112 112 then 2 else -9) ∧ S' = (if tko q t (S 11 t) 115 115 ∨ tko q t (S 11 t) 104 104 ∨ tko q t (S 11 t) 112 112 then su S 10 2 (nI (t + 1)) else S)) := by
  refine xM_of (cc := cX3_takesKind) (nL := 1) (ret := (some .int)) (by decide) rfl (Nat.le_of_ble_eq_true rfl) ?_
  intro p e s m below meth c ls B hl hK hP
  obtain ⟨hx, hb, hml, hown, hts, hr, hlocks⟩ := B
  have hl : lv_has ls 1 [(0, .ref (ad 10))] := hl
  have hS : va_S (xA 42 ad) s.heap s.heap [] := va_S.rf
  have hAd : ∀ k, k < 42 → xA 42 ad (ad k) := xA_in
  have hF : CallFix p m c cX3_takesKind 1 s _ wsX3_takesKind RX3 := ⟨hx, hb, hml, hown, hts⟩
  refine lv_aload_n hx hb dX3_takesKind_0 rfl (lv_at hl 0 rfl) ?_
  refine lv_bipush (v := 115) hx hb dX3_takesKind_1 (by decide +kernel) ?_
  refine x_calli (x_runV (As := [.int 115]) (rest := []) hF (c3_takes hI S q t hq hp (by omega) hq60 115) (cwV 1 hts gX3_takesKind_X3_takes rfl rfl rfl (by decide +kernel) ⟨Nat.le_of_ble_eq_true rfl, Nat.le_of_ble_eq_true rfl⟩) hK hP (by decide) rfl rfl rfl hl.1 rfl (Nat.le_of_ble_eq_true rfl) dX3_takesKind_3 ⟨Nat.zero_le _, Nat.zero_le _⟩) hS hAd (fun r3 S3 H locs hw hP _ hS => ?_)
  obtain ⟨hw, eS3⟩ := hw
  by_cases q3 : tko q t (S 11 t) 115 115 = true
  · have eS3 := eS3.trans (if_pos q3)
    rw [eS3] at hP
    have hw : r3 = 1 := hw.trans (if_pos q3)
    subst hw
    refine lv_if_eq (tgt := 11) hx hb dX3_takesKind_6 (by decide) (fun hc => absurd hc (by decide)) (fun _ => ?_)
    refine lv_iconst (v := 0) hx hb dX3_takesKind_9 (by decide +kernel) ?_
    refine x_iret hx hb hr hlocks hP hS dX3_takesKind_10 ?_
    exact ⟨by simp [q3], by simp [q3]⟩
  · have eS3 := eS3.trans (if_neg q3)
    rw [eS3] at hP
    have hw : r3 = 0 := hw.trans (if_neg q3)
    subst hw
    refine lv_if_eq (tgt := 11) hx hb dX3_takesKind_6 (by decide) (fun _ => ?_) (fun hc => absurd (by decide) hc)
    refine lv_aload_n hx hb dX3_takesKind_11 rfl (lv_at hl 0 rfl) ?_
    refine lv_bipush (v := 104) hx hb dX3_takesKind_12 (by decide +kernel) ?_
    refine x_calli (x_runV (As := [.int 104]) (rest := []) hF (c3_takes hI S q t hq hp (by omega) hq60 104) (cwV 1 hts gX3_takesKind_X3_takes rfl rfl rfl (by decide +kernel) ⟨Nat.le_of_ble_eq_true rfl, Nat.le_of_ble_eq_true rfl⟩) hK hP (by decide) rfl rfl rfl hl.1 rfl (Nat.le_of_ble_eq_true rfl) dX3_takesKind_14 ⟨Nat.zero_le _, Nat.zero_le _⟩) hS hAd (fun r14 S14 H locs hw hP _ hS => ?_)
    obtain ⟨hw, eS14⟩ := hw
    by_cases q14 : tko q t (S 11 t) 104 104 = true
    · have eS14 := eS14.trans (if_pos q14)
      rw [eS14] at hP
      have hw : r14 = 1 := hw.trans (if_pos q14)
      subst hw
      refine lv_if_eq (tgt := 22) hx hb dX3_takesKind_17 (by decide) (fun hc => absurd hc (by decide)) (fun _ => ?_)
      refine lv_iconst (v := 1) hx hb dX3_takesKind_20 (by decide +kernel) ?_
      refine x_iret hx hb hr hlocks hP hS dX3_takesKind_21 ?_
      exact ⟨by simp [q3, q14], by simp [q3, q14]⟩
    · have eS14 := eS14.trans (if_neg q14)
      rw [eS14] at hP
      have hw : r14 = 0 := hw.trans (if_neg q14)
      subst hw
      refine lv_if_eq (tgt := 22) hx hb dX3_takesKind_17 (by decide) (fun _ => ?_) (fun hc => absurd (by decide) hc)
      refine lv_aload_n hx hb dX3_takesKind_22 rfl (lv_at hl 0 rfl) ?_
      refine lv_bipush (v := 112) hx hb dX3_takesKind_23 (by decide +kernel) ?_
      refine x_calli (x_runV (As := [.int 112]) (rest := []) hF (c3_takes hI S q t hq hp (by omega) hq60 112) (cwV 1 hts gX3_takesKind_X3_takes rfl rfl rfl (by decide +kernel) ⟨Nat.le_of_ble_eq_true rfl, Nat.le_of_ble_eq_true rfl⟩) hK hP (by decide) rfl rfl rfl hl.1 rfl (Nat.le_of_ble_eq_true rfl) dX3_takesKind_25 ⟨Nat.zero_le _, Nat.zero_le _⟩) hS hAd (fun r25 S25 H locs hw hP _ hS => ?_)
      obtain ⟨hw, eS25⟩ := hw
      by_cases q25 : tko q t (S 11 t) 112 112 = true
      · have eS25 := eS25.trans (if_pos q25)
        rw [eS25] at hP
        have hw : r25 = 1 := hw.trans (if_pos q25)
        subst hw
        refine lv_if_eq (tgt := 35) hx hb dX3_takesKind_28 (by decide) (fun hc => absurd hc (by decide)) (fun _ => ?_)
        refine lv_iconst (v := 2) hx hb dX3_takesKind_31 (by decide +kernel) ?_
        refine lv_goto (tgt := 37) hx hb dX3_takesKind_32 (by decide) ?_
        refine x_iret hx hb hr hlocks hP hS dX3_takesKind_37 ?_
        exact ⟨by simp [q3, q14, q25], by simp [q3, q14, q25]⟩
      · have eS25 := eS25.trans (if_neg q25)
        rw [eS25] at hP
        have hw : r25 = 0 := hw.trans (if_neg q25)
        subst hw
        refine lv_if_eq (tgt := 35) hx hb dX3_takesKind_28 (by decide) (fun _ => ?_) (fun hc => absurd (by decide) hc)
        refine lv_bipush (v := (-9)) hx hb dX3_takesKind_35 (by decide +kernel) ?_
        refine x_iret hx hb hr hlocks hP hS dX3_takesKind_37 ?_
        exact ⟨by simp [q3, q14, q25], by simp [q3, q14, q25]⟩

set_option maxHeartbeats 4000000 in
set_option maxRecDepth 100000 in
theorem c3_isAtEnd (hI : xI 42 ad) (S : xSt) (q t : Nat) (hq : S 10 1 = nI q) (hp : S 10 2 = nI t) (htq : t ≤ q) (hq60 : q ≤ 60) : xMi l yX3_isAtEnd wsX3_isAtEnd ({ frames := 0, cells := 0, slots := 0, locals := 0 }) (dC, dI) vwCl (tyl cI cZ cS cG) (cLy cI cZ cS cG ad) 42 ad [.ref (ad 10)] S (fun r S' => r = (if t < q then 0 else 1) ∧ S' = S) := by
  refine xM_of (cc := cX3_isAtEnd) (nL := 1) (ret := (some .boolean)) (by decide) rfl (Nat.le_of_ble_eq_true rfl) ?_
  intro p e s m below meth c ls B hl hK hP
  obtain ⟨hx, hb, hml, hown, hts, hr, hlocks⟩ := B
  have hl : lv_has ls 1 [(0, .ref (ad 10))] := hl
  have hS : va_S (xA 42 ad) s.heap s.heap [] := va_S.rf
  have hAd : ∀ k, k < 42 → xA 42 ad (ad k) := xA_in
  have hinX3 : ∀ w ∈ wsX30, w ∈ wsX3_isAtEnd := fun _ h => List.mem_cons_of_mem _ (List.mem_append_right _ h)
  have hF : CallFix p m c cX3_isAtEnd 1 s _ wsX3_isAtEnd RX3 := ⟨hx, hb, hml, hown, hts⟩
  refine lv_aload_n hx hb dX3_isAtEnd_0 rfl (lv_at hl 0 rfl) ?_
  refine x_get (v := .int (nI t)) hx hb hts hinX3 hown hK hP 10 (by decide) rfl rfl 2 (by decide) (hts _ (List.mem_of_getElem? (i := 1) rfl)) (congrArg (fun z => some (Value.int z)) hp) dX3_isAtEnd_1 ?_
  refine lv_aload_n hx hb dX3_isAtEnd_4 rfl (lv_at hl 0 rfl) ?_
  refine x_get (v := .int (nI q)) hx hb hts hinX3 hown hK hP 10 (by decide) rfl rfl 1 (by decide) (hts _ (List.mem_of_getElem? (i := 2) rfl)) (congrArg (fun z => some (Value.int z)) hq) dX3_isAtEnd_5 ?_
  refine lv_icmp_lt (tgt := 15) hx hb dX3_isAtEnd_8 (by decide) (fun c8 => ?_) (fun c8 => ?_)
  · have d8 := Int32.not_le.mpr c8
    refine lv_iconst (v := 0) hx hb dX3_isAtEnd_15 (by decide +kernel) ?_
    refine x_zret hx hb hr hlocks hP hS dX3_isAtEnd_16 (Or.inl rfl) ?_
    exact ⟨by rw [nI_ltI (by omega) (by omega)] at c8; simp [c8], rfl⟩
  · have d8 := Int32.not_lt.mp c8
    refine lv_iconst (v := 1) hx hb dX3_isAtEnd_11 (by decide +kernel) ?_
    refine lv_goto (tgt := 16) hx hb dX3_isAtEnd_12 (by decide) ?_
    refine x_zret hx hb hr hlocks hP hS dX3_isAtEnd_16 (Or.inr rfl) ?_
    exact ⟨by rw [nI_ltI (by omega) (by omega)] at c8; simp [c8], rfl⟩

set_option maxHeartbeats 4000000 in
set_option maxRecDepth 100000 in
theorem c3_open (hI : xI 42 ad) (S : xSt) (k : Nat) (hk : k < 4) (L : Nat) (hL : S (2 + k) 3 = nI L) (hL60 : L ≤ 60) (a q : Nat) (haq : a + q ≤ L) : xMv l yX3_open wsX3_open ({ frames := 2, cells := 0, slots := 0, locals := 42 }) (dC, dI) vwCl (tyl cI cZ cS cG) (cLy cI cZ cS cG ad) 42 ad [.ref (ad 10), .ref (ad (2 + k)), .int (nI a), .int (nI q)] S (fun S' => S' = (sr (su (su S 10 1 (nI q)) 10 2 0) 11 (fil (fun u => S (6 + k) (a + u)) (S 11) q))) := by
  refine xM_of (cc := cX3_open) (nL := 5) (ret := none) (by decide) rfl (Nat.le_of_ble_eq_true rfl) ?_
  intro p e s m below meth c ls B hl hK hP
  obtain ⟨hx, hb, hml, hown, hts, hr, hlocks⟩ := B
  have hl : lv_has ls 5 [(0, .ref (ad 10)), (1, .ref (ad (2 + k))), (2, .int (nI a)), (3, .int (nI q))] := hl
  have hS : va_S (xA 42 ad) s.heap s.heap [] := va_S.rf
  have hAd : ∀ k, k < 42 → xA 42 ad (ad k) := xA_in
  have hinX3 : ∀ w ∈ wsX30, w ∈ wsX3_open := fun _ h => List.mem_cons_of_mem _ (List.mem_append_left _ (List.mem_append_right _ h))
  have hF : CallFix p m c cX3_open 5 s _ wsX3_open RX3 := ⟨hx, hb, hml, hown, hts⟩
  have L22 : ∀ (n : Nat) (i : Nat) (hi : i + n = q) (H : Heap) (locs : List Loc) (ls : Array Slot), va_P (dC, dI) vwCl (xW (cLy cI cZ cS cG ad) 42 ad (sr (su (su S 10 1 (nI q)) 10 2 0) 11 (fil (fun u => S (6 + k) (a + u)) (S 11) i))) H → va_S (xA 42 ad) s.heap H locs → lv_has ls 5 [(0, .ref (ad 10)), (1, .ref (ad (2 + k))), (2, .int (nI a)), (3, .int (nI q)), (4, .int (nI i))] → W p l e ({ frames := 2, cells := 0, slots := 0, locals := 42 }) s m ([.ref (ad 10), .ref (ad (2 + k)), .int (nI a), .int (nI q)] : List Value).toArray below meth c H locs 0 0 (MQ below (xQv (dC, dI) vwCl (cLy cI cZ cS cG ad) 42 ad (fun S' => S' = (sr (su (su S 10 1 (nI q)) 10 2 0) 11 (fil (fun u => S (6 + k) (a + u)) (S 11) q)))) ([.ref (ad 10), .ref (ad (2 + k)), .int (nI a), .int (nI q)] : List Value).toArray s 0 0 (xA 42 ad)) (F0 m 22 ls []) := by
    intro n
    induction n with
    | zero =>
      intro i hi H locs ls hP hS hl
      refine lv_iload hx hb dX3_open_22 (lv_at hl 4 rfl) ?_
      refine lv_aload_n hx hb dX3_open_24 rfl (lv_at hl 0 rfl) ?_
      refine x_get (v := .int (nI q)) hx hb hts hinX3 hown hK hP 10 (by decide) rfl rfl 1 (by decide) (hts _ (List.mem_of_getElem? (i := 8) rfl)) rfl dX3_open_25 ?_
      refine lv_icmp_ge (tgt := 52) hx hb dX3_open_28 (by decide) (fun _ => ?_) (fun hc => absurd (nI_le (by omega) (by omega)) hc)
      refine x_vret hx hb hr hlocks hP hS dX3_open_52 ?_
      exact (by rw [show i = q by omega])
    | succ n ih =>
      intro i hi H locs ls hP hS hl
      have hLr : ((sr (su (su S 10 1 (nI q)) 10 2 0) 11 (fil (fun u => S (6 + k) (a + u)) (S 11) i))) (2 + k) 3 = nI L := (congrFun ((sr_ne (by omega)).trans ((su_ne (by omega)).trans (su_ne (by omega)))) 3).trans hL
      refine lv_iload hx hb dX3_open_22 (lv_at hl 4 rfl) ?_
      refine lv_aload_n hx hb dX3_open_24 rfl (lv_at hl 0 rfl) ?_
      refine x_get (v := .int (nI q)) hx hb hts hinX3 hown hK hP 10 (by decide) rfl rfl 1 (by decide) (hts _ (List.mem_of_getElem? (i := 8) rfl)) rfl dX3_open_25 ?_
      refine lv_icmp_ge (tgt := 52) hx hb dX3_open_28 (by decide) (fun hc => absurd hc (nI_ge (by omega) (by omega))) (fun _ => ?_)
      refine lv_aload_n hx hb dX3_open_31 rfl (lv_at hl 0 rfl) ?_
      refine x_get (v := .ref (ad 11)) hx hb hts hinX3 hown hK hP 10 (by decide) rfl rfl 0 (by decide) (hts _ (List.mem_of_getElem? (i := 10) rfl)) rfl dX3_open_32 ?_
      refine lv_iload hx hb dX3_open_35 (lv_at hl 4 rfl) ?_
      refine lv_aload_n hx hb dX3_open_37 rfl (lv_at hl 1 rfl) ?_
      refine lv_iload_n hx hb dX3_open_38 rfl (lv_at hl 2 rfl) ?_
      refine lv_iload hx hb dX3_open_39 (lv_at hl 4 rfl) ?_
      refine lv_iadd hx hb dX3_open_41 ?_
      refine x_calli (x_runV (As := [.int ((nI a) + (nI i))]) (rest := [.int (nI i), .ref (ad 11)]) hF (c2_at hI (sr (su (su S 10 1 (nI q)) 10 2 0) 11 (fil (fun u => S (6 + k) (a + u)) (S 11) i)) k hk L hLr hL60 (nI a + nI i)) (cwV 1 hts gX3_open_X2_at rfl rfl rfl (by decide +kernel) ⟨Nat.le_of_ble_eq_true rfl, Nat.le_of_ble_eq_true rfl⟩) hK hP (by omega) (cLy_sheet (by omega) _) rfl rfl hl.1 rfl (Nat.le_of_ble_eq_true rfl) dX3_open_42 ⟨Nat.zero_le _, Nat.zero_le _⟩) hS hAd (fun r42 S42 H locs hw hP _ hS => ?_)
      obtain ⟨hw, eS42⟩ := hw
      rw [eS42] at hP
      have hw : r42 = S (6 + k) (a + i) := by rw [hw, hLr, nI_add, if_pos (inR_nI (by omega) (by omega)), nN_nI (by omega)]; exact congrFun ((sr_ne (by omega)).trans ((su_ne (by omega)).trans (su_ne (by omega)))) _
      subst hw
      refine x_iast hx hb hK hI hAd hP hS 11 0 (by decide) (fun _ => rfl) rfl i rfl (by omega) (by decide) dX3_open_45 (fun H locs hP hS => ?_)
      refine lv_iinc (v := nI (i + 1)) (lv' := [(4, .int (nI (i + 1))), (0, .ref (ad 10)), (1, .ref (ad (2 + k))), (2, .int (nI a)), (3, .int (nI q))]) hx hb dX3_open_46 hl (k := 4) rfl (nI_1 _) (by decide) rfl (fun ls hl => ?_)
      refine lv_goto (tgt := 22) hx hb dX3_open_49 (by decide) ?_
      rw [show (su (sr (su (su S 10 1 (nI q)) 10 2 0) 11 (fil (fun u => S (6 + k) (a + u)) (S 11) i)) 11 i (S (6 + k) (a + i))) = (sr (su (su S 10 1 (nI q)) 10 2 0) 11 (fil (fun u => S (6 + k) (a + u)) (S 11) (i + 1))) from su_fil rfl] at hP
      exact ih (i + 1) (by omega) H locs ls hP hS (lv_sub hl [1, 2, 3, 4, 0] rfl)
  refine lv_aload_n hx hb dX3_open_0 rfl (lv_at hl 0 rfl) ?_
  refine lv_iconst (v := 0) hx hb dX3_open_1 (by decide +kernel) ?_
  refine lv_iload_n hx hb dX3_open_2 rfl (lv_at hl 3 rfl) ?_
  refine lv_bipush (v := 60) hx hb dX3_open_3 (by decide +kernel) ?_
  refine va_mmin hx hb (hml.trans hl.1.symm) hown (hts _ (List.mem_of_getElem? (i := 1) rfl)) (hts _ (List.mem_of_getElem? (i := 2) rfl)) (hts _ (List.mem_of_getElem? (i := 3) rfl)) (hts _ (List.mem_of_getElem? (i := 4) rfl)) (Nat.le_of_ble_eq_true rfl) (Nat.le_of_ble_eq_true rfl) (Nat.zero_le _) (Nat.zero_le _) dX3_open_5 ?_
  refine va_mmax hx hb (hml.trans hl.1.symm) hown (hts _ (List.mem_of_getElem? (i := 5) rfl)) (hts _ (List.mem_of_getElem? (i := 6) rfl)) (hts _ (List.mem_of_getElem? (i := 3) rfl)) (hts _ (List.mem_of_getElem? (i := 7) rfl)) (Nat.le_of_ble_eq_true rfl) (Nat.le_of_ble_eq_true rfl) (Nat.zero_le _) (Nat.zero_le _) dX3_open_8 ?_
  rw [mm60 (by omega)]
  refine x_put hx hb hts hinX3 tyX3 tyX3_ok nmX3 hown hK hI hAd hP hS 10 (by decide) rfl rfl 1 (by decide) (hts _ (List.mem_of_getElem? (i := 8) rfl)) rfl (upd (S 10) 1 (nI q)) rfl rfl rfl (Nat.le_of_ble_eq_true rfl) dX3_open_11 (fun H locs hP hS => ?_)
  have hP : va_P (dC, dI) vwCl (xW (cLy cI cZ cS cG ad) 42 ad (su S 10 1 (nI q))) H := hP
  refine lv_aload_n hx hb dX3_open_14 rfl (lv_at hl 0 rfl) ?_
  refine lv_iconst (v := 0) hx hb dX3_open_15 (by decide +kernel) ?_
  refine x_put hx hb hts hinX3 tyX3 tyX3_ok nmX3 hown hK hI hAd hP hS 10 (by decide) rfl rfl 2 (by decide) (hts _ (List.mem_of_getElem? (i := 9) rfl)) rfl (upd ((su S 10 1 (nI q)) 10) 2 0) rfl rfl rfl (Nat.le_of_ble_eq_true rfl) dX3_open_16 (fun H locs hP hS => ?_)
  have hP : va_P (dC, dI) vwCl (xW (cLy cI cZ cS cG ad) 42 ad (su (su S 10 1 (nI q)) 10 2 0)) H := hP
  refine lv_iconst (v := 0) hx hb dX3_open_19 (by decide +kernel) ?_
  refine lv_istore (lv' := [(4, .int 0), (0, .ref (ad 10)), (1, .ref (ad (2 + k))), (2, .int (nI a)), (3, .int (nI q))]) hx hb dX3_open_20 hl (by decide) rfl (fun ls hl => ?_)
  have hP : va_P (dC, dI) vwCl (xW (cLy cI cZ cS cG ad) 42 ad (sr (su (su S 10 1 (nI q)) 10 2 0) 11 (fil (fun u => S (6 + k) (a + u)) (S 11) 0))) H := by rw [fil_0, sr_same' (show S 11 = (su (su S 10 1 (nI q)) 10 2 0) 11 from rfl)]; exact hP
  exact L22 q 0 (Nat.zero_add _) _ _ ls hP hS (lv_sub hl [1, 2, 3, 4, 0] rfl)

end C6
