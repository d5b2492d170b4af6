section C8
variable {l : Launch} {dC : Nat → ClassId} {dI : Nat → Nat → Nat} {cI cZ cS cG : ClassId} {ad bd : Nat → Nat}
set_option maxHeartbeats 4000000 in
set_option maxRecDepth 100000 in
theorem c4_readsSon (hI : xI 42 ad) (S : xSt) (q : Nat) (hq : S 10 1 = nI q) (hq60 : q ≤ 60) (cd : Nat → Int32) (hcd : ∀ u, u < q → S 11 u = cd u) (t sv : Nat) (hp : S 10 2 = nI t) (hA : tAt cd q t (5, sv, 0)) (hs : sv < 5) (htq1 : 1 ≤ sv → t < q) (hC0 : S 22 0 = nI (cC cd)) (hC2 : 2 ≤ cC cd) (hC4 : cC cd ≤ 4) : xMi l yX4_readsSon wsX4_readsSon ({ frames := 3, cells := 0, slots := 0, locals := 64 }) (dC, dI) vwCl (tyl cI cZ cS cG) (cLy cI cZ cS cG ad) 42 ad [.ref (ad 22), .ref (ad 10), .int (nI sv)] S (fun r S' => (r = 1 ∧ tAt cd q (t + 5) (5, sv + 1, 0) ∧ S' 10 = upd (S 10) 2 (nI (t + 5)) ∧ S' 28 = upd (S 28) sv (kdv (cd (t + 1))) ∧ S' 29 = upd (S 29) sv (nI (dg cd (t + 2))) ∧ S' 30 = upd (S 30) sv (nI (dg cd (t + 3))) ∧ S' 31 = upd (S 31) sv (nI (dg cd (t + 4))) ∧ (∀ k, k ≠ 10 → ¬ (28 ≤ k ∧ k ≤ 31) → S' k = S k) ∧ dg cd (t + 2) < cC cd ∧ dg cd (t + 3) ≤ 9 ∧ dg cd (t + 4) ≤ 3) ∨ (r = 0 ∧ ∃ t', tBad cd q t' ∧ S' 10 2 = nI t' ∧ frm S S')) := by
  refine xM_of (cc := cX4_readsSon) (nL := 3) (ret := (some .boolean)) (by decide) rfl (Nat.le_of_ble_eq_true rfl) ?_
  intro p e s m below meth c ls B hl hK hP
  obtain ⟨hx, hb, hml, hown, hts, hr, hlocks⟩ := B
  have hl : lv_has ls 3 [(0, .ref (ad 22)), (1, .ref (ad 10)), (2, .int (nI sv))] := hl
  have hS : va_S (xA 42 ad) s.heap s.heap [] := va_S.rf
  have hAd : ∀ k, k < 42 → xA 42 ad (ad k) := xA_in
  have hinX4 : ∀ w ∈ wsX40, w ∈ wsX4_readsSon := fun _ h => List.mem_cons_of_mem _ (List.mem_append_left _ (List.mem_append_right _ h))
  have hF : CallFix p m c cX4_readsSon 3 s _ wsX4_readsSon RX4 := ⟨hx, hb, hml, hown, hts⟩
  refine lv_aload_n hx hb dX4_readsSon_0 rfl (lv_at hl 1 rfl) ?_
  refine lv_bipush (v := 44) hx hb dX4_readsSon_1 (by decide +kernel) ?_
  refine x_calli (x_runV (As := [.int 44]) (rest := []) hF (c3_takes hI S q t hq hp hA.1.le hq60 44) (cwV 1 hts gX4_readsSon_X3_takes rfl rfl rfl (by decide +kernel) ⟨Nat.le_of_ble_eq_true rfl, Nat.le_of_ble_eq_true rfl⟩) hK hP (by decide) rfl rfl rfl hl.1 rfl (Nat.le_of_ble_eq_true rfl) dX4_readsSon_3 ⟨Nat.zero_le _, Nat.zero_le _⟩) hS hAd (fun r3 S3 H locs hw hP _ hS => ?_)
  obtain ⟨hw, eS3⟩ := hw
  by_cases q3 : tko q t (S 11 t) 44 44 = true
  · have eS3 := eS3.trans (if_pos q3)
    rw [eS3] at hP
    have hw : r3 = 1 := hw.trans (if_pos q3)
    subst hw
    have hA3 : tAt cd q (t + 1) (5, sv, 1) := hA.step (tko_t q3).1 (by rw [okp50 hs, ← hcd _ (tko_t q3).1]; exact (tko_t q3).2)
    refine lv_if_ne (tgt := 11) hx hb dX4_readsSon_6 (by decide) (fun _ => ?_) (fun hc => absurd hc (by decide))
    refine lv_aload_n hx hb dX4_readsSon_11 rfl (lv_at hl 0 rfl) ?_
    refine x_get (v := .ref (ad 28)) hx hb hts hinX4 hown hK hP 22 (by decide) rfl rfl 4 (by decide) (hts _ (List.mem_of_getElem? (i := 1) rfl)) rfl dX4_readsSon_12 ?_
    refine lv_iload_n hx hb dX4_readsSon_15 rfl (lv_at hl 2 rfl) ?_
    refine lv_aload_n hx hb dX4_readsSon_16 rfl (lv_at hl 1 rfl) ?_
    refine x_calli (x_runV (As := []) (rest := [.int (nI sv), .ref (ad 28)]) hF (c3_takesKind hI (su S 10 2 (nI (t + 1))) q (t + 1) hq rfl hA3.1.le hq60) (cwV 0 hts gX4_readsSon_X3_takesKind rfl rfl rfl (by decide +kernel) ⟨Nat.le_of_ble_eq_true rfl, Nat.le_of_ble_eq_true rfl⟩) hK hP (by decide) rfl rfl rfl hl.1 rfl (Nat.le_of_ble_eq_true rfl) dX4_readsSon_17 ⟨Nat.zero_le _, Nat.zero_le _⟩) hS hAd (fun r17 S17 H locs hw hP _ hS => ?_)
    obtain ⟨hw, eS17⟩ := hw
    have hw : r17 = (if tko q (t + 1) (S 11 (t + 1)) 115 115 then 0 else if tko q (t + 1) (S 11 (t + 1)) 104 104 then 1 else if tko q (t + 1) (S 11 (t + 1)) 112 112 then 2 else -9) := hw
    have eS17 : S17 = (if tko q (t + 1) (S 11 (t + 1)) 115 115 ∨ tko q (t + 1) (S 11 (t + 1)) 104 104 ∨ tko q (t + 1) (S 11 (t + 1)) 112 112 then (su (su S 10 2 (nI (t + 1))) 10 2 (nI (t + 1 + 1))) else (su S 10 2 (nI (t + 1)))) := eS17
    by_cases qa17 : tko q (t + 1) (S 11 (t + 1)) 115 115 = true
    · have eS17 := eS17.trans (if_pos (by simp [qa17]))
      rw [eS17] at hP
      have hw : r17 = 0 := hw.trans (by simp [qa17])
      subst hw
      have hx17 : cd (t + 1) = 115 := (hcd _ (tko_t qa17).1).symm.trans (wit_same (tko_t qa17).2)
      have hA17 : tAt cd q (t + 1 + 1) (5, sv, 2) := hA3.step (tko_t qa17).1 (by rw [okp51 hs, hx17]; decide +kernel)
      have hk17 : (0 : Int32) = kdv (cd (t + 1)) := by rw [hx17]; decide +kernel
      refine x_iast hx hb hK hI hAd hP hS 28 0 (by decide) (fun _ => rfl) rfl sv rfl (by omega) (by decide) dX4_readsSon_20 (fun H locs hP hS => ?_)
      refine lv_aload_n hx hb dX4_readsSon_21 rfl (lv_at hl 0 rfl) ?_
      refine x_get (v := .ref (ad 28)) hx hb hts hinX4 hown hK hP 22 (by decide) rfl rfl 4 (by decide) (hts _ (List.mem_of_getElem? (i := 1) rfl)) rfl dX4_readsSon_22 ?_
      refine lv_iload_n hx hb dX4_readsSon_25 rfl (lv_at hl 2 rfl) ?_
      refine x_iald (v := 0) hx hb hK hP 28 0 (by decide) rfl rfl sv rfl (by omega) (by decide) (su_at _ _ _ _) dX4_readsSon_26 ?_
      refine lv_bipush (v := (-9)) hx hb dX4_readsSon_27 (by decide +kernel) ?_
      refine lv_icmp_ne (tgt := 34) hx hb dX4_readsSon_29 (by decide) (fun _ => ?_) (fun hc => absurd hc (by decide))
      refine lv_aload_n hx hb dX4_readsSon_34 rfl (lv_at hl 0 rfl) ?_
      refine x_get (v := .ref (ad 29)) hx hb hts hinX4 hown hK hP 22 (by decide) rfl rfl 5 (by decide) (hts _ (List.mem_of_getElem? (i := 2) rfl)) rfl dX4_readsSon_35 ?_
      refine lv_iload_n hx hb dX4_readsSon_38 rfl (lv_at hl 2 rfl) ?_
      refine lv_aload_n hx hb dX4_readsSon_39 rfl (lv_at hl 1 rfl) ?_
      refine lv_bipush (v := 48) hx hb dX4_readsSon_40 (by decide +kernel) ?_
      refine lv_bipush (v := 48) hx hb dX4_readsSon_42 (by decide +kernel) ?_
      refine lv_aload_n hx hb dX4_readsSon_44 rfl (lv_at hl 0 rfl) ?_
      refine x_get (v := .int (nI (cC cd))) hx hb hts hinX4 hown hK hP 22 (by decide) rfl rfl 0 (by decide) (hts _ (List.mem_of_getElem? (i := 3) rfl)) (congrArg (fun z => some (Value.int z)) hC0) dX4_readsSon_45 ?_
      refine lv_iadd hx hb dX4_readsSon_48 ?_
      refine lv_iconst (v := 1) hx hb dX4_readsSon_49 (by decide +kernel) ?_
      refine lv_isub hx hb dX4_readsSon_50 ?_
      rw [fat_hi (cC cd) hC2]
      refine x_calli (x_runV (As := [.int 48, .int (nI (47 + cC cd))]) (rest := [.int (nI sv), .ref (ad 29)]) hF (c3_takesDigit hI (su (su (su S 10 2 (nI (t + 1))) 10 2 (nI (t + 1 + 1))) 28 sv 0) q (t + 1 + 1) hq rfl hA17.1.le hq60 48 (nI (47 + cC cd))) (cwV 2 hts gX4_readsSon_X3_takesDigit rfl rfl rfl (by decide +kernel) ⟨Nat.le_of_ble_eq_true rfl, Nat.le_of_ble_eq_true rfl⟩) hK hP (by decide) rfl rfl rfl hl.1 rfl (Nat.le_of_ble_eq_true rfl) dX4_readsSon_51 ⟨Nat.zero_le _, Nat.zero_le _⟩) hS hAd (fun r51 S51 H locs hw hP _ hS => ?_)
      obtain ⟨hw, eS51⟩ := hw
      by_cases q51 : tko q (t + 1 + 1) (S 11 (t + 1 + 1)) 48 (nI (47 + cC cd)) = true
      · have eS51 := eS51.trans (if_pos q51)
        rw [eS51] at hP
        have hw : r51 = S 11 (t + 1 + 1) - 48 := hw.trans (if_pos q51)
        subst hw
        have hA51 : tAt cd q (t + 1 + 1 + 1) (5, sv, 3) := hA17.step (tko_t q51).1 (by rw [okp52 hs, ← hcd _ (tko_t q51).1]; exact (tko_t q51).2)
        have hf51 := dg_fat (cd := cd) (t := t + 1 + 1) hC2 hC4 (by rw [← hcd _ (tko_t q51).1]; exact (tko_t q51).2)
        rw [show S 11 (t + 1 + 1) - 48 = nI (dg cd (t + 1 + 1)) from (congrArg (fun z => z - 48) (hcd _ (tko_t q51).1)).trans hf51.2]
        refine x_iast hx hb hK hI hAd hP hS 29 0 (by decide) (fun _ => rfl) rfl sv rfl (by omega) (by decide) dX4_readsSon_54 (fun H locs hP hS => ?_)
        refine lv_aload_n hx hb dX4_readsSon_55 rfl (lv_at hl 0 rfl) ?_
        refine x_get (v := .ref (ad 29)) hx hb hts hinX4 hown hK hP 22 (by decide) rfl rfl 5 (by decide) (hts _ (List.mem_of_getElem? (i := 2) rfl)) rfl dX4_readsSon_56 ?_
        refine lv_iload_n hx hb dX4_readsSon_59 rfl (lv_at hl 2 rfl) ?_
        refine x_iald (v := nI (dg cd (t + 1 + 1))) hx hb hK hP 29 0 (by decide) rfl rfl sv rfl (by omega) (by decide) (su_at _ _ _ _) dX4_readsSon_60 ?_
        refine lv_bipush (v := (-9)) hx hb dX4_readsSon_61 (by decide +kernel) ?_
        refine lv_icmp_ne (tgt := 68) hx hb dX4_readsSon_63 (by decide) (fun _ => ?_) (fun hc => absurd hc (nI_ne9 (by omega)))
        refine lv_aload_n hx hb dX4_readsSon_68 rfl (lv_at hl 0 rfl) ?_
        refine x_get (v := .ref (ad 30)) hx hb hts hinX4 hown hK hP 22 (by decide) rfl rfl 6 (by decide) (hts _ (List.mem_of_getElem? (i := 4) rfl)) rfl dX4_readsSon_69 ?_
        refine lv_iload_n hx hb dX4_readsSon_72 rfl (lv_at hl 2 rfl) ?_
        refine lv_aload_n hx hb dX4_readsSon_73 rfl (lv_at hl 1 rfl) ?_
        refine lv_bipush (v := 48) hx hb dX4_readsSon_74 (by decide +kernel) ?_
        refine lv_bipush (v := 57) hx hb dX4_readsSon_76 (by decide +kernel) ?_
        refine x_calli (x_runV (As := [.int 48, .int 57]) (rest := [.int (nI sv), .ref (ad 30)]) hF (c3_takesDigit hI (su (su (su (su (su S 10 2 (nI (t + 1))) 10 2 (nI (t + 1 + 1))) 28 sv 0) 10 2 (nI (t + 1 + 1 + 1))) 29 sv (nI (dg cd (t + 1 + 1)))) q (t + 1 + 1 + 1) hq rfl hA51.1.le hq60 48 57) (cwV 2 hts gX4_readsSon_X3_takesDigit rfl rfl rfl (by decide +kernel) ⟨Nat.le_of_ble_eq_true rfl, Nat.le_of_ble_eq_true rfl⟩) hK hP (by decide) rfl rfl rfl hl.1 rfl (Nat.le_of_ble_eq_true rfl) dX4_readsSon_78 ⟨Nat.zero_le _, Nat.zero_le _⟩) hS hAd (fun r78 S78 H locs hw hP _ hS => ?_)
        obtain ⟨hw, eS78⟩ := hw
        by_cases q78 : tko q (t + 1 + 1 + 1) (S 11 (t + 1 + 1 + 1)) 48 57 = true
        · have eS78 := eS78.trans (if_pos q78)
          rw [eS78] at hP
          have hw : r78 = S 11 (t + 1 + 1 + 1) - 48 := hw.trans (if_pos q78)
          subst hw
          have hA78 : tAt cd q (t + 1 + 1 + 1 + 1) (5, sv, 4) := hA51.step (tko_t q78).1 (by rw [okp53 hs, ← hcd _ (tko_t q78).1]; exact (tko_t q78).2)
          have hf78 := dg_ok (cd := cd) (t := t + 1 + 1 + 1) (b := 9) (by decide) (by rw [← hcd _ (tko_t q78).1]; exact (tko_t q78).2)
          rw [show S 11 (t + 1 + 1 + 1) - 48 = nI (dg cd (t + 1 + 1 + 1)) from (congrArg (fun z => z - 48) (hcd _ (tko_t q78).1)).trans hf78.2.2]
          refine x_iast hx hb hK hI hAd hP hS 30 0 (by decide) (fun _ => rfl) rfl sv rfl (by omega) (by decide) dX4_readsSon_81 (fun H locs hP hS => ?_)
          refine lv_aload_n hx hb dX4_readsSon_82 rfl (lv_at hl 0 rfl) ?_
          refine x_get (v := .ref (ad 30)) hx hb hts hinX4 hown hK hP 22 (by decide) rfl rfl 6 (by decide) (hts _ (List.mem_of_getElem? (i := 4) rfl)) rfl dX4_readsSon_83 ?_
          refine lv_iload_n hx hb dX4_readsSon_86 rfl (lv_at hl 2 rfl) ?_
          refine x_iald (v := nI (dg cd (t + 1 + 1 + 1))) hx hb hK hP 30 0 (by decide) rfl rfl sv rfl (by omega) (by decide) (su_at _ _ _ _) dX4_readsSon_87 ?_
          refine lv_bipush (v := (-9)) hx hb dX4_readsSon_88 (by decide +kernel) ?_
          refine lv_icmp_ne (tgt := 95) hx hb dX4_readsSon_90 (by decide) (fun _ => ?_) (fun hc => absurd hc (nI_ne9 (by omega)))
          refine lv_aload_n hx hb dX4_readsSon_95 rfl (lv_at hl 0 rfl) ?_
          refine x_get (v := .ref (ad 31)) hx hb hts hinX4 hown hK hP 22 (by decide) rfl rfl 7 (by decide) (hts _ (List.mem_of_getElem? (i := 5) rfl)) rfl dX4_readsSon_96 ?_
          refine lv_iload_n hx hb dX4_readsSon_99 rfl (lv_at hl 2 rfl) ?_
          refine lv_aload_n hx hb dX4_readsSon_100 rfl (lv_at hl 1 rfl) ?_
          refine lv_bipush (v := 48) hx hb dX4_readsSon_101 (by decide +kernel) ?_
          refine lv_bipush (v := 51) hx hb dX4_readsSon_103 (by decide +kernel) ?_
          refine x_calli (x_runV (As := [.int 48, .int 51]) (rest := [.int (nI sv), .ref (ad 31)]) hF (c3_takesDigit hI (su (su (su (su (su (su (su S 10 2 (nI (t + 1))) 10 2 (nI (t + 1 + 1))) 28 sv 0) 10 2 (nI (t + 1 + 1 + 1))) 29 sv (nI (dg cd (t + 1 + 1)))) 10 2 (nI (t + 1 + 1 + 1 + 1))) 30 sv (nI (dg cd (t + 1 + 1 + 1)))) q (t + 1 + 1 + 1 + 1) hq rfl hA78.1.le hq60 48 51) (cwV 2 hts gX4_readsSon_X3_takesDigit rfl rfl rfl (by decide +kernel) ⟨Nat.le_of_ble_eq_true rfl, Nat.le_of_ble_eq_true rfl⟩) hK hP (by decide) rfl rfl rfl hl.1 rfl (Nat.le_of_ble_eq_true rfl) dX4_readsSon_105 ⟨Nat.zero_le _, Nat.zero_le _⟩) hS hAd (fun r105 S105 H locs hw hP _ hS => ?_)
          obtain ⟨hw, eS105⟩ := hw
          by_cases q105 : tko q (t + 1 + 1 + 1 + 1) (S 11 (t + 1 + 1 + 1 + 1)) 48 51 = true
          · have eS105 := eS105.trans (if_pos q105)
            rw [eS105] at hP
            have hw : r105 = S 11 (t + 1 + 1 + 1 + 1) - 48 := hw.trans (if_pos q105)
            subst hw
            have hA105 : tAt cd q (t + 1 + 1 + 1 + 1 + 1) (5, sv + 1, 0) := hA78.step (tko_t q105).1 (by rw [okp54 hs, ← hcd _ (tko_t q105).1]; exact (tko_t q105).2)
            have hf105 := dg_ok (cd := cd) (t := t + 1 + 1 + 1 + 1) (b := 3) (by decide) (by rw [← hcd _ (tko_t q105).1]; exact (tko_t q105).2)
            rw [show S 11 (t + 1 + 1 + 1 + 1) - 48 = nI (dg cd (t + 1 + 1 + 1 + 1)) from (congrArg (fun z => z - 48) (hcd _ (tko_t q105).1)).trans hf105.2.2]
            refine x_iast hx hb hK hI hAd hP hS 31 0 (by decide) (fun _ => rfl) rfl sv rfl (by omega) (by decide) dX4_readsSon_108 (fun H locs hP hS => ?_)
            refine lv_aload_n hx hb dX4_readsSon_109 rfl (lv_at hl 0 rfl) ?_
            refine x_get (v := .ref (ad 31)) hx hb hts hinX4 hown hK hP 22 (by decide) rfl rfl 7 (by decide) (hts _ (List.mem_of_getElem? (i := 5) rfl)) rfl dX4_readsSon_110 ?_
            refine lv_iload_n hx hb dX4_readsSon_113 rfl (lv_at hl 2 rfl) ?_
            refine x_iald (v := nI (dg cd (t + 1 + 1 + 1 + 1))) hx hb hK hP 31 0 (by decide) rfl rfl sv rfl (by omega) (by decide) (su_at _ _ _ _) dX4_readsSon_114 ?_
            refine lv_bipush (v := (-9)) hx hb dX4_readsSon_115 (by decide +kernel) ?_
            refine lv_icmp_eq (tgt := 124) hx hb dX4_readsSon_117 (by decide) (fun hc => absurd hc (nI_ne9 (by omega))) (fun _ => ?_)
            refine lv_iconst (v := 1) hx hb dX4_readsSon_120 (by decide +kernel) ?_
            refine lv_goto (tgt := 125) hx hb dX4_readsSon_121 (by decide) ?_
            refine x_zret hx hb hr hlocks hP hS dX4_readsSon_125 (Or.inr rfl) ?_
            exact Or.inl ⟨rfl, hA105, by show upd (upd (upd (upd (upd (S 10) 2 _) 2 _) 2 _) 2 _) 2 _ = _; rw [upd_upd, upd_upd, upd_upd, upd_upd], by rw [← hk17]; rfl, rfl, rfl, rfl, fun k h1 h2 => by simp only [su_ne h1, su_ne (show k ≠ 28 by omega), su_ne (show k ≠ 29 by omega), su_ne (show k ≠ 30 by omega), su_ne (show k ≠ 31 by omega)], hf51.1, hf78.1, hf105.1⟩
          · have eS105 := eS105.trans (if_neg q105)
            rw [eS105] at hP
            have hw : r105 = -9 := hw.trans (if_neg q105)
            subst hw
            have hB := hA78.bad (fun z => tko_f q105 ⟨z.1, by have z2 := z.2; rw [okp54 hs, ← hcd _ z.1] at z2; exact z2⟩) (fun _ s hs z => by simp at z)
            refine x_iast hx hb hK hI hAd hP hS 31 0 (by decide) (fun _ => rfl) rfl sv rfl (by omega) (by decide) dX4_readsSon_108 (fun H locs hP hS => ?_)
            refine lv_aload_n hx hb dX4_readsSon_109 rfl (lv_at hl 0 rfl) ?_
            refine x_get (v := .ref (ad 31)) hx hb hts hinX4 hown hK hP 22 (by decide) rfl rfl 7 (by decide) (hts _ (List.mem_of_getElem? (i := 5) rfl)) rfl dX4_readsSon_110 ?_
            refine lv_iload_n hx hb dX4_readsSon_113 rfl (lv_at hl 2 rfl) ?_
            refine x_iald (v := (-9)) hx hb hK hP 31 0 (by decide) rfl rfl sv rfl (by omega) (by decide) (su_at _ _ _ _) dX4_readsSon_114 ?_
            refine lv_bipush (v := (-9)) hx hb dX4_readsSon_115 (by decide +kernel) ?_
            refine lv_icmp_eq (tgt := 124) hx hb dX4_readsSon_117 (by decide) (fun _ => ?_) (fun hc => absurd (by decide) hc)
            refine lv_iconst (v := 0) hx hb dX4_readsSon_124 (by decide +kernel) ?_
            refine x_zret hx hb hr hlocks hP hS dX4_readsSon_125 (Or.inl rfl) ?_
            exact Or.inr ⟨rfl, _, hB, rfl, fun k h1 h2 => by simp only [su_ne h1, su_ne (show k ≠ 28 by omega), su_ne (show k ≠ 29 by omega), su_ne (show k ≠ 30 by omega), su_ne (show k ≠ 31 by omega)]⟩
        · have eS78 := eS78.trans (if_neg q78)
          rw [eS78] at hP
          have hw : r78 = -9 := hw.trans (if_neg q78)
          subst hw
          have hB := hA51.bad (fun z => tko_f q78 ⟨z.1, by have z2 := z.2; rw [okp53 hs, ← hcd _ z.1] at z2; exact z2⟩) (fun _ s hs z => by simp at z)
          refine x_iast hx hb hK hI hAd hP hS 30 0 (by decide) (fun _ => rfl) rfl sv rfl (by omega) (by decide) dX4_readsSon_81 (fun H locs hP hS => ?_)
          refine lv_aload_n hx hb dX4_readsSon_82 rfl (lv_at hl 0 rfl) ?_
          refine x_get (v := .ref (ad 30)) hx hb hts hinX4 hown hK hP 22 (by decide) rfl rfl 6 (by decide) (hts _ (List.mem_of_getElem? (i := 4) rfl)) rfl dX4_readsSon_83 ?_
          refine lv_iload_n hx hb dX4_readsSon_86 rfl (lv_at hl 2 rfl) ?_
          refine x_iald (v := (-9)) hx hb hK hP 30 0 (by decide) rfl rfl sv rfl (by omega) (by decide) (su_at _ _ _ _) dX4_readsSon_87 ?_
          refine lv_bipush (v := (-9)) hx hb dX4_readsSon_88 (by decide +kernel) ?_
          refine lv_icmp_ne (tgt := 95) hx hb dX4_readsSon_90 (by decide) (fun hc => absurd (by decide) hc) (fun _ => ?_)
          refine lv_iconst (v := 0) hx hb dX4_readsSon_93 (by decide +kernel) ?_
          refine x_zret hx hb hr hlocks hP hS dX4_readsSon_94 (Or.inl rfl) ?_
          exact Or.inr ⟨rfl, _, hB, rfl, fun k h1 h2 => by simp only [su_ne h1, su_ne (show k ≠ 28 by omega), su_ne (show k ≠ 29 by omega), su_ne (show k ≠ 30 by omega), su_ne (show k ≠ 31 by omega)]⟩
      · have eS51 := eS51.trans (if_neg q51)
        rw [eS51] at hP
        have hw : r51 = -9 := hw.trans (if_neg q51)
        subst hw
        have hB := hA17.bad (fun z => tko_f q51 ⟨z.1, by have z2 := z.2; rw [okp52 hs, ← hcd _ z.1] at z2; exact z2⟩) (fun _ s hs z => by simp at z)
        refine x_iast hx hb hK hI hAd hP hS 29 0 (by decide) (fun _ => rfl) rfl sv rfl (by omega) (by decide) dX4_readsSon_54 (fun H locs hP hS => ?_)
        refine lv_aload_n hx hb dX4_readsSon_55 rfl (lv_at hl 0 rfl) ?_
        refine x_get (v := .ref (ad 29)) hx hb hts hinX4 hown hK hP 22 (by decide) rfl rfl 5 (by decide) (hts _ (List.mem_of_getElem? (i := 2) rfl)) rfl dX4_readsSon_56 ?_
        refine lv_iload_n hx hb dX4_readsSon_59 rfl (lv_at hl 2 rfl) ?_
        refine x_iald (v := (-9)) hx hb hK hP 29 0 (by decide) rfl rfl sv rfl (by omega) (by decide) (su_at _ _ _ _) dX4_readsSon_60 ?_
        refine lv_bipush (v := (-9)) hx hb dX4_readsSon_61 (by decide +kernel) ?_
        refine lv_icmp_ne (tgt := 68) hx hb dX4_readsSon_63 (by decide) (fun hc => absurd (by decide) hc) (fun _ => ?_)
        refine lv_iconst (v := 0) hx hb dX4_readsSon_66 (by decide +kernel) ?_
        refine x_zret hx hb hr hlocks hP hS dX4_readsSon_67 (Or.inl rfl) ?_
        exact Or.inr ⟨rfl, _, hB, rfl, fun k h1 h2 => by simp only [su_ne h1, su_ne (show k ≠ 28 by omega), su_ne (show k ≠ 29 by omega), su_ne (show k ≠ 30 by omega), su_ne (show k ≠ 31 by omega)]⟩
    · skip
      by_cases qb17 : tko q (t + 1) (S 11 (t + 1)) 104 104 = true
      · have eS17 := eS17.trans (if_pos (by simp [qa17, qb17]))
        rw [eS17] at hP
        have hw : r17 = 1 := hw.trans (by simp [qa17, qb17])
        subst hw
        have hx17 : cd (t + 1) = 104 := (hcd _ (tko_t qb17).1).symm.trans (wit_same (tko_t qb17).2)
        have hA17 : tAt cd q (t + 1 + 1) (5, sv, 2) := hA3.step (tko_t qb17).1 (by rw [okp51 hs, hx17]; decide +kernel)
        have hk17 : (1 : Int32) = kdv (cd (t + 1)) := by rw [hx17]; decide +kernel
        refine x_iast hx hb hK hI hAd hP hS 28 0 (by decide) (fun _ => rfl) rfl sv rfl (by omega) (by decide) dX4_readsSon_20 (fun H locs hP hS => ?_)
        refine lv_aload_n hx hb dX4_readsSon_21 rfl (lv_at hl 0 rfl) ?_
        refine x_get (v := .ref (ad 28)) hx hb hts hinX4 hown hK hP 22 (by decide) rfl rfl 4 (by decide) (hts _ (List.mem_of_getElem? (i := 1) rfl)) rfl dX4_readsSon_22 ?_
        refine lv_iload_n hx hb dX4_readsSon_25 rfl (lv_at hl 2 rfl) ?_
        refine x_iald (v := 1) hx hb hK hP 28 0 (by decide) rfl rfl sv rfl (by omega) (by decide) (su_at _ _ _ _) dX4_readsSon_26 ?_
        refine lv_bipush (v := (-9)) hx hb dX4_readsSon_27 (by decide +kernel) ?_
        refine lv_icmp_ne (tgt := 34) hx hb dX4_readsSon_29 (by decide) (fun _ => ?_) (fun hc => absurd hc (by decide))
        refine lv_aload_n hx hb dX4_readsSon_34 rfl (lv_at hl 0 rfl) ?_
        refine x_get (v := .ref (ad 29)) hx hb hts hinX4 hown hK hP 22 (by decide) rfl rfl 5 (by decide) (hts _ (List.mem_of_getElem? (i := 2) rfl)) rfl dX4_readsSon_35 ?_
        refine lv_iload_n hx hb dX4_readsSon_38 rfl (lv_at hl 2 rfl) ?_
        refine lv_aload_n hx hb dX4_readsSon_39 rfl (lv_at hl 1 rfl) ?_
        refine lv_bipush (v := 48) hx hb dX4_readsSon_40 (by decide +kernel) ?_
        refine lv_bipush (v := 48) hx hb dX4_readsSon_42 (by decide +kernel) ?_
        refine lv_aload_n hx hb dX4_readsSon_44 rfl (lv_at hl 0 rfl) ?_
        refine x_get (v := .int (nI (cC cd))) hx hb hts hinX4 hown hK hP 22 (by decide) rfl rfl 0 (by decide) (hts _ (List.mem_of_getElem? (i := 3) rfl)) (congrArg (fun z => some (Value.int z)) hC0) dX4_readsSon_45 ?_
        refine lv_iadd hx hb dX4_readsSon_48 ?_
        refine lv_iconst (v := 1) hx hb dX4_readsSon_49 (by decide +kernel) ?_
        refine lv_isub hx hb dX4_readsSon_50 ?_
        rw [fat_hi (cC cd) hC2]
        refine x_calli (x_runV (As := [.int 48, .int (nI (47 + cC cd))]) (rest := [.int (nI sv), .ref (ad 29)]) hF (c3_takesDigit hI (su (su (su S 10 2 (nI (t + 1))) 10 2 (nI (t + 1 + 1))) 28 sv 1) q (t + 1 + 1) hq rfl hA17.1.le hq60 48 (nI (47 + cC cd))) (cwV 2 hts gX4_readsSon_X3_takesDigit rfl rfl rfl (by decide +kernel) ⟨Nat.le_of_ble_eq_true rfl, Nat.le_of_ble_eq_true rfl⟩) hK hP (by decide) rfl rfl rfl hl.1 rfl (Nat.le_of_ble_eq_true rfl) dX4_readsSon_51 ⟨Nat.zero_le _, Nat.zero_le _⟩) hS hAd (fun r51 S51 H locs hw hP _ hS => ?_)
        obtain ⟨hw, eS51⟩ := hw
        by_cases q51 : tko q (t + 1 + 1) (S 11 (t + 1 + 1)) 48 (nI (47 + cC cd)) = true
        · have eS51 := eS51.trans (if_pos q51)
          rw [eS51] at hP
          have hw : r51 = S 11 (t + 1 + 1) - 48 := hw.trans (if_pos q51)
          subst hw
          have hA51 : tAt cd q (t + 1 + 1 + 1) (5, sv, 3) := hA17.step (tko_t q51).1 (by rw [okp52 hs, ← hcd _ (tko_t q51).1]; exact (tko_t q51).2)
          have hf51 := dg_fat (cd := cd) (t := t + 1 + 1) hC2 hC4 (by rw [← hcd _ (tko_t q51).1]; exact (tko_t q51).2)
          rw [show S 11 (t + 1 + 1) - 48 = nI (dg cd (t + 1 + 1)) from (congrArg (fun z => z - 48) (hcd _ (tko_t q51).1)).trans hf51.2]
          refine x_iast hx hb hK hI hAd hP hS 29 0 (by decide) (fun _ => rfl) rfl sv rfl (by omega) (by decide) dX4_readsSon_54 (fun H locs hP hS => ?_)
          refine lv_aload_n hx hb dX4_readsSon_55 rfl (lv_at hl 0 rfl) ?_
          refine x_get (v := .ref (ad 29)) hx hb hts hinX4 hown hK hP 22 (by decide) rfl rfl 5 (by decide) (hts _ (List.mem_of_getElem? (i := 2) rfl)) rfl dX4_readsSon_56 ?_
          refine lv_iload_n hx hb dX4_readsSon_59 rfl (lv_at hl 2 rfl) ?_
          refine x_iald (v := nI (dg cd (t + 1 + 1))) hx hb hK hP 29 0 (by decide) rfl rfl sv rfl (by omega) (by decide) (su_at _ _ _ _) dX4_readsSon_60 ?_
          refine lv_bipush (v := (-9)) hx hb dX4_readsSon_61 (by decide +kernel) ?_
          refine lv_icmp_ne (tgt := 68) hx hb dX4_readsSon_63 (by decide) (fun _ => ?_) (fun hc => absurd hc (nI_ne9 (by omega)))
          refine lv_aload_n hx hb dX4_readsSon_68 rfl (lv_at hl 0 rfl) ?_
          refine x_get (v := .ref (ad 30)) hx hb hts hinX4 hown hK hP 22 (by decide) rfl rfl 6 (by decide) (hts _ (List.mem_of_getElem? (i := 4) rfl)) rfl dX4_readsSon_69 ?_
          refine lv_iload_n hx hb dX4_readsSon_72 rfl (lv_at hl 2 rfl) ?_
          refine lv_aload_n hx hb dX4_readsSon_73 rfl (lv_at hl 1 rfl) ?_
          refine lv_bipush (v := 48) hx hb dX4_readsSon_74 (by decide +kernel) ?_
          refine lv_bipush (v := 57) hx hb dX4_readsSon_76 (by decide +kernel) ?_
          refine x_calli (x_runV (As := [.int 48, .int 57]) (rest := [.int (nI sv), .ref (ad 30)]) hF (c3_takesDigit hI (su (su (su (su (su S 10 2 (nI (t + 1))) 10 2 (nI (t + 1 + 1))) 28 sv 1) 10 2 (nI (t + 1 + 1 + 1))) 29 sv (nI (dg cd (t + 1 + 1)))) q (t + 1 + 1 + 1) hq rfl hA51.1.le hq60 48 57) (cwV 2 hts gX4_readsSon_X3_takesDigit rfl rfl rfl (by decide +kernel) ⟨Nat.le_of_ble_eq_true rfl, Nat.le_of_ble_eq_true rfl⟩) hK hP (by decide) rfl rfl rfl hl.1 rfl (Nat.le_of_ble_eq_true rfl) dX4_readsSon_78 ⟨Nat.zero_le _, Nat.zero_le _⟩) hS hAd (fun r78 S78 H locs hw hP _ hS => ?_)
          obtain ⟨hw, eS78⟩ := hw
          by_cases q78 : tko q (t + 1 + 1 + 1) (S 11 (t + 1 + 1 + 1)) 48 57 = true
          · have eS78 := eS78.trans (if_pos q78)
            rw [eS78] at hP
            have hw : r78 = S 11 (t + 1 + 1 + 1) - 48 := hw.trans (if_pos q78)
            subst hw
            have hA78 : tAt cd q (t + 1 + 1 + 1 + 1) (5, sv, 4) := hA51.step (tko_t q78).1 (by rw [okp53 hs, ← hcd _ (tko_t q78).1]; exact (tko_t q78).2)
            have hf78 := dg_ok (cd := cd) (t := t + 1 + 1 + 1) (b := 9) (by decide) (by rw [← hcd _ (tko_t q78).1]; exact (tko_t q78).2)
            rw [show S 11 (t + 1 + 1 + 1) - 48 = nI (dg cd (t + 1 + 1 + 1)) from (congrArg (fun z => z - 48) (hcd _ (tko_t q78).1)).trans hf78.2.2]
            refine x_iast hx hb hK hI hAd hP hS 30 0 (by decide) (fun _ => rfl) rfl sv rfl (by omega) (by decide) dX4_readsSon_81 (fun H locs hP hS => ?_)
            refine lv_aload_n hx hb dX4_readsSon_82 rfl (lv_at hl 0 rfl) ?_
            refine x_get (v := .ref (ad 30)) hx hb hts hinX4 hown hK hP 22 (by decide) rfl rfl 6 (by decide) (hts _ (List.mem_of_getElem? (i := 4) rfl)) rfl dX4_readsSon_83 ?_
            refine lv_iload_n hx hb dX4_readsSon_86 rfl (lv_at hl 2 rfl) ?_
            refine x_iald (v := nI (dg cd (t + 1 + 1 + 1))) hx hb hK hP 30 0 (by decide) rfl rfl sv rfl (by omega) (by decide) (su_at _ _ _ _) dX4_readsSon_87 ?_
            refine lv_bipush (v := (-9)) hx hb dX4_readsSon_88 (by decide +kernel) ?_
            refine lv_icmp_ne (tgt := 95) hx hb dX4_readsSon_90 (by decide) (fun _ => ?_) (fun hc => absurd hc (nI_ne9 (by omega)))
            refine lv_aload_n hx hb dX4_readsSon_95 rfl (lv_at hl 0 rfl) ?_
            refine x_get (v := .ref (ad 31)) hx hb hts hinX4 hown hK hP 22 (by decide) rfl rfl 7 (by decide) (hts _ (List.mem_of_getElem? (i := 5) rfl)) rfl dX4_readsSon_96 ?_
            refine lv_iload_n hx hb dX4_readsSon_99 rfl (lv_at hl 2 rfl) ?_
            refine lv_aload_n hx hb dX4_readsSon_100 rfl (lv_at hl 1 rfl) ?_
            refine lv_bipush (v := 48) hx hb dX4_readsSon_101 (by decide +kernel) ?_
            refine lv_bipush (v := 51) hx hb dX4_readsSon_103 (by decide +kernel) ?_
            refine x_calli (x_runV (As := [.int 48, .int 51]) (rest := [.int (nI sv), .ref (ad 31)]) hF (c3_takesDigit hI (su (su (su (su (su (su (su S 10 2 (nI (t + 1))) 10 2 (nI (t + 1 + 1))) 28 sv 1) 10 2 (nI (t + 1 + 1 + 1))) 29 sv (nI (dg cd (t + 1 + 1)))) 10 2 (nI (t + 1 + 1 + 1 + 1))) 30 sv (nI (dg cd (t + 1 + 1 + 1)))) q (t + 1 + 1 + 1 + 1) hq rfl hA78.1.le hq60 48 51) (cwV 2 hts gX4_readsSon_X3_takesDigit rfl rfl rfl (by decide +kernel) ⟨Nat.le_of_ble_eq_true rfl, Nat.le_of_ble_eq_true rfl⟩) hK hP (by decide) rfl rfl rfl hl.1 rfl (Nat.le_of_ble_eq_true rfl) dX4_readsSon_105 ⟨Nat.zero_le _, Nat.zero_le _⟩) hS hAd (fun r105 S105 H locs hw hP _ hS => ?_)
            obtain ⟨hw, eS105⟩ := hw
            by_cases q105 : tko q (t + 1 + 1 + 1 + 1) (S 11 (t + 1 + 1 + 1 + 1)) 48 51 = true
            · have eS105 := eS105.trans (if_pos q105)
              rw [eS105] at hP
              have hw : r105 = S 11 (t + 1 + 1 + 1 + 1) - 48 := hw.trans (if_pos q105)
              subst hw
              have hA105 : tAt cd q (t + 1 + 1 + 1 + 1 + 1) (5, sv + 1, 0) := hA78.step (tko_t q105).1 (by rw [okp54 hs, ← hcd _ (tko_t q105).1]; exact (tko_t q105).2)
              have hf105 := dg_ok (cd := cd) (t := t + 1 + 1 + 1 + 1) (b := 3) (by decide) (by rw [← hcd _ (tko_t q105).1]; exact (tko_t q105).2)
              rw [show S 11 (t + 1 + 1 + 1 + 1) - 48 = nI (dg cd (t + 1 + 1 + 1 + 1)) from (congrArg (fun z => z - 48) (hcd _ (tko_t q105).1)).trans hf105.2.2]
              refine x_iast hx hb hK hI hAd hP hS 31 0 (by decide) (fun _ => rfl) rfl sv rfl (by omega) (by decide) dX4_readsSon_108 (fun H locs hP hS => ?_)
              refine lv_aload_n hx hb dX4_readsSon_109 rfl (lv_at hl 0 rfl) ?_
              refine x_get (v := .ref (ad 31)) hx hb hts hinX4 hown hK hP 22 (by decide) rfl rfl 7 (by decide) (hts _ (List.mem_of_getElem? (i := 5) rfl)) rfl dX4_readsSon_110 ?_
              refine lv_iload_n hx hb dX4_readsSon_113 rfl (lv_at hl 2 rfl) ?_
              refine x_iald (v := nI (dg cd (t + 1 + 1 + 1 + 1))) hx hb hK hP 31 0 (by decide) rfl rfl sv rfl (by omega) (by decide) (su_at _ _ _ _) dX4_readsSon_114 ?_
              refine lv_bipush (v := (-9)) hx hb dX4_readsSon_115 (by decide +kernel) ?_
              refine lv_icmp_eq (tgt := 124) hx hb dX4_readsSon_117 (by decide) (fun hc => absurd hc (nI_ne9 (by omega))) (fun _ => ?_)
              refine lv_iconst (v := 1) hx hb dX4_readsSon_120 (by decide +kernel) ?_
              refine lv_goto (tgt := 125) hx hb dX4_readsSon_121 (by decide) ?_
              refine x_zret hx hb hr hlocks hP hS dX4_readsSon_125 (Or.inr rfl) ?_
              exact Or.inl ⟨rfl, hA105, by show upd (upd (upd (upd (upd (S 10) 2 _) 2 _) 2 _) 2 _) 2 _ = _; rw [upd_upd, upd_upd, upd_upd, upd_upd], by rw [← hk17]; rfl, rfl, rfl, rfl, fun k h1 h2 => by simp only [su_ne h1, su_ne (show k ≠ 28 by omega), su_ne (show k ≠ 29 by omega), su_ne (show k ≠ 30 by omega), su_ne (show k ≠ 31 by omega)], hf51.1, hf78.1, hf105.1⟩
            · have eS105 := eS105.trans (if_neg q105)
              rw [eS105] at hP
              have hw : r105 = -9 := hw.trans (if_neg q105)
              subst hw
              have hB := hA78.bad (fun z => tko_f q105 ⟨z.1, by have z2 := z.2; rw [okp54 hs, ← hcd _ z.1] at z2; exact z2⟩) (fun _ s hs z => by simp at z)
              refine x_iast hx hb hK hI hAd hP hS 31 0 (by decide) (fun _ => rfl) rfl sv rfl (by omega) (by decide) dX4_readsSon_108 (fun H locs hP hS => ?_)
              refine lv_aload_n hx hb dX4_readsSon_109 rfl (lv_at hl 0 rfl) ?_
              refine x_get (v := .ref (ad 31)) hx hb hts hinX4 hown hK hP 22 (by decide) rfl rfl 7 (by decide) (hts _ (List.mem_of_getElem? (i := 5) rfl)) rfl dX4_readsSon_110 ?_
              refine lv_iload_n hx hb dX4_readsSon_113 rfl (lv_at hl 2 rfl) ?_
              refine x_iald (v := (-9)) hx hb hK hP 31 0 (by decide) rfl rfl sv rfl (by omega) (by decide) (su_at _ _ _ _) dX4_readsSon_114 ?_
              refine lv_bipush (v := (-9)) hx hb dX4_readsSon_115 (by decide +kernel) ?_
              refine lv_icmp_eq (tgt := 124) hx hb dX4_readsSon_117 (by decide) (fun _ => ?_) (fun hc => absurd (by decide) hc)
              refine lv_iconst (v := 0) hx hb dX4_readsSon_124 (by decide +kernel) ?_
              refine x_zret hx hb hr hlocks hP hS dX4_readsSon_125 (Or.inl rfl) ?_
              exact Or.inr ⟨rfl, _, hB, rfl, fun k h1 h2 => by simp only [su_ne h1, su_ne (show k ≠ 28 by omega), su_ne (show k ≠ 29 by omega), su_ne (show k ≠ 30 by omega), su_ne (show k ≠ 31 by omega)]⟩
          · have eS78 := eS78.trans (if_neg q78)
            rw [eS78] at hP
            have hw : r78 = -9 := hw.trans (if_neg q78)
            subst hw
            have hB := hA51.bad (fun z => tko_f q78 ⟨z.1, by have z2 := z.2; rw [okp53 hs, ← hcd _ z.1] at z2; exact z2⟩) (fun _ s hs z => by simp at z)
            refine x_iast hx hb hK hI hAd hP hS 30 0 (by decide) (fun _ => rfl) rfl sv rfl (by omega) (by decide) dX4_readsSon_81 (fun H locs hP hS => ?_)
            refine lv_aload_n hx hb dX4_readsSon_82 rfl (lv_at hl 0 rfl) ?_
            refine x_get (v := .ref (ad 30)) hx hb hts hinX4 hown hK hP 22 (by decide) rfl rfl 6 (by decide) (hts _ (List.mem_of_getElem? (i := 4) rfl)) rfl dX4_readsSon_83 ?_
            refine lv_iload_n hx hb dX4_readsSon_86 rfl (lv_at hl 2 rfl) ?_
            refine x_iald (v := (-9)) hx hb hK hP 30 0 (by decide) rfl rfl sv rfl (by omega) (by decide) (su_at _ _ _ _) dX4_readsSon_87 ?_
            refine lv_bipush (v := (-9)) hx hb dX4_readsSon_88 (by decide +kernel) ?_
            refine lv_icmp_ne (tgt := 95) hx hb dX4_readsSon_90 (by decide) (fun hc => absurd (by decide) hc) (fun _ => ?_)
            refine lv_iconst (v := 0) hx hb dX4_readsSon_93 (by decide +kernel) ?_
            refine x_zret hx hb hr hlocks hP hS dX4_readsSon_94 (Or.inl rfl) ?_
            exact Or.inr ⟨rfl, _, hB, rfl, fun k h1 h2 => by simp only [su_ne h1, su_ne (show k ≠ 28 by omega), su_ne (show k ≠ 29 by omega), su_ne (show k ≠ 30 by omega), su_ne (show k ≠ 31 by omega)]⟩
        · have eS51 := eS51.trans (if_neg q51)
          rw [eS51] at hP
          have hw : r51 = -9 := hw.trans (if_neg q51)
          subst hw
          have hB := hA17.bad (fun z => tko_f q51 ⟨z.1, by have z2 := z.2; rw [okp52 hs, ← hcd _ z.1] at z2; exact z2⟩) (fun _ s hs z => by simp at z)
          refine x_iast hx hb hK hI hAd hP hS 29 0 (by decide) (fun _ => rfl) rfl sv rfl (by omega) (by decide) dX4_readsSon_54 (fun H locs hP hS => ?_)
          refine lv_aload_n hx hb dX4_readsSon_55 rfl (lv_at hl 0 rfl) ?_
          refine x_get (v := .ref (ad 29)) hx hb hts hinX4 hown hK hP 22 (by decide) rfl rfl 5 (by decide) (hts _ (List.mem_of_getElem? (i := 2) rfl)) rfl dX4_readsSon_56 ?_
          refine lv_iload_n hx hb dX4_readsSon_59 rfl (lv_at hl 2 rfl) ?_
          refine x_iald (v := (-9)) hx hb hK hP 29 0 (by decide) rfl rfl sv rfl (by omega) (by decide) (su_at _ _ _ _) dX4_readsSon_60 ?_
          refine lv_bipush (v := (-9)) hx hb dX4_readsSon_61 (by decide +kernel) ?_
          refine lv_icmp_ne (tgt := 68) hx hb dX4_readsSon_63 (by decide) (fun hc => absurd (by decide) hc) (fun _ => ?_)
          refine lv_iconst (v := 0) hx hb dX4_readsSon_66 (by decide +kernel) ?_
          refine x_zret hx hb hr hlocks hP hS dX4_readsSon_67 (Or.inl rfl) ?_
          exact Or.inr ⟨rfl, _, hB, rfl, fun k h1 h2 => by simp only [su_ne h1, su_ne (show k ≠ 28 by omega), su_ne (show k ≠ 29 by omega), su_ne (show k ≠ 30 by omega), su_ne (show k ≠ 31 by omega)]⟩
      · skip
        by_cases qc17 : tko q (t + 1) (S 11 (t + 1)) 112 112 = true
        · have eS17 := eS17.trans (if_pos (by simp [qa17, qb17, qc17]))
          rw [eS17] at hP
          have hw : r17 = 2 := hw.trans (by simp [qa17, qb17, qc17])
          subst hw
          have hx17 : cd (t + 1) = 112 := (hcd _ (tko_t qc17).1).symm.trans (wit_same (tko_t qc17).2)
          have hA17 : tAt cd q (t + 1 + 1) (5, sv, 2) := hA3.step (tko_t qc17).1 (by rw [okp51 hs, hx17]; decide +kernel)
          have hk17 : (2 : Int32) = kdv (cd (t + 1)) := by rw [hx17]; decide +kernel
          refine x_iast hx hb hK hI hAd hP hS 28 0 (by decide) (fun _ => rfl) rfl sv rfl (by omega) (by decide) dX4_readsSon_20 (fun H locs hP hS => ?_)
          refine lv_aload_n hx hb dX4_readsSon_21 rfl (lv_at hl 0 rfl) ?_
          refine x_get (v := .ref (ad 28)) hx hb hts hinX4 hown hK hP 22 (by decide) rfl rfl 4 (by decide) (hts _ (List.mem_of_getElem? (i := 1) rfl)) rfl dX4_readsSon_22 ?_
          refine lv_iload_n hx hb dX4_readsSon_25 rfl (lv_at hl 2 rfl) ?_
          refine x_iald (v := 2) hx hb hK hP 28 0 (by decide) rfl rfl sv rfl (by omega) (by decide) (su_at _ _ _ _) dX4_readsSon_26 ?_
          refine lv_bipush (v := (-9)) hx hb dX4_readsSon_27 (by decide +kernel) ?_
          refine lv_icmp_ne (tgt := 34) hx hb dX4_readsSon_29 (by decide) (fun _ => ?_) (fun hc => absurd hc (by decide))
          refine lv_aload_n hx hb dX4_readsSon_34 rfl (lv_at hl 0 rfl) ?_
          refine x_get (v := .ref (ad 29)) hx hb hts hinX4 hown hK hP 22 (by decide) rfl rfl 5 (by decide) (hts _ (List.mem_of_getElem? (i := 2) rfl)) rfl dX4_readsSon_35 ?_
          refine lv_iload_n hx hb dX4_readsSon_38 rfl (lv_at hl 2 rfl) ?_
          refine lv_aload_n hx hb dX4_readsSon_39 rfl (lv_at hl 1 rfl) ?_
          refine lv_bipush (v := 48) hx hb dX4_readsSon_40 (by decide +kernel) ?_
          refine lv_bipush (v := 48) hx hb dX4_readsSon_42 (by decide +kernel) ?_
          refine lv_aload_n hx hb dX4_readsSon_44 rfl (lv_at hl 0 rfl) ?_
          refine x_get (v := .int (nI (cC cd))) hx hb hts hinX4 hown hK hP 22 (by decide) rfl rfl 0 (by decide) (hts _ (List.mem_of_getElem? (i := 3) rfl)) (congrArg (fun z => some (Value.int z)) hC0) dX4_readsSon_45 ?_
          refine lv_iadd hx hb dX4_readsSon_48 ?_
          refine lv_iconst (v := 1) hx hb dX4_readsSon_49 (by decide +kernel) ?_
          refine lv_isub hx hb dX4_readsSon_50 ?_
          rw [fat_hi (cC cd) hC2]
          refine x_calli (x_runV (As := [.int 48, .int (nI (47 + cC cd))]) (rest := [.int (nI sv), .ref (ad 29)]) hF (c3_takesDigit hI (su (su (su S 10 2 (nI (t + 1))) 10 2 (nI (t + 1 + 1))) 28 sv 2) q (t + 1 + 1) hq rfl hA17.1.le hq60 48 (nI (47 + cC cd))) (cwV 2 hts gX4_readsSon_X3_takesDigit rfl rfl rfl (by decide +kernel) ⟨Nat.le_of_ble_eq_true rfl, Nat.le_of_ble_eq_true rfl⟩) hK hP (by decide) rfl rfl rfl hl.1 rfl (Nat.le_of_ble_eq_true rfl) dX4_readsSon_51 ⟨Nat.zero_le _, Nat.zero_le _⟩) hS hAd (fun r51 S51 H locs hw hP _ hS => ?_)
          obtain ⟨hw, eS51⟩ := hw
          by_cases q51 : tko q (t + 1 + 1) (S 11 (t + 1 + 1)) 48 (nI (47 + cC cd)) = true
          · have eS51 := eS51.trans (if_pos q51)
            rw [eS51] at hP
            have hw : r51 = S 11 (t + 1 + 1) - 48 := hw.trans (if_pos q51)
            subst hw
            have hA51 : tAt cd q (t + 1 + 1 + 1) (5, sv, 3) := hA17.step (tko_t q51).1 (by rw [okp52 hs, ← hcd _ (tko_t q51).1]; exact (tko_t q51).2)
            have hf51 := dg_fat (cd := cd) (t := t + 1 + 1) hC2 hC4 (by rw [← hcd _ (tko_t q51).1]; exact (tko_t q51).2)
            rw [show S 11 (t + 1 + 1) - 48 = nI (dg cd (t + 1 + 1)) from (congrArg (fun z => z - 48) (hcd _ (tko_t q51).1)).trans hf51.2]
            refine x_iast hx hb hK hI hAd hP hS 29 0 (by decide) (fun _ => rfl) rfl sv rfl (by omega) (by decide) dX4_readsSon_54 (fun H locs hP hS => ?_)
            refine lv_aload_n hx hb dX4_readsSon_55 rfl (lv_at hl 0 rfl) ?_
            refine x_get (v := .ref (ad 29)) hx hb hts hinX4 hown hK hP 22 (by decide) rfl rfl 5 (by decide) (hts _ (List.mem_of_getElem? (i := 2) rfl)) rfl dX4_readsSon_56 ?_
            refine lv_iload_n hx hb dX4_readsSon_59 rfl (lv_at hl 2 rfl) ?_
            refine x_iald (v := nI (dg cd (t + 1 + 1))) hx hb hK hP 29 0 (by decide) rfl rfl sv rfl (by omega) (by decide) (su_at _ _ _ _) dX4_readsSon_60 ?_
            refine lv_bipush (v := (-9)) hx hb dX4_readsSon_61 (by decide +kernel) ?_
            refine lv_icmp_ne (tgt := 68) hx hb dX4_readsSon_63 (by decide) (fun _ => ?_) (fun hc => absurd hc (nI_ne9 (by omega)))
            refine lv_aload_n hx hb dX4_readsSon_68 rfl (lv_at hl 0 rfl) ?_
            refine x_get (v := .ref (ad 30)) hx hb hts hinX4 hown hK hP 22 (by decide) rfl rfl 6 (by decide) (hts _ (List.mem_of_getElem? (i := 4) rfl)) rfl dX4_readsSon_69 ?_
            refine lv_iload_n hx hb dX4_readsSon_72 rfl (lv_at hl 2 rfl) ?_
            refine lv_aload_n hx hb dX4_readsSon_73 rfl (lv_at hl 1 rfl) ?_
            refine lv_bipush (v := 48) hx hb dX4_readsSon_74 (by decide +kernel) ?_
            refine lv_bipush (v := 57) hx hb dX4_readsSon_76 (by decide +kernel) ?_
            refine x_calli (x_runV (As := [.int 48, .int 57]) (rest := [.int (nI sv), .ref (ad 30)]) hF (c3_takesDigit hI (su (su (su (su (su S 10 2 (nI (t + 1))) 10 2 (nI (t + 1 + 1))) 28 sv 2) 10 2 (nI (t + 1 + 1 + 1))) 29 sv (nI (dg cd (t + 1 + 1)))) q (t + 1 + 1 + 1) hq rfl hA51.1.le hq60 48 57) (cwV 2 hts gX4_readsSon_X3_takesDigit rfl rfl rfl (by decide +kernel) ⟨Nat.le_of_ble_eq_true rfl, Nat.le_of_ble_eq_true rfl⟩) hK hP (by decide) rfl rfl rfl hl.1 rfl (Nat.le_of_ble_eq_true rfl) dX4_readsSon_78 ⟨Nat.zero_le _, Nat.zero_le _⟩) hS hAd (fun r78 S78 H locs hw hP _ hS => ?_)
            obtain ⟨hw, eS78⟩ := hw
            by_cases q78 : tko q (t + 1 + 1 + 1) (S 11 (t + 1 + 1 + 1)) 48 57 = true
            · have eS78 := eS78.trans (if_pos q78)
              rw [eS78] at hP
              have hw : r78 = S 11 (t + 1 + 1 + 1) - 48 := hw.trans (if_pos q78)
              subst hw
              have hA78 : tAt cd q (t + 1 + 1 + 1 + 1) (5, sv, 4) := hA51.step (tko_t q78).1 (by rw [okp53 hs, ← hcd _ (tko_t q78).1]; exact (tko_t q78).2)
              have hf78 := dg_ok (cd := cd) (t := t + 1 + 1 + 1) (b := 9) (by decide) (by rw [← hcd _ (tko_t q78).1]; exact (tko_t q78).2)
              rw [show S 11 (t + 1 + 1 + 1) - 48 = nI (dg cd (t + 1 + 1 + 1)) from (congrArg (fun z => z - 48) (hcd _ (tko_t q78).1)).trans hf78.2.2]
              refine x_iast hx hb hK hI hAd hP hS 30 0 (by decide) (fun _ => rfl) rfl sv rfl (by omega) (by decide) dX4_readsSon_81 (fun H locs hP hS => ?_)
              refine lv_aload_n hx hb dX4_readsSon_82 rfl (lv_at hl 0 rfl) ?_
              refine x_get (v := .ref (ad 30)) hx hb hts hinX4 hown hK hP 22 (by decide) rfl rfl 6 (by decide) (hts _ (List.mem_of_getElem? (i := 4) rfl)) rfl dX4_readsSon_83 ?_
              refine lv_iload_n hx hb dX4_readsSon_86 rfl (lv_at hl 2 rfl) ?_
              refine x_iald (v := nI (dg cd (t + 1 + 1 + 1))) hx hb hK hP 30 0 (by decide) rfl rfl sv rfl (by omega) (by decide) (su_at _ _ _ _) dX4_readsSon_87 ?_
              refine lv_bipush (v := (-9)) hx hb dX4_readsSon_88 (by decide +kernel) ?_
              refine lv_icmp_ne (tgt := 95) hx hb dX4_readsSon_90 (by decide) (fun _ => ?_) (fun hc => absurd hc (nI_ne9 (by omega)))
              refine lv_aload_n hx hb dX4_readsSon_95 rfl (lv_at hl 0 rfl) ?_
              refine x_get (v := .ref (ad 31)) hx hb hts hinX4 hown hK hP 22 (by decide) rfl rfl 7 (by decide) (hts _ (List.mem_of_getElem? (i := 5) rfl)) rfl dX4_readsSon_96 ?_
              refine lv_iload_n hx hb dX4_readsSon_99 rfl (lv_at hl 2 rfl) ?_
              refine lv_aload_n hx hb dX4_readsSon_100 rfl (lv_at hl 1 rfl) ?_
              refine lv_bipush (v := 48) hx hb dX4_readsSon_101 (by decide +kernel) ?_
              refine lv_bipush (v := 51) hx hb dX4_readsSon_103 (by decide +kernel) ?_
              refine x_calli (x_runV (As := [.int 48, .int 51]) (rest := [.int (nI sv), .ref (ad 31)]) hF (c3_takesDigit hI (su (su (su (su (su (su (su S 10 2 (nI (t + 1))) 10 2 (nI (t + 1 + 1))) 28 sv 2) 10 2 (nI (t + 1 + 1 + 1))) 29 sv (nI (dg cd (t + 1 + 1)))) 10 2 (nI (t + 1 + 1 + 1 + 1))) 30 sv (nI (dg cd (t + 1 + 1 + 1)))) q (t + 1 + 1 + 1 + 1) hq rfl hA78.1.le hq60 48 51) (cwV 2 hts gX4_readsSon_X3_takesDigit rfl rfl rfl (by decide +kernel) ⟨Nat.le_of_ble_eq_true rfl, Nat.le_of_ble_eq_true rfl⟩) hK hP (by decide) rfl rfl rfl hl.1 rfl (Nat.le_of_ble_eq_true rfl) dX4_readsSon_105 ⟨Nat.zero_le _, Nat.zero_le _⟩) hS hAd (fun r105 S105 H locs hw hP _ hS => ?_)
              obtain ⟨hw, eS105⟩ := hw
              by_cases q105 : tko q (t + 1 + 1 + 1 + 1) (S 11 (t + 1 + 1 + 1 + 1)) 48 51 = true
              · have eS105 := eS105.trans (if_pos q105)
                rw [eS105] at hP
                have hw : r105 = S 11 (t + 1 + 1 + 1 + 1) - 48 := hw.trans (if_pos q105)
                subst hw
                have hA105 : tAt cd q (t + 1 + 1 + 1 + 1 + 1) (5, sv + 1, 0) := hA78.step (tko_t q105).1 (by rw [okp54 hs, ← hcd _ (tko_t q105).1]; exact (tko_t q105).2)
                have hf105 := dg_ok (cd := cd) (t := t + 1 + 1 + 1 + 1) (b := 3) (by decide) (by rw [← hcd _ (tko_t q105).1]; exact (tko_t q105).2)
                rw [show S 11 (t + 1 + 1 + 1 + 1) - 48 = nI (dg cd (t + 1 + 1 + 1 + 1)) from (congrArg (fun z => z - 48) (hcd _ (tko_t q105).1)).trans hf105.2.2]
                refine x_iast hx hb hK hI hAd hP hS 31 0 (by decide) (fun _ => rfl) rfl sv rfl (by omega) (by decide) dX4_readsSon_108 (fun H locs hP hS => ?_)
                refine lv_aload_n hx hb dX4_readsSon_109 rfl (lv_at hl 0 rfl) ?_
                refine x_get (v := .ref (ad 31)) hx hb hts hinX4 hown hK hP 22 (by decide) rfl rfl 7 (by decide) (hts _ (List.mem_of_getElem? (i := 5) rfl)) rfl dX4_readsSon_110 ?_
                refine lv_iload_n hx hb dX4_readsSon_113 rfl (lv_at hl 2 rfl) ?_
                refine x_iald (v := nI (dg cd (t + 1 + 1 + 1 + 1))) hx hb hK hP 31 0 (by decide) rfl rfl sv rfl (by omega) (by decide) (su_at _ _ _ _) dX4_readsSon_114 ?_
                refine lv_bipush (v := (-9)) hx hb dX4_readsSon_115 (by decide +kernel) ?_
                refine lv_icmp_eq (tgt := 124) hx hb dX4_readsSon_117 (by decide) (fun hc => absurd hc (nI_ne9 (by omega))) (fun _ => ?_)
                refine lv_iconst (v := 1) hx hb dX4_readsSon_120 (by decide +kernel) ?_
                refine lv_goto (tgt := 125) hx hb dX4_readsSon_121 (by decide) ?_
                refine x_zret hx hb hr hlocks hP hS dX4_readsSon_125 (Or.inr rfl) ?_
                exact Or.inl ⟨rfl, hA105, by show upd (upd (upd (upd (upd (S 10) 2 _) 2 _) 2 _) 2 _) 2 _ = _; rw [upd_upd, upd_upd, upd_upd, upd_upd], by rw [← hk17]; rfl, rfl, rfl, rfl, fun k h1 h2 => by simp only [su_ne h1, su_ne (show k ≠ 28 by omega), su_ne (show k ≠ 29 by omega), su_ne (show k ≠ 30 by omega), su_ne (show k ≠ 31 by omega)], hf51.1, hf78.1, hf105.1⟩
              · have eS105 := eS105.trans (if_neg q105)
                rw [eS105] at hP
                have hw : r105 = -9 := hw.trans (if_neg q105)
                subst hw
                have hB := hA78.bad (fun z => tko_f q105 ⟨z.1, by have z2 := z.2; rw [okp54 hs, ← hcd _ z.1] at z2; exact z2⟩) (fun _ s hs z => by simp at z)
                refine x_iast hx hb hK hI hAd hP hS 31 0 (by decide) (fun _ => rfl) rfl sv rfl (by omega) (by decide) dX4_readsSon_108 (fun H locs hP hS => ?_)
                refine lv_aload_n hx hb dX4_readsSon_109 rfl (lv_at hl 0 rfl) ?_
                refine x_get (v := .ref (ad 31)) hx hb hts hinX4 hown hK hP 22 (by decide) rfl rfl 7 (by decide) (hts _ (List.mem_of_getElem? (i := 5) rfl)) rfl dX4_readsSon_110 ?_
                refine lv_iload_n hx hb dX4_readsSon_113 rfl (lv_at hl 2 rfl) ?_
                refine x_iald (v := (-9)) hx hb hK hP 31 0 (by decide) rfl rfl sv rfl (by omega) (by decide) (su_at _ _ _ _) dX4_readsSon_114 ?_
                refine lv_bipush (v := (-9)) hx hb dX4_readsSon_115 (by decide +kernel) ?_
                refine lv_icmp_eq (tgt := 124) hx hb dX4_readsSon_117 (by decide) (fun _ => ?_) (fun hc => absurd (by decide) hc)
                refine lv_iconst (v := 0) hx hb dX4_readsSon_124 (by decide +kernel) ?_
                refine x_zret hx hb hr hlocks hP hS dX4_readsSon_125 (Or.inl rfl) ?_
                exact Or.inr ⟨rfl, _, hB, rfl, fun k h1 h2 => by simp only [su_ne h1, su_ne (show k ≠ 28 by omega), su_ne (show k ≠ 29 by omega), su_ne (show k ≠ 30 by omega), su_ne (show k ≠ 31 by omega)]⟩
            · have eS78 := eS78.trans (if_neg q78)
              rw [eS78] at hP
              have hw : r78 = -9 := hw.trans (if_neg q78)
              subst hw
              have hB := hA51.bad (fun z => tko_f q78 ⟨z.1, by have z2 := z.2; rw [okp53 hs, ← hcd _ z.1] at z2; exact z2⟩) (fun _ s hs z => by simp at z)
              refine x_iast hx hb hK hI hAd hP hS 30 0 (by decide) (fun _ => rfl) rfl sv rfl (by omega) (by decide) dX4_readsSon_81 (fun H locs hP hS => ?_)
              refine lv_aload_n hx hb dX4_readsSon_82 rfl (lv_at hl 0 rfl) ?_
              refine x_get (v := .ref (ad 30)) hx hb hts hinX4 hown hK hP 22 (by decide) rfl rfl 6 (by decide) (hts _ (List.mem_of_getElem? (i := 4) rfl)) rfl dX4_readsSon_83 ?_
              refine lv_iload_n hx hb dX4_readsSon_86 rfl (lv_at hl 2 rfl) ?_
              refine x_iald (v := (-9)) hx hb hK hP 30 0 (by decide) rfl rfl sv rfl (by omega) (by decide) (su_at _ _ _ _) dX4_readsSon_87 ?_
              refine lv_bipush (v := (-9)) hx hb dX4_readsSon_88 (by decide +kernel) ?_
              refine lv_icmp_ne (tgt := 95) hx hb dX4_readsSon_90 (by decide) (fun hc => absurd (by decide) hc) (fun _ => ?_)
              refine lv_iconst (v := 0) hx hb dX4_readsSon_93 (by decide +kernel) ?_
              refine x_zret hx hb hr hlocks hP hS dX4_readsSon_94 (Or.inl rfl) ?_
              exact Or.inr ⟨rfl, _, hB, rfl, fun k h1 h2 => by simp only [su_ne h1, su_ne (show k ≠ 28 by omega), su_ne (show k ≠ 29 by omega), su_ne (show k ≠ 30 by omega), su_ne (show k ≠ 31 by omega)]⟩
          · have eS51 := eS51.trans (if_neg q51)
            rw [eS51] at hP
            have hw : r51 = -9 := hw.trans (if_neg q51)
            subst hw
            have hB := hA17.bad (fun z => tko_f q51 ⟨z.1, by have z2 := z.2; rw [okp52 hs, ← hcd _ z.1] at z2; exact z2⟩) (fun _ s hs z => by simp at z)
            refine x_iast hx hb hK hI hAd hP hS 29 0 (by decide) (fun _ => rfl) rfl sv rfl (by omega) (by decide) dX4_readsSon_54 (fun H locs hP hS => ?_)
            refine lv_aload_n hx hb dX4_readsSon_55 rfl (lv_at hl 0 rfl) ?_
            refine x_get (v := .ref (ad 29)) hx hb hts hinX4 hown hK hP 22 (by decide) rfl rfl 5 (by decide) (hts _ (List.mem_of_getElem? (i := 2) rfl)) rfl dX4_readsSon_56 ?_
            refine lv_iload_n hx hb dX4_readsSon_59 rfl (lv_at hl 2 rfl) ?_
            refine x_iald (v := (-9)) hx hb hK hP 29 0 (by decide) rfl rfl sv rfl (by omega) (by decide) (su_at _ _ _ _) dX4_readsSon_60 ?_
            refine lv_bipush (v := (-9)) hx hb dX4_readsSon_61 (by decide +kernel) ?_
            refine lv_icmp_ne (tgt := 68) hx hb dX4_readsSon_63 (by decide) (fun hc => absurd (by decide) hc) (fun _ => ?_)
            refine lv_iconst (v := 0) hx hb dX4_readsSon_66 (by decide +kernel) ?_
            refine x_zret hx hb hr hlocks hP hS dX4_readsSon_67 (Or.inl rfl) ?_
            exact Or.inr ⟨rfl, _, hB, rfl, fun k h1 h2 => by simp only [su_ne h1, su_ne (show k ≠ 28 by omega), su_ne (show k ≠ 29 by omega), su_ne (show k ≠ 30 by omega), su_ne (show k ≠ 31 by omega)]⟩
        · skip
          have eS17 := eS17.trans (if_neg (by simp [qa17, qb17, qc17]))
          rw [eS17] at hP
          have hw : r17 = -9 := hw.trans (by simp [qa17, qb17, qc17])
          subst hw
          have hB := hA3.bad (fun z => by have z2 := z.2; rw [okp51 hs, ← hcd _ z.1] at z2; exact (of_decide_eq_true z2).elim (fun y => tko_f qa17 ⟨z.1, by rw [y]; decide +kernel⟩) (fun y => y.elim (fun y => tko_f qb17 ⟨z.1, by rw [y]; decide +kernel⟩) (fun y => tko_f qc17 ⟨z.1, by rw [y]; decide +kernel⟩))) (fun _ s hs z => by simp at z)
          refine x_iast hx hb hK hI hAd hP hS 28 0 (by decide) (fun _ => rfl) rfl sv rfl (by omega) (by decide) dX4_readsSon_20 (fun H locs hP hS => ?_)
          refine lv_aload_n hx hb dX4_readsSon_21 rfl (lv_at hl 0 rfl) ?_
          refine x_get (v := .ref (ad 28)) hx hb hts hinX4 hown hK hP 22 (by decide) rfl rfl 4 (by decide) (hts _ (List.mem_of_getElem? (i := 1) rfl)) rfl dX4_readsSon_22 ?_
          refine lv_iload_n hx hb dX4_readsSon_25 rfl (lv_at hl 2 rfl) ?_
          refine x_iald (v := (-9)) hx hb hK hP 28 0 (by decide) rfl rfl sv rfl (by omega) (by decide) (su_at _ _ _ _) dX4_readsSon_26 ?_
          refine lv_bipush (v := (-9)) hx hb dX4_readsSon_27 (by decide +kernel) ?_
          refine lv_icmp_ne (tgt := 34) hx hb dX4_readsSon_29 (by decide) (fun hc => absurd (by decide) hc) (fun _ => ?_)
          refine lv_iconst (v := 0) hx hb dX4_readsSon_32 (by decide +kernel) ?_
          refine x_zret hx hb hr hlocks hP hS dX4_readsSon_33 (Or.inl rfl) ?_
          exact Or.inr ⟨rfl, _, hB, rfl, fun k h1 h2 => by simp only [su_ne h1, su_ne (show k ≠ 28 by omega), su_ne (show k ≠ 29 by omega), su_ne (show k ≠ 30 by omega), su_ne (show k ≠ 31 by omega)]⟩
  · have eS3 := eS3.trans (if_neg q3)
    rw [eS3] at hP
    have hw : r3 = 0 := hw.trans (if_neg q3)
    subst hw
    have hB := hA.bad (fun z => tko_f q3 ⟨z.1, by have z2 := z.2; rw [okp50 hs, ← hcd _ z.1] at z2; exact z2⟩) (fun z s h1 h2 => by have h3 : sv = s := congrArg (fun y : Nat × Nat × Nat => y.2.1) h2; have := htq1 (by omega); omega)
    refine lv_if_ne (tgt := 11) hx hb dX4_readsSon_6 (by decide) (fun hc => absurd (by decide) hc) (fun _ => ?_)
    refine lv_iconst (v := 0) hx hb dX4_readsSon_9 (by decide +kernel) ?_
    refine x_zret hx hb hr hlocks hP hS dX4_readsSon_10 (Or.inl rfl) ?_
    exact Or.inr ⟨rfl, _, hB, hp, fun k h1 h2 => rfl⟩

end C8
