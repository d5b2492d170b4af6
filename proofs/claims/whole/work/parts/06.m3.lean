section M3
variable {l : Launch} {dC : Nat → ClassId} {dI : Nat → Nat → Nat} {cI cZ cS cG : ClassId} {ad bd : Nat → Nat}
set_option maxHeartbeats 4000000 in
set_option maxRecDepth 100000 in
theorem c6_ofSon (hI : xI 18 bd) (S : xSt) (N : Nat) (hN : S 0 7 = nI N) (hN5 : N ≤ 5) (sn wn : Int32) : xMi l yX6_ofSon wsX6_ofSon ({ frames := 1, cells := 0, slots := 0, locals := 21 }) (dC, dI) vwCl (tyl cI cZ cS cG) (mLy cI cZ bd) 18 bd [.ref (bd 0), .int sn, .int wn] S (fun r S' => r = (if inR sn (S 0 7) then (if wn = 0 then S 5 (nN sn) else if wn = 1 then S 6 (nN sn) else if wn = 2 then S 7 (nN sn) else if wn = 3 then S 8 (nN sn) else if wn = 4 then S 9 (nN sn) else if wn = 5 then S 10 (nN sn) else -2) else -1) ∧ S' = S) := by
  refine xM_of (cc := cX6_ofSon) (nL := 3) (ret := (some .int)) (by decide) rfl (Nat.le_of_ble_eq_true rfl) ?_
  intro p e s m below meth c ls B hl hK hP
  obtain ⟨hx, hb, hml, hown, hts, hr, hlocks⟩ := B
  have hl : lv_has ls 3 [(0, .ref (bd 0)), (1, .int sn), (2, .int wn)] := hl
  have hS : va_S (xA 18 bd) s.heap s.heap [] := va_S.rf
  have hAd : ∀ k, k < 18 → xA 18 bd (bd k) := xA_in
  have hinX6 : ∀ w ∈ wsX60, w ∈ wsX6_ofSon := fun _ h => List.mem_cons_of_mem _ (List.mem_append_right _ h)
  have hF : CallFix p m c cX6_ofSon 3 s _ wsX6_ofSon RX6 := ⟨hx, hb, hml, hown, hts⟩
  refine lv_aload_n hx hb dX6_ofSon_0 rfl (lv_at hl 0 rfl) ?_
  refine lv_iload_n hx hb dX6_ofSon_1 rfl (lv_at hl 1 rfl) ?_
  refine x_calli (x_runV (As := [.int sn]) (rest := []) hF (c6_isSon hI S sn ) (cwV 1 hts gX6_ofSon_X6_isSon rfl rfl rfl (by decide +kernel) ⟨Nat.le_of_ble_eq_true rfl, Nat.le_of_ble_eq_true rfl⟩) hK hP (by decide) rfl rfl rfl hl.1 rfl (Nat.le_of_ble_eq_true rfl) dX6_ofSon_2 ⟨Nat.zero_le _, Nat.zero_le _⟩) hS hAd (fun r2 S2 H locs hw hP _ hS => ?_)
  obtain ⟨hw, eS2⟩ := hw
  rw [eS2] at hP
  by_cases q2 : inR sn (S 0 7) = true
  · have hw : r2 = 1 := hw.trans (if_pos q2)
    subst hw
    obtain ⟨j2, hj2, rfl⟩ : ∃ j, j < N ∧ sn = nI j := inR_ex (by rw [← hN]; exact q2) (by omega)
    have en2 : nN (nI j2) = j2 := nN_nI (by omega)
    refine lv_if_ne (tgt := 10) hx hb dX6_ofSon_5 (by decide) (fun _ => ?_) (fun hc => absurd hc (by decide))
    refine lv_iload_n hx hb dX6_ofSon_10 rfl (lv_at hl 2 rfl) ?_
    by_cases z11_0 : wn = 0
    · refine W.eq (g2 := F0 m 11 ls (.int 0 :: [])) (by rw [z11_0]) ?_
      refine lv_tableIn (tgt := 48) (off := 37) hx hb dX6_ofSon_11 (by decide +kernel) (by decide +kernel) (by decide +kernel) (by decide) ?_
      refine lv_aload_n hx hb dX6_ofSon_48 rfl (lv_at hl 0 rfl) ?_
      refine x_get (v := .ref (bd 5)) hx hb hts hinX6 hown hK hP 0 (by decide) rfl rfl 9 (by decide) (hts _ (List.mem_of_getElem? (i := 1) rfl)) rfl dX6_ofSon_49 ?_
      refine lv_iload_n hx hb dX6_ofSon_52 rfl (lv_at hl 1 rfl) ?_
      refine x_iald (v := S 5 j2) hx hb hK hP 5 0 (by decide) rfl rfl j2 rfl (by omega) (by decide) rfl dX6_ofSon_53 ?_
      refine x_iret hx hb hr hlocks hP hS dX6_ofSon_54 ?_
      skip
      exact ⟨by first | (simp [q2, en2, z11_0]; done) | grind, rfl⟩
    · skip
      by_cases z11_1 : wn = 1
      · refine W.eq (g2 := F0 m 11 ls (.int 1 :: [])) (by rw [z11_1]) ?_
        refine lv_tableIn (tgt := 55) (off := 44) hx hb dX6_ofSon_11 (by decide +kernel) (by decide +kernel) (by decide +kernel) (by decide) ?_
        refine lv_aload_n hx hb dX6_ofSon_55 rfl (lv_at hl 0 rfl) ?_
        refine x_get (v := .ref (bd 6)) hx hb hts hinX6 hown hK hP 0 (by decide) rfl rfl 10 (by decide) (hts _ (List.mem_of_getElem? (i := 2) rfl)) rfl dX6_ofSon_56 ?_
        refine lv_iload_n hx hb dX6_ofSon_59 rfl (lv_at hl 1 rfl) ?_
        refine x_iald (v := S 6 j2) hx hb hK hP 6 0 (by decide) rfl rfl j2 rfl (by omega) (by decide) rfl dX6_ofSon_60 ?_
        refine x_iret hx hb hr hlocks hP hS dX6_ofSon_61 ?_
        skip
        exact ⟨by first | (simp [q2, en2, z11_0, z11_1]; done) | grind, rfl⟩
      · skip
        by_cases z11_2 : wn = 2
        · refine W.eq (g2 := F0 m 11 ls (.int 2 :: [])) (by rw [z11_2]) ?_
          refine lv_tableIn (tgt := 62) (off := 51) hx hb dX6_ofSon_11 (by decide +kernel) (by decide +kernel) (by decide +kernel) (by decide) ?_
          refine lv_aload_n hx hb dX6_ofSon_62 rfl (lv_at hl 0 rfl) ?_
          refine x_get (v := .ref (bd 7)) hx hb hts hinX6 hown hK hP 0 (by decide) rfl rfl 11 (by decide) (hts _ (List.mem_of_getElem? (i := 3) rfl)) rfl dX6_ofSon_63 ?_
          refine lv_iload_n hx hb dX6_ofSon_66 rfl (lv_at hl 1 rfl) ?_
          refine x_iald (v := S 7 j2) hx hb hK hP 7 0 (by decide) rfl rfl j2 rfl (by omega) (by decide) rfl dX6_ofSon_67 ?_
          refine x_iret hx hb hr hlocks hP hS dX6_ofSon_68 ?_
          skip
          exact ⟨by first | (simp [q2, en2, z11_0, z11_1, z11_2]; done) | grind, rfl⟩
        · skip
          by_cases z11_3 : wn = 3
          · refine W.eq (g2 := F0 m 11 ls (.int 3 :: [])) (by rw [z11_3]) ?_
            refine lv_tableIn (tgt := 69) (off := 58) hx hb dX6_ofSon_11 (by decide +kernel) (by decide +kernel) (by decide +kernel) (by decide) ?_
            refine lv_aload_n hx hb dX6_ofSon_69 rfl (lv_at hl 0 rfl) ?_
            refine x_get (v := .ref (bd 8)) hx hb hts hinX6 hown hK hP 0 (by decide) rfl rfl 12 (by decide) (hts _ (List.mem_of_getElem? (i := 4) rfl)) rfl dX6_ofSon_70 ?_
            refine lv_iload_n hx hb dX6_ofSon_73 rfl (lv_at hl 1 rfl) ?_
            refine x_iald (v := S 8 j2) hx hb hK hP 8 0 (by decide) rfl rfl j2 rfl (by omega) (by decide) rfl dX6_ofSon_74 ?_
            refine x_iret hx hb hr hlocks hP hS dX6_ofSon_75 ?_
            skip
            exact ⟨by first | (simp [q2, en2, z11_0, z11_1, z11_2, z11_3]; done) | grind, rfl⟩
          · skip
            by_cases z11_4 : wn = 4
            · refine W.eq (g2 := F0 m 11 ls (.int 4 :: [])) (by rw [z11_4]) ?_
              refine lv_tableIn (tgt := 76) (off := 65) hx hb dX6_ofSon_11 (by decide +kernel) (by decide +kernel) (by decide +kernel) (by decide) ?_
              refine lv_aload_n hx hb dX6_ofSon_76 rfl (lv_at hl 0 rfl) ?_
              refine x_get (v := .ref (bd 9)) hx hb hts hinX6 hown hK hP 0 (by decide) rfl rfl 13 (by decide) (hts _ (List.mem_of_getElem? (i := 5) rfl)) rfl dX6_ofSon_77 ?_
              refine lv_iload_n hx hb dX6_ofSon_80 rfl (lv_at hl 1 rfl) ?_
              refine x_iald (v := S 9 j2) hx hb hK hP 9 0 (by decide) rfl rfl j2 rfl (by omega) (by decide) rfl dX6_ofSon_81 ?_
              refine x_iret hx hb hr hlocks hP hS dX6_ofSon_82 ?_
              skip
              exact ⟨by first | (simp [q2, en2, z11_0, z11_1, z11_2, z11_3, z11_4]; done) | grind, rfl⟩
            · skip
              by_cases z11_5 : wn = 5
              · refine W.eq (g2 := F0 m 11 ls (.int 5 :: [])) (by rw [z11_5]) ?_
                refine lv_tableIn (tgt := 83) (off := 72) hx hb dX6_ofSon_11 (by decide +kernel) (by decide +kernel) (by decide +kernel) (by decide) ?_
                refine lv_aload_n hx hb dX6_ofSon_83 rfl (lv_at hl 0 rfl) ?_
                refine x_get (v := .ref (bd 10)) hx hb hts hinX6 hown hK hP 0 (by decide) rfl rfl 14 (by decide) (hts _ (List.mem_of_getElem? (i := 6) rfl)) rfl dX6_ofSon_84 ?_
                refine lv_iload_n hx hb dX6_ofSon_87 rfl (lv_at hl 1 rfl) ?_
                refine x_iald (v := S 10 j2) hx hb hK hP 10 0 (by decide) rfl rfl j2 rfl (by omega) (by decide) rfl dX6_ofSon_88 ?_
                refine x_iret hx hb hr hlocks hP hS dX6_ofSon_89 ?_
                skip
                exact ⟨by first | (simp [q2, en2, z11_0, z11_1, z11_2, z11_3, z11_4, z11_5]; done) | grind, rfl⟩
              · skip
                refine lv_tableOut (tgt := 90) hx hb dX6_ofSon_11 (outT0_5 z11_0 z11_1 z11_2 z11_3 z11_4 z11_5) (by decide) ?_
                refine lv_bipush (v := (-2)) hx hb dX6_ofSon_90 (by decide +kernel) ?_
                refine x_iret hx hb hr hlocks hP hS dX6_ofSon_92 ?_
                skip
                exact ⟨by first | (simp [q2, en2, z11_0, z11_1, z11_2, z11_3, z11_4, z11_5]; done) | grind, rfl⟩
  · have hw : r2 = 0 := hw.trans (if_neg q2)
    subst hw
    refine lv_if_ne (tgt := 10) hx hb dX6_ofSon_5 (by decide) (fun hc => absurd (by decide) hc) (fun _ => ?_)
    refine lv_iconst (v := (-1)) hx hb dX6_ofSon_8 (by decide +kernel) ?_
    refine x_iret hx hb hr hlocks hP hS dX6_ofSon_9 ?_
    skip
    exact ⟨by first | (simp [q2]; done) | grind, rfl⟩

set_option maxHeartbeats 4000000 in
set_option maxRecDepth 100000 in
theorem c6_gain (hI : xI 18 bd) (S : xSt) (C : Nat) (hC : S 0 5 = nI C) (hC4 : C ≤ 4) (Y : Nat) (hY : S 0 6 = nI Y) (hY6 : Y ≤ 6) (cn yn : Int32) : xMi l yX6_gain wsX6_gain ({ frames := 1, cells := 0, slots := 0, locals := 21 }) (dC, dI) vwCl (tyl cI cZ cS cG) (mLy cI cZ bd) 18 bd [.ref (bd 0), .int cn, .int yn] S (fun r S' => r = (if inR cn (S 0 5) then (if inR yn (S 0 6) then S 4 (6 * nN cn + nN yn) else -2) else -1) ∧ S' = S) := by
  refine xM_of (cc := cX6_gain) (nL := 3) (ret := (some .int)) (by decide) rfl (Nat.le_of_ble_eq_true rfl) ?_
  intro p e s m below meth c ls B hl hK hP
  obtain ⟨hx, hb, hml, hown, hts, hr, hlocks⟩ := B
  have hl : lv_has ls 3 [(0, .ref (bd 0)), (1, .int cn), (2, .int yn)] := hl
  have hS : va_S (xA 18 bd) s.heap s.heap [] := va_S.rf
  have hAd : ∀ k, k < 18 → xA 18 bd (bd k) := xA_in
  have hinX6 : ∀ w ∈ wsX60, w ∈ wsX6_gain := fun _ h => List.mem_cons_of_mem _ (List.mem_append_right _ h)
  have hF : CallFix p m c cX6_gain 3 s _ wsX6_gain RX6 := ⟨hx, hb, hml, hown, hts⟩
  refine lv_aload_n hx hb dX6_gain_0 rfl (lv_at hl 0 rfl) ?_
  refine lv_iload_n hx hb dX6_gain_1 rfl (lv_at hl 1 rfl) ?_
  refine x_calli (x_runV (As := [.int cn]) (rest := []) hF (c6_isCourt hI S cn ) (cwV 1 hts gX6_gain_X6_isCourt rfl rfl rfl (by decide +kernel) ⟨Nat.le_of_ble_eq_true rfl, Nat.le_of_ble_eq_true rfl⟩) hK hP (by decide) rfl rfl rfl hl.1 rfl (Nat.le_of_ble_eq_true rfl) dX6_gain_2 ⟨Nat.zero_le _, Nat.zero_le _⟩) hS hAd (fun r2 S2 H locs hw hP _ hS => ?_)
  obtain ⟨hw, eS2⟩ := hw
  rw [eS2] at hP
  by_cases q2 : inR cn (S 0 5) = true
  · have hw : r2 = 1 := hw.trans (if_pos q2)
    subst hw
    obtain ⟨j2, hj2, rfl⟩ : ∃ j, j < C ∧ cn = nI j := inR_ex (by rw [← hC]; exact q2) (by omega)
    have en2 : nN (nI j2) = j2 := nN_nI (by omega)
    refine lv_if_ne (tgt := 10) hx hb dX6_gain_5 (by decide) (fun _ => ?_) (fun hc => absurd hc (by decide))
    refine lv_aload_n hx hb dX6_gain_10 rfl (lv_at hl 0 rfl) ?_
    refine lv_iload_n hx hb dX6_gain_11 rfl (lv_at hl 2 rfl) ?_
    refine x_calli (x_runV (As := [.int yn]) (rest := []) hF (c6_isYear hI S yn ) (cwV 1 hts gX6_gain_X6_isYear rfl rfl rfl (by decide +kernel) ⟨Nat.le_of_ble_eq_true rfl, Nat.le_of_ble_eq_true rfl⟩) hK hP (by decide) rfl rfl rfl hl.1 rfl (Nat.le_of_ble_eq_true rfl) dX6_gain_12 ⟨Nat.zero_le _, Nat.zero_le _⟩) hS hAd (fun r12 S12 H locs hw hP _ hS => ?_)
    obtain ⟨hw, eS12⟩ := hw
    rw [eS12] at hP
    by_cases q12 : inR yn (S 0 6) = true
    · have hw : r12 = 1 := hw.trans (if_pos q12)
      subst hw
      obtain ⟨j12, hj12, rfl⟩ : ∃ j, j < Y ∧ yn = nI j := inR_ex (by rw [← hY]; exact q12) (by omega)
      have en12 : nN (nI j12) = j12 := nN_nI (by omega)
      refine lv_if_eq (tgt := 32) hx hb dX6_gain_15 (by decide) (fun hc => absurd hc (by decide)) (fun _ => ?_)
      refine lv_aload_n hx hb dX6_gain_18 rfl (lv_at hl 0 rfl) ?_
      refine x_get (v := .ref (bd 4)) hx hb hts hinX6 hown hK hP 0 (by decide) rfl rfl 8 (by decide) (hts _ (List.mem_of_getElem? (i := 1) rfl)) rfl dX6_gain_19 ?_
      refine lv_bipush (v := 6) hx hb dX6_gain_22 (by decide +kernel) ?_
      refine lv_iload_n hx hb dX6_gain_24 rfl (lv_at hl 1 rfl) ?_
      refine lv_imul hx hb dX6_gain_25 ?_
      refine lv_iload_n hx hb dX6_gain_26 rfl (lv_at hl 2 rfl) ?_
      refine lv_iadd hx hb dX6_gain_27 ?_
      refine x_iald (v := S 4 (6 * j2 + j12)) hx hb hK hP 4 0 (by decide) rfl rfl (6 * j2 + j12) (ix6 _ _) (by omega) (by decide) rfl dX6_gain_28 ?_
      refine lv_goto (tgt := 34) hx hb dX6_gain_29 (by decide) ?_
      refine x_iret hx hb hr hlocks hP hS dX6_gain_34 ?_
      skip
      exact ⟨by first | (simp [q2, en2, q12, en12]; done) | grind, rfl⟩
    · have hw : r12 = 0 := hw.trans (if_neg q12)
      subst hw
      refine lv_if_eq (tgt := 32) hx hb dX6_gain_15 (by decide) (fun _ => ?_) (fun hc => absurd (by decide) hc)
      refine lv_bipush (v := (-2)) hx hb dX6_gain_32 (by decide +kernel) ?_
      refine x_iret hx hb hr hlocks hP hS dX6_gain_34 ?_
      skip
      exact ⟨by first | (simp [q2, en2, q12]; done) | grind, rfl⟩
  · have hw : r2 = 0 := hw.trans (if_neg q2)
    subst hw
    refine lv_if_ne (tgt := 10) hx hb dX6_gain_5 (by decide) (fun hc => absurd (by decide) hc) (fun _ => ?_)
    refine lv_iconst (v := (-1)) hx hb dX6_gain_8 (by decide +kernel) ?_
    refine x_iret hx hb hr hlocks hP hS dX6_gain_9 ?_
    skip
    exact ⟨by first | (simp [q2]; done) | grind, rfl⟩

set_option maxHeartbeats 4000000 in
set_option maxRecDepth 100000 in
theorem c6_tempt (hI : xI 18 bd) (S : xSt) (C : Nat) (hC : S 0 5 = nI C) (hC4 : C ≤ 4) (Y : Nat) (hY : S 0 6 = nI Y) (hY6 : Y ≤ 6) (cn yn v : Int32) : xMi l yX6_tempt wsX6_tempt ({ frames := 1, cells := 0, slots := 0, locals := 22 }) (dC, dI) vwCl (tyl cI cZ cS cG) (mLy cI cZ bd) 18 bd [.ref (bd 0), .int cn, .int yn, .int v] S (fun r S' => r = (if inR cn (S 0 5) then (if inR yn (S 0 6) then (if wit v 0 9 then S 4 (6 * nN cn + nN yn) else -2) else -2) else -1) ∧ S' = (if inR cn (S 0 5) ∧ inR yn (S 0 6) ∧ wit v 0 9 then su S 4 (6 * nN cn + nN yn) v else S)) := by
  refine xM_of (cc := cX6_tempt) (nL := 5) (ret := (some .int)) (by decide) rfl (Nat.le_of_ble_eq_true rfl) ?_
  intro p e s m below meth c ls B hl hK hP
  obtain ⟨hx, hb, hml, hown, hts, hr, hlocks⟩ := B
  have hl : lv_has ls 5 [(0, .ref (bd 0)), (1, .int cn), (2, .int yn), (3, .int v)] := hl
  have hS : va_S (xA 18 bd) s.heap s.heap [] := va_S.rf
  have hAd : ∀ k, k < 18 → xA 18 bd (bd k) := xA_in
  have hinX6 : ∀ w ∈ wsX60, w ∈ wsX6_tempt := fun _ h => List.mem_cons_of_mem _ (List.mem_append_right _ h)
  have hF : CallFix p m c cX6_tempt 5 s _ wsX6_tempt RX6 := ⟨hx, hb, hml, hown, hts⟩
  refine lv_aload_n hx hb dX6_tempt_0 rfl (lv_at hl 0 rfl) ?_
  refine lv_iload_n hx hb dX6_tempt_1 rfl (lv_at hl 1 rfl) ?_
  refine x_calli (x_runV (As := [.int cn]) (rest := []) hF (c6_isCourt hI S cn ) (cwV 1 hts gX6_tempt_X6_isCourt rfl rfl rfl (by decide +kernel) ⟨Nat.le_of_ble_eq_true rfl, Nat.le_of_ble_eq_true rfl⟩) hK hP (by decide) rfl rfl rfl hl.1 rfl (Nat.le_of_ble_eq_true rfl) dX6_tempt_2 ⟨Nat.zero_le _, Nat.zero_le _⟩) hS hAd (fun r2 S2 H locs hw hP _ hS => ?_)
  obtain ⟨hw, eS2⟩ := hw
  rw [eS2] at hP
  by_cases q2 : inR cn (S 0 5) = true
  · have hw : r2 = 1 := hw.trans (if_pos q2)
    subst hw
    obtain ⟨j2, hj2, rfl⟩ : ∃ j, j < C ∧ cn = nI j := inR_ex (by rw [← hC]; exact q2) (by omega)
    have en2 : nN (nI j2) = j2 := nN_nI (by omega)
    refine lv_if_ne (tgt := 10) hx hb dX6_tempt_5 (by decide) (fun _ => ?_) (fun hc => absurd hc (by decide))
    refine lv_aload_n hx hb dX6_tempt_10 rfl (lv_at hl 0 rfl) ?_
    refine lv_iload_n hx hb dX6_tempt_11 rfl (lv_at hl 2 rfl) ?_
    refine x_calli (x_runV (As := [.int yn]) (rest := []) hF (c6_isYear hI S yn ) (cwV 1 hts gX6_tempt_X6_isYear rfl rfl rfl (by decide +kernel) ⟨Nat.le_of_ble_eq_true rfl, Nat.le_of_ble_eq_true rfl⟩) hK hP (by decide) rfl rfl rfl hl.1 rfl (Nat.le_of_ble_eq_true rfl) dX6_tempt_12 ⟨Nat.zero_le _, Nat.zero_le _⟩) hS hAd (fun r12 S12 H locs hw hP _ hS => ?_)
    obtain ⟨hw, eS12⟩ := hw
    rw [eS12] at hP
    by_cases q12 : inR yn (S 0 6) = true
    · have hw : r12 = 1 := hw.trans (if_pos q12)
      subst hw
      obtain ⟨j12, hj12, rfl⟩ : ∃ j, j < Y ∧ yn = nI j := inR_ex (by rw [← hY]; exact q12) (by omega)
      have en12 : nN (nI j12) = j12 := nN_nI (by omega)
      refine lv_if_eq (tgt := 28) hx hb dX6_tempt_15 (by decide) (fun hc => absurd hc (by decide)) (fun _ => ?_)
      refine lv_iload_n hx hb dX6_tempt_18 rfl (lv_at hl 3 rfl) ?_
      refine lv_iconst (v := 0) hx hb dX6_tempt_19 (by decide +kernel) ?_
      refine lv_bipush (v := 9) hx hb dX6_tempt_20 (by decide +kernel) ?_
      refine x_calli (x_runS (As := [.int v, .int 0, .int 9]) (rest := []) hF (c6_within hI S v 0 9 ) (va_cwS 3 hts gX6_tempt_X6_within rfl rfl rfl (by decide +kernel) ⟨Nat.le_of_ble_eq_true rfl, Nat.le_of_ble_eq_true rfl⟩) hK hP rfl hl.1 rfl (Nat.le_of_ble_eq_true rfl) dX6_tempt_22 ⟨Nat.zero_le _, Nat.zero_le _⟩) hS hAd (fun r22 S22 H locs hw hP _ hS => ?_)
      obtain ⟨hw, eS22⟩ := hw
      rw [eS22] at hP
      by_cases q22 : wit v 0 9 = true
      · have hw : r22 = 1 := hw.trans (if_pos q22)
        subst hw
        refine lv_if_ne (tgt := 31) hx hb dX6_tempt_25 (by decide) (fun _ => ?_) (fun hc => absurd hc (by decide))
        refine lv_aload_n hx hb dX6_tempt_31 rfl (lv_at hl 0 rfl) ?_
        refine x_get (v := .ref (bd 4)) hx hb hts hinX6 hown hK hP 0 (by decide) rfl rfl 8 (by decide) (hts _ (List.mem_of_getElem? (i := 1) rfl)) rfl dX6_tempt_32 ?_
        refine lv_bipush (v := 6) hx hb dX6_tempt_35 (by decide +kernel) ?_
        refine lv_iload_n hx hb dX6_tempt_37 rfl (lv_at hl 1 rfl) ?_
        refine lv_imul hx hb dX6_tempt_38 ?_
        refine lv_iload_n hx hb dX6_tempt_39 rfl (lv_at hl 2 rfl) ?_
        refine lv_iadd hx hb dX6_tempt_40 ?_
        refine x_iald (v := S 4 (6 * j2 + j12)) hx hb hK hP 4 0 (by decide) rfl rfl (6 * j2 + j12) (ix6 _ _) (by omega) (by decide) rfl dX6_tempt_41 ?_
        refine lv_topi (fun x42 ex42 => ?_)
        refine lv_istore (lv' := [(4, .int x42), (0, .ref (bd 0)), (1, .int (nI j2)), (2, .int (nI j12)), (3, .int v)]) hx hb dX6_tempt_42 hl (by decide) rfl (fun ls hl => ?_)
        refine lv_aload_n hx hb dX6_tempt_44 rfl (lv_at hl 1 rfl) ?_
        refine x_get (v := .ref (bd 4)) hx hb hts hinX6 hown hK hP 0 (by decide) rfl rfl 8 (by decide) (hts _ (List.mem_of_getElem? (i := 1) rfl)) rfl dX6_tempt_45 ?_
        refine lv_bipush (v := 6) hx hb dX6_tempt_48 (by decide +kernel) ?_
        refine lv_iload_n hx hb dX6_tempt_50 rfl (lv_at hl 2 rfl) ?_
        refine lv_imul hx hb dX6_tempt_51 ?_
        refine lv_iload_n hx hb dX6_tempt_52 rfl (lv_at hl 3 rfl) ?_
        refine lv_iadd hx hb dX6_tempt_53 ?_
        refine lv_iload_n hx hb dX6_tempt_54 rfl (lv_at hl 4 rfl) ?_
        refine x_iast hx hb hK hI hAd hP hS 4 0 (by decide) (fun _ => rfl) rfl (6 * j2 + j12) (ix6 _ _) (by omega) (by decide) dX6_tempt_55 (fun H locs hP hS => ?_)
        refine lv_iload hx hb dX6_tempt_56 (lv_at hl 0 rfl) ?_
        refine x_iret hx hb hr hlocks hP hS dX6_tempt_58 ?_
        subst ex42
        exact ⟨by first | (simp [q2, en2, q12, en12, q22]; done) | grind, by first | (simp [q2, en2, q12, en12, q22]; done) | grind⟩
      · have hw : r22 = 0 := hw.trans (if_neg q22)
        subst hw
        refine lv_if_ne (tgt := 31) hx hb dX6_tempt_25 (by decide) (fun hc => absurd (by decide) hc) (fun _ => ?_)
        refine lv_bipush (v := (-2)) hx hb dX6_tempt_28 (by decide +kernel) ?_
        refine x_iret hx hb hr hlocks hP hS dX6_tempt_30 ?_
        skip
        exact ⟨by first | (simp [q2, en2, q12, en12, q22]; done) | grind, by first | (simp [q2, en2, q12, en12, q22]; done) | grind⟩
    · have hw : r12 = 0 := hw.trans (if_neg q12)
      subst hw
      refine lv_if_eq (tgt := 28) hx hb dX6_tempt_15 (by decide) (fun _ => ?_) (fun hc => absurd (by decide) hc)
      refine lv_bipush (v := (-2)) hx hb dX6_tempt_28 (by decide +kernel) ?_
      refine x_iret hx hb hr hlocks hP hS dX6_tempt_30 ?_
      skip
      exact ⟨by first | (simp [q2, en2, q12]; done) | grind, by first | (simp [q2, en2, q12]; done) | grind⟩
  · have hw : r2 = 0 := hw.trans (if_neg q2)
    subst hw
    refine lv_if_ne (tgt := 10) hx hb dX6_tempt_5 (by decide) (fun hc => absurd (by decide) hc) (fun _ => ?_)
    refine lv_iconst (v := (-1)) hx hb dX6_tempt_8 (by decide +kernel) ?_
    refine x_iret hx hb hr hlocks hP hS dX6_tempt_9 ?_
    skip
    exact ⟨by first | (simp [q2]; done) | grind, by first | (simp [q2]; done) | grind⟩

set_option maxHeartbeats 4000000 in
set_option maxRecDepth 100000 in
theorem c6_send (hI : xI 18 bd) (S : xSt) (N : Nat) (hN : S 0 7 = nI N) (hN5 : N ≤ 5) (C : Nat) (hC : S 0 5 = nI C) (hC4 : C ≤ 4) (Y : Nat) (hY : S 0 6 = nI Y) (hY6 : Y ≤ 6) (sn cn yn : Int32) : xMi l yX6_send wsX6_send ({ frames := 1, cells := 0, slots := 0, locals := 21 }) (dC, dI) vwCl (tyl cI cZ cS cG) (mLy cI cZ bd) 18 bd [.ref (bd 0), .int sn, .int cn, .int yn] S (fun r S' => r = (if inR sn (S 0 7) ∧ inR cn (S 0 5) then (if inR yn (S 0 6) then (if S 6 (nN sn) = cn then -3 else (if S 9 (nN sn) = -9 then 1 else if S 9 (nN sn) = cn ∧ S 10 (nN sn) = yn then 1 else 0)) else -2) else -1) ∧ S' = (if inR sn (S 0 7) ∧ inR cn (S 0 5) ∧ inR yn (S 0 6) ∧ ¬ S 6 (nN sn) = cn then su (su S 9 (nN sn) cn) 10 (nN sn) yn else S)) := by
  refine xM_of (cc := cX6_send) (nL := 5) (ret := (some .int)) (by decide) rfl (Nat.le_of_ble_eq_true rfl) ?_
  intro p e s m below meth c ls B hl hK hP
  obtain ⟨hx, hb, hml, hown, hts, hr, hlocks⟩ := B
  have hl : lv_has ls 5 [(0, .ref (bd 0)), (1, .int sn), (2, .int cn), (3, .int yn)] := hl
  have hS : va_S (xA 18 bd) s.heap s.heap [] := va_S.rf
  have hAd : ∀ k, k < 18 → xA 18 bd (bd k) := xA_in
  have hinX6 : ∀ w ∈ wsX60, w ∈ wsX6_send := fun _ h => List.mem_cons_of_mem _ (List.mem_append_right _ h)
  have hF : CallFix p m c cX6_send 5 s _ wsX6_send RX6 := ⟨hx, hb, hml, hown, hts⟩
  refine lv_aload_n hx hb dX6_send_0 rfl (lv_at hl 0 rfl) ?_
  refine lv_iload_n hx hb dX6_send_1 rfl (lv_at hl 1 rfl) ?_
  refine x_calli (x_runV (As := [.int sn]) (rest := []) hF (c6_isSon hI S sn ) (cwV 1 hts gX6_send_X6_isSon rfl rfl rfl (by decide +kernel) ⟨Nat.le_of_ble_eq_true rfl, Nat.le_of_ble_eq_true rfl⟩) hK hP (by decide) rfl rfl rfl hl.1 rfl (Nat.le_of_ble_eq_true rfl) dX6_send_2 ⟨Nat.zero_le _, Nat.zero_le _⟩) hS hAd (fun r2 S2 H locs hw hP _ hS => ?_)
  obtain ⟨hw, eS2⟩ := hw
  rw [eS2] at hP
  by_cases q2 : inR sn (S 0 7) = true
  · have hw : r2 = 1 := hw.trans (if_pos q2)
    subst hw
    obtain ⟨j2, hj2, rfl⟩ : ∃ j, j < N ∧ sn = nI j := inR_ex (by rw [← hN]; exact q2) (by omega)
    have en2 : nN (nI j2) = j2 := nN_nI (by omega)
    refine lv_if_eq (tgt := 16) hx hb dX6_send_5 (by decide) (fun hc => absurd hc (by decide)) (fun _ => ?_)
    refine lv_aload_n hx hb dX6_send_8 rfl (lv_at hl 0 rfl) ?_
    refine lv_iload_n hx hb dX6_send_9 rfl (lv_at hl 2 rfl) ?_
    refine x_calli (x_runV (As := [.int cn]) (rest := []) hF (c6_isCourt hI S cn ) (cwV 1 hts gX6_send_X6_isCourt rfl rfl rfl (by decide +kernel) ⟨Nat.le_of_ble_eq_true rfl, Nat.le_of_ble_eq_true rfl⟩) hK hP (by decide) rfl rfl rfl hl.1 rfl (Nat.le_of_ble_eq_true rfl) dX6_send_10 ⟨Nat.zero_le _, Nat.zero_le _⟩) hS hAd (fun r10 S10 H locs hw hP _ hS => ?_)
    obtain ⟨hw, eS10⟩ := hw
    rw [eS10] at hP
    by_cases q10 : inR cn (S 0 5) = true
    · have hw : r10 = 1 := hw.trans (if_pos q10)
      subst hw
      refine lv_if_ne (tgt := 18) hx hb dX6_send_13 (by decide) (fun _ => ?_) (fun hc => absurd hc (by decide))
      refine lv_aload_n hx hb dX6_send_18 rfl (lv_at hl 0 rfl) ?_
      refine lv_iload_n hx hb dX6_send_19 rfl (lv_at hl 3 rfl) ?_
      refine x_calli (x_runV (As := [.int yn]) (rest := []) hF (c6_isYear hI S yn ) (cwV 1 hts gX6_send_X6_isYear rfl rfl rfl (by decide +kernel) ⟨Nat.le_of_ble_eq_true rfl, Nat.le_of_ble_eq_true rfl⟩) hK hP (by decide) rfl rfl rfl hl.1 rfl (Nat.le_of_ble_eq_true rfl) dX6_send_20 ⟨Nat.zero_le _, Nat.zero_le _⟩) hS hAd (fun r20 S20 H locs hw hP _ hS => ?_)
      obtain ⟨hw, eS20⟩ := hw
      rw [eS20] at hP
      by_cases q20 : inR yn (S 0 6) = true
      · have hw : r20 = 1 := hw.trans (if_pos q20)
        subst hw
        refine lv_if_ne (tgt := 29) hx hb dX6_send_23 (by decide) (fun _ => ?_) (fun hc => absurd hc (by decide))
        refine lv_aload_n hx hb dX6_send_29 rfl (lv_at hl 0 rfl) ?_
        refine x_get (v := .ref (bd 6)) hx hb hts hinX6 hown hK hP 0 (by decide) rfl rfl 10 (by decide) (hts _ (List.mem_of_getElem? (i := 1) rfl)) rfl dX6_send_30 ?_
        refine lv_iload_n hx hb dX6_send_33 rfl (lv_at hl 1 rfl) ?_
        refine x_iald (v := S 6 j2) hx hb hK hP 6 0 (by decide) rfl rfl j2 rfl (by omega) (by decide) rfl dX6_send_34 ?_
        refine lv_iload_n hx hb dX6_send_35 rfl (lv_at hl 2 rfl) ?_
        refine lv_icmp_ne (tgt := 42) hx hb dX6_send_36 (by decide) (fun c36 => ?_) (fun c36 => ?_)
        · refine lv_aload_n hx hb dX6_send_42 rfl (lv_at hl 0 rfl) ?_
          refine x_get (v := .ref (bd 9)) hx hb hts hinX6 hown hK hP 0 (by decide) rfl rfl 13 (by decide) (hts _ (List.mem_of_getElem? (i := 2) rfl)) rfl dX6_send_43 ?_
          refine lv_iload_n hx hb dX6_send_46 rfl (lv_at hl 1 rfl) ?_
          refine x_iald (v := S 9 j2) hx hb hK hP 9 0 (by decide) rfl rfl j2 rfl (by omega) (by decide) rfl dX6_send_47 ?_
          refine lv_bipush (v := (-9)) hx hb dX6_send_48 (by decide +kernel) ?_
          refine lv_icmp_eq (tgt := 73) hx hb dX6_send_50 (by decide) (fun c50 => ?_) (fun c50 => ?_)
          · refine lv_iconst (v := 1) hx hb dX6_send_73 (by decide +kernel) ?_
            refine lv_goto (tgt := 78) hx hb dX6_send_74 (by decide) ?_
            refine lv_istore (lv' := [(4, .int 1), (0, .ref (bd 0)), (1, .int (nI j2)), (2, .int cn), (3, .int yn)]) hx hb dX6_send_78 hl (by decide) rfl (fun ls hl => ?_)
            refine lv_aload_n hx hb dX6_send_80 rfl (lv_at hl 1 rfl) ?_
            refine x_get (v := .ref (bd 9)) hx hb hts hinX6 hown hK hP 0 (by decide) rfl rfl 13 (by decide) (hts _ (List.mem_of_getElem? (i := 2) rfl)) rfl dX6_send_81 ?_
            refine lv_iload_n hx hb dX6_send_84 rfl (lv_at hl 2 rfl) ?_
            refine lv_iload_n hx hb dX6_send_85 rfl (lv_at hl 3 rfl) ?_
            refine x_iast hx hb hK hI hAd hP hS 9 0 (by decide) (fun _ => rfl) rfl j2 rfl (by omega) (by decide) dX6_send_86 (fun H locs hP hS => ?_)
            refine lv_aload_n hx hb dX6_send_87 rfl (lv_at hl 1 rfl) ?_
            refine x_get (v := .ref (bd 10)) hx hb hts hinX6 hown hK hP 0 (by decide) rfl rfl 14 (by decide) (hts _ (List.mem_of_getElem? (i := 3) rfl)) rfl dX6_send_88 ?_
            refine lv_iload_n hx hb dX6_send_91 rfl (lv_at hl 2 rfl) ?_
            refine lv_iload_n hx hb dX6_send_92 rfl (lv_at hl 4 rfl) ?_
            refine x_iast hx hb hK hI hAd hP hS 10 0 (by decide) (fun _ => rfl) rfl j2 rfl (by omega) (by decide) dX6_send_93 (fun H locs hP hS => ?_)
            refine lv_iload hx hb dX6_send_94 (lv_at hl 0 rfl) ?_
            refine x_iret hx hb hr hlocks hP hS dX6_send_96 ?_
            skip
            exact ⟨by first | (simp [q2, en2, q10, q20, c36, c50]; done) | grind, by first | (simp [q2, en2, q10, q20, c36, c50]; done) | grind⟩
          · refine lv_aload_n hx hb dX6_send_53 rfl (lv_at hl 0 rfl) ?_
            refine x_get (v := .ref (bd 9)) hx hb hts hinX6 hown hK hP 0 (by decide) rfl rfl 13 (by decide) (hts _ (List.mem_of_getElem? (i := 2) rfl)) rfl dX6_send_54 ?_
            refine lv_iload_n hx hb dX6_send_57 rfl (lv_at hl 1 rfl) ?_
            refine x_iald (v := S 9 j2) hx hb hK hP 9 0 (by decide) rfl rfl j2 rfl (by omega) (by decide) rfl dX6_send_58 ?_
            refine lv_iload_n hx hb dX6_send_59 rfl (lv_at hl 2 rfl) ?_
            refine lv_icmp_ne (tgt := 77) hx hb dX6_send_60 (by decide) (fun c60 => ?_) (fun c60 => ?_)
            · refine lv_iconst (v := 0) hx hb dX6_send_77 (by decide +kernel) ?_
              refine lv_istore (lv' := [(4, .int 0), (0, .ref (bd 0)), (1, .int (nI j2)), (2, .int cn), (3, .int yn)]) hx hb dX6_send_78 hl (by decide) rfl (fun ls hl => ?_)
              refine lv_aload_n hx hb dX6_send_80 rfl (lv_at hl 1 rfl) ?_
              refine x_get (v := .ref (bd 9)) hx hb hts hinX6 hown hK hP 0 (by decide) rfl rfl 13 (by decide) (hts _ (List.mem_of_getElem? (i := 2) rfl)) rfl dX6_send_81 ?_
              refine lv_iload_n hx hb dX6_send_84 rfl (lv_at hl 2 rfl) ?_
              refine lv_iload_n hx hb dX6_send_85 rfl (lv_at hl 3 rfl) ?_
              refine x_iast hx hb hK hI hAd hP hS 9 0 (by decide) (fun _ => rfl) rfl j2 rfl (by omega) (by decide) dX6_send_86 (fun H locs hP hS => ?_)
              refine lv_aload_n hx hb dX6_send_87 rfl (lv_at hl 1 rfl) ?_
              refine x_get (v := .ref (bd 10)) hx hb hts hinX6 hown hK hP 0 (by decide) rfl rfl 14 (by decide) (hts _ (List.mem_of_getElem? (i := 3) rfl)) rfl dX6_send_88 ?_
              refine lv_iload_n hx hb dX6_send_91 rfl (lv_at hl 2 rfl) ?_
              refine lv_iload_n hx hb dX6_send_92 rfl (lv_at hl 4 rfl) ?_
              refine x_iast hx hb hK hI hAd hP hS 10 0 (by decide) (fun _ => rfl) rfl j2 rfl (by omega) (by decide) dX6_send_93 (fun H locs hP hS => ?_)
              refine lv_iload hx hb dX6_send_94 (lv_at hl 0 rfl) ?_
              refine x_iret hx hb hr hlocks hP hS dX6_send_96 ?_
              skip
              exact ⟨by first | (simp [q2, en2, q10, q20, c36, c50, c60]; done) | grind, by first | (simp [q2, en2, q10, q20, c36, c50, c60]; done) | grind⟩
            · refine lv_aload_n hx hb dX6_send_63 rfl (lv_at hl 0 rfl) ?_
              refine x_get (v := .ref (bd 10)) hx hb hts hinX6 hown hK hP 0 (by decide) rfl rfl 14 (by decide) (hts _ (List.mem_of_getElem? (i := 3) rfl)) rfl dX6_send_64 ?_
              refine lv_iload_n hx hb dX6_send_67 rfl (lv_at hl 1 rfl) ?_
              refine x_iald (v := S 10 j2) hx hb hK hP 10 0 (by decide) rfl rfl j2 rfl (by omega) (by decide) rfl dX6_send_68 ?_
              refine lv_iload_n hx hb dX6_send_69 rfl (lv_at hl 3 rfl) ?_
              refine lv_icmp_ne (tgt := 77) hx hb dX6_send_70 (by decide) (fun c70 => ?_) (fun c70 => ?_)
              · refine lv_iconst (v := 0) hx hb dX6_send_77 (by decide +kernel) ?_
                refine lv_istore (lv' := [(4, .int 0), (0, .ref (bd 0)), (1, .int (nI j2)), (2, .int cn), (3, .int yn)]) hx hb dX6_send_78 hl (by decide) rfl (fun ls hl => ?_)
                refine lv_aload_n hx hb dX6_send_80 rfl (lv_at hl 1 rfl) ?_
                refine x_get (v := .ref (bd 9)) hx hb hts hinX6 hown hK hP 0 (by decide) rfl rfl 13 (by decide) (hts _ (List.mem_of_getElem? (i := 2) rfl)) rfl dX6_send_81 ?_
                refine lv_iload_n hx hb dX6_send_84 rfl (lv_at hl 2 rfl) ?_
                refine lv_iload_n hx hb dX6_send_85 rfl (lv_at hl 3 rfl) ?_
                refine x_iast hx hb hK hI hAd hP hS 9 0 (by decide) (fun _ => rfl) rfl j2 rfl (by omega) (by decide) dX6_send_86 (fun H locs hP hS => ?_)
                refine lv_aload_n hx hb dX6_send_87 rfl (lv_at hl 1 rfl) ?_
                refine x_get (v := .ref (bd 10)) hx hb hts hinX6 hown hK hP 0 (by decide) rfl rfl 14 (by decide) (hts _ (List.mem_of_getElem? (i := 3) rfl)) rfl dX6_send_88 ?_
                refine lv_iload_n hx hb dX6_send_91 rfl (lv_at hl 2 rfl) ?_
                refine lv_iload_n hx hb dX6_send_92 rfl (lv_at hl 4 rfl) ?_
                refine x_iast hx hb hK hI hAd hP hS 10 0 (by decide) (fun _ => rfl) rfl j2 rfl (by omega) (by decide) dX6_send_93 (fun H locs hP hS => ?_)
                refine lv_iload hx hb dX6_send_94 (lv_at hl 0 rfl) ?_
                refine x_iret hx hb hr hlocks hP hS dX6_send_96 ?_
                skip
                exact ⟨by first | (simp [q2, en2, q10, q20, c36, c50, c60, c70]; done) | grind, by first | (simp [q2, en2, q10, q20, c36, c50, c60, c70]; done) | grind⟩
              · refine lv_iconst (v := 1) hx hb dX6_send_73 (by decide +kernel) ?_
                refine lv_goto (tgt := 78) hx hb dX6_send_74 (by decide) ?_
                refine lv_istore (lv' := [(4, .int 1), (0, .ref (bd 0)), (1, .int (nI j2)), (2, .int cn), (3, .int yn)]) hx hb dX6_send_78 hl (by decide) rfl (fun ls hl => ?_)
                refine lv_aload_n hx hb dX6_send_80 rfl (lv_at hl 1 rfl) ?_
                refine x_get (v := .ref (bd 9)) hx hb hts hinX6 hown hK hP 0 (by decide) rfl rfl 13 (by decide) (hts _ (List.mem_of_getElem? (i := 2) rfl)) rfl dX6_send_81 ?_
                refine lv_iload_n hx hb dX6_send_84 rfl (lv_at hl 2 rfl) ?_
                refine lv_iload_n hx hb dX6_send_85 rfl (lv_at hl 3 rfl) ?_
                refine x_iast hx hb hK hI hAd hP hS 9 0 (by decide) (fun _ => rfl) rfl j2 rfl (by omega) (by decide) dX6_send_86 (fun H locs hP hS => ?_)
                refine lv_aload_n hx hb dX6_send_87 rfl (lv_at hl 1 rfl) ?_
                refine x_get (v := .ref (bd 10)) hx hb hts hinX6 hown hK hP 0 (by decide) rfl rfl 14 (by decide) (hts _ (List.mem_of_getElem? (i := 3) rfl)) rfl dX6_send_88 ?_
                refine lv_iload_n hx hb dX6_send_91 rfl (lv_at hl 2 rfl) ?_
                refine lv_iload_n hx hb dX6_send_92 rfl (lv_at hl 4 rfl) ?_
                refine x_iast hx hb hK hI hAd hP hS 10 0 (by decide) (fun _ => rfl) rfl j2 rfl (by omega) (by decide) dX6_send_93 (fun H locs hP hS => ?_)
                refine lv_iload hx hb dX6_send_94 (lv_at hl 0 rfl) ?_
                refine x_iret hx hb hr hlocks hP hS dX6_send_96 ?_
                skip
                exact ⟨by first | (simp [q2, en2, q10, q20, c36, c50, c60, c70]; done) | grind, by first | (simp [q2, en2, q10, q20, c36, c50, c60, c70]; done) | grind⟩
        · refine lv_bipush (v := (-3)) hx hb dX6_send_39 (by decide +kernel) ?_
          refine x_iret hx hb hr hlocks hP hS dX6_send_41 ?_
          skip
          exact ⟨by first | (simp [q2, en2, q10, q20, c36]; done) | grind, by first | (simp [q2, en2, q10, q20, c36]; done) | grind⟩
      · have hw : r20 = 0 := hw.trans (if_neg q20)
        subst hw
        refine lv_if_ne (tgt := 29) hx hb dX6_send_23 (by decide) (fun hc => absurd (by decide) hc) (fun _ => ?_)
        refine lv_bipush (v := (-2)) hx hb dX6_send_26 (by decide +kernel) ?_
        refine x_iret hx hb hr hlocks hP hS dX6_send_28 ?_
        skip
        exact ⟨by first | (simp [q2, en2, q10, q20]; done) | grind, by first | (simp [q2, en2, q10, q20]; done) | grind⟩
    · have hw : r10 = 0 := hw.trans (if_neg q10)
      subst hw
      refine lv_if_ne (tgt := 18) hx hb dX6_send_13 (by decide) (fun hc => absurd (by decide) hc) (fun _ => ?_)
      refine lv_iconst (v := (-1)) hx hb dX6_send_16 (by decide +kernel) ?_
      refine x_iret hx hb hr hlocks hP hS dX6_send_17 ?_
      skip
      exact ⟨by first | (simp [q2, en2, q10]; done) | grind, by first | (simp [q2, en2, q10]; done) | grind⟩
  · have hw : r2 = 0 := hw.trans (if_neg q2)
    subst hw
    refine lv_if_eq (tgt := 16) hx hb dX6_send_5 (by decide) (fun _ => ?_) (fun hc => absurd (by decide) hc)
    refine lv_iconst (v := (-1)) hx hb dX6_send_16 (by decide +kernel) ?_
    refine x_iret hx hb hr hlocks hP hS dX6_send_17 ?_
    skip
    exact ⟨by first | (simp [q2]; done) | grind, by first | (simp [q2]; done) | grind⟩

set_option maxHeartbeats 4000000 in
set_option maxRecDepth 100000 in
theorem c6_home (hI : xI 18 bd) (S : xSt) (N : Nat) (hN : S 0 7 = nI N) (hN5 : N ≤ 5) (sn : Int32) : xMi l yX6_home wsX6_home ({ frames := 1, cells := 0, slots := 0, locals := 21 }) (dC, dI) vwCl (tyl cI cZ cS cG) (mLy cI cZ bd) 18 bd [.ref (bd 0), .int sn] S (fun r S' => r = (if inR sn (S 0 7) then (if S 9 (nN sn) = -9 then 0 else 1) else -1) ∧ S' = (if inR sn (S 0 7) then su (su S 9 (nN sn) (-9)) 10 (nN sn) (-9) else S)) := by
  refine xM_of (cc := cX6_home) (nL := 3) (ret := (some .int)) (by decide) rfl (Nat.le_of_ble_eq_true rfl) ?_
  intro p e s m below meth c ls B hl hK hP
  obtain ⟨hx, hb, hml, hown, hts, hr, hlocks⟩ := B
  have hl : lv_has ls 3 [(0, .ref (bd 0)), (1, .int sn)] := hl
  have hS : va_S (xA 18 bd) s.heap s.heap [] := va_S.rf
  have hAd : ∀ k, k < 18 → xA 18 bd (bd k) := xA_in
  have hinX6 : ∀ w ∈ wsX60, w ∈ wsX6_home := fun _ h => List.mem_cons_of_mem _ (List.mem_append_right _ h)
  have hF : CallFix p m c cX6_home 3 s _ wsX6_home RX6 := ⟨hx, hb, hml, hown, hts⟩
  refine lv_aload_n hx hb dX6_home_0 rfl (lv_at hl 0 rfl) ?_
  refine lv_iload_n hx hb dX6_home_1 rfl (lv_at hl 1 rfl) ?_
  refine x_calli (x_runV (As := [.int sn]) (rest := []) hF (c6_isSon hI S sn ) (cwV 1 hts gX6_home_X6_isSon rfl rfl rfl (by decide +kernel) ⟨Nat.le_of_ble_eq_true rfl, Nat.le_of_ble_eq_true rfl⟩) hK hP (by decide) rfl rfl rfl hl.1 rfl (Nat.le_of_ble_eq_true rfl) dX6_home_2 ⟨Nat.zero_le _, Nat.zero_le _⟩) hS hAd (fun r2 S2 H locs hw hP _ hS => ?_)
  obtain ⟨hw, eS2⟩ := hw
  rw [eS2] at hP
  by_cases q2 : inR sn (S 0 7) = true
  · have hw : r2 = 1 := hw.trans (if_pos q2)
    subst hw
    obtain ⟨j2, hj2, rfl⟩ : ∃ j, j < N ∧ sn = nI j := inR_ex (by rw [← hN]; exact q2) (by omega)
    have en2 : nN (nI j2) = j2 := nN_nI (by omega)
    refine lv_if_ne (tgt := 10) hx hb dX6_home_5 (by decide) (fun _ => ?_) (fun hc => absurd hc (by decide))
    refine lv_aload_n hx hb dX6_home_10 rfl (lv_at hl 0 rfl) ?_
    refine x_get (v := .ref (bd 9)) hx hb hts hinX6 hown hK hP 0 (by decide) rfl rfl 13 (by decide) (hts _ (List.mem_of_getElem? (i := 1) rfl)) rfl dX6_home_11 ?_
    refine lv_iload_n hx hb dX6_home_14 rfl (lv_at hl 1 rfl) ?_
    refine x_iald (v := S 9 j2) hx hb hK hP 9 0 (by decide) rfl rfl j2 rfl (by omega) (by decide) rfl dX6_home_15 ?_
    refine lv_bipush (v := (-9)) hx hb dX6_home_16 (by decide +kernel) ?_
    refine lv_icmp_ne (tgt := 25) hx hb dX6_home_18 (by decide) (fun c18 => ?_) (fun c18 => ?_)
    · refine lv_iconst (v := 1) hx hb dX6_home_25 (by decide +kernel) ?_
      refine lv_istore_n (lv' := [(2, .int 1), (0, .ref (bd 0)), (1, .int (nI j2))]) hx hb dX6_home_26 rfl hl (by decide) rfl (fun ls hl => ?_)
      refine lv_aload_n hx hb dX6_home_27 rfl (lv_at hl 1 rfl) ?_
      refine x_get (v := .ref (bd 9)) hx hb hts hinX6 hown hK hP 0 (by decide) rfl rfl 13 (by decide) (hts _ (List.mem_of_getElem? (i := 1) rfl)) rfl dX6_home_28 ?_
      refine lv_iload_n hx hb dX6_home_31 rfl (lv_at hl 2 rfl) ?_
      refine lv_bipush (v := (-9)) hx hb dX6_home_32 (by decide +kernel) ?_
      refine x_iast hx hb hK hI hAd hP hS 9 0 (by decide) (fun _ => rfl) rfl j2 rfl (by omega) (by decide) dX6_home_34 (fun H locs hP hS => ?_)
      refine lv_aload_n hx hb dX6_home_35 rfl (lv_at hl 1 rfl) ?_
      refine x_get (v := .ref (bd 10)) hx hb hts hinX6 hown hK hP 0 (by decide) rfl rfl 14 (by decide) (hts _ (List.mem_of_getElem? (i := 2) rfl)) rfl dX6_home_36 ?_
      refine lv_iload_n hx hb dX6_home_39 rfl (lv_at hl 2 rfl) ?_
      refine lv_bipush (v := (-9)) hx hb dX6_home_40 (by decide +kernel) ?_
      refine x_iast hx hb hK hI hAd hP hS 10 0 (by decide) (fun _ => rfl) rfl j2 rfl (by omega) (by decide) dX6_home_42 (fun H locs hP hS => ?_)
      refine lv_iload_n hx hb dX6_home_43 rfl (lv_at hl 0 rfl) ?_
      refine x_iret hx hb hr hlocks hP hS dX6_home_44 ?_
      skip
      exact ⟨by first | (simp [q2, en2, c18]; done) | grind, by first | (simp [q2, en2, c18]; done) | grind⟩
    · refine lv_iconst (v := 0) hx hb dX6_home_21 (by decide +kernel) ?_
      refine lv_goto (tgt := 26) hx hb dX6_home_22 (by decide) ?_
      refine lv_istore_n (lv' := [(2, .int 0), (0, .ref (bd 0)), (1, .int (nI j2))]) hx hb dX6_home_26 rfl hl (by decide) rfl (fun ls hl => ?_)
      refine lv_aload_n hx hb dX6_home_27 rfl (lv_at hl 1 rfl) ?_
      refine x_get (v := .ref (bd 9)) hx hb hts hinX6 hown hK hP 0 (by decide) rfl rfl 13 (by decide) (hts _ (List.mem_of_getElem? (i := 1) rfl)) rfl dX6_home_28 ?_
      refine lv_iload_n hx hb dX6_home_31 rfl (lv_at hl 2 rfl) ?_
      refine lv_bipush (v := (-9)) hx hb dX6_home_32 (by decide +kernel) ?_
      refine x_iast hx hb hK hI hAd hP hS 9 0 (by decide) (fun _ => rfl) rfl j2 rfl (by omega) (by decide) dX6_home_34 (fun H locs hP hS => ?_)
      refine lv_aload_n hx hb dX6_home_35 rfl (lv_at hl 1 rfl) ?_
      refine x_get (v := .ref (bd 10)) hx hb hts hinX6 hown hK hP 0 (by decide) rfl rfl 14 (by decide) (hts _ (List.mem_of_getElem? (i := 2) rfl)) rfl dX6_home_36 ?_
      refine lv_iload_n hx hb dX6_home_39 rfl (lv_at hl 2 rfl) ?_
      refine lv_bipush (v := (-9)) hx hb dX6_home_40 (by decide +kernel) ?_
      refine x_iast hx hb hK hI hAd hP hS 10 0 (by decide) (fun _ => rfl) rfl j2 rfl (by omega) (by decide) dX6_home_42 (fun H locs hP hS => ?_)
      refine lv_iload_n hx hb dX6_home_43 rfl (lv_at hl 0 rfl) ?_
      refine x_iret hx hb hr hlocks hP hS dX6_home_44 ?_
      skip
      exact ⟨by first | (simp [q2, en2, c18]; done) | grind, by first | (simp [q2, en2, c18]; done) | grind⟩
  · have hw : r2 = 0 := hw.trans (if_neg q2)
    subst hw
    refine lv_if_ne (tgt := 10) hx hb dX6_home_5 (by decide) (fun hc => absurd (by decide) hc) (fun _ => ?_)
    refine lv_iconst (v := (-1)) hx hb dX6_home_8 (by decide +kernel) ?_
    refine x_iret hx hb hr hlocks hP hS dX6_home_9 ?_
    skip
    exact ⟨by first | (simp [q2]; done) | grind, by first | (simp [q2]; done) | grind⟩

set_option maxHeartbeats 4000000 in
set_option maxRecDepth 100000 in
theorem c6_stake (hI : xI 18 bd) (S : xSt) (N : Nat) (hN : S 0 7 = nI N) (hN5 : N ≤ 5) (sn yn : Int32) : xMi l yX6_stake wsX6_stake ({ frames := 1, cells := 0, slots := 0, locals := 24 }) (dC, dI) vwCl (tyl cI cZ cS cG) (mLy cI cZ bd) 18 bd [.ref (bd 0), .int sn, .int yn] S (fun r S' => r = (if inR sn (S 0 7) then (if inR yn (S 0 6) then (if S 10 (nN sn) = -9 then -9 else if S 10 (nN sn) ≤ yn then stake1 (S 7 (nN sn)) (S 8 (nN sn)) (S 5 (nN sn)) (yn - S 10 (nN sn)) else -9) else -2) else -1) ∧ S' = S) := by
  refine xM_of (cc := cX6_stake) (nL := 3) (ret := (some .int)) (by decide) rfl (Nat.le_of_ble_eq_true rfl) ?_
  intro p e s m below meth c ls B hl hK hP
  obtain ⟨hx, hb, hml, hown, hts, hr, hlocks⟩ := B
  have hl : lv_has ls 3 [(0, .ref (bd 0)), (1, .int sn), (2, .int yn)] := hl
  have hS : va_S (xA 18 bd) s.heap s.heap [] := va_S.rf
  have hAd : ∀ k, k < 18 → xA 18 bd (bd k) := xA_in
  have hinX6 : ∀ w ∈ wsX60, w ∈ wsX6_stake := fun _ h => List.mem_cons_of_mem _ (List.mem_append_right _ h)
  have hF : CallFix p m c cX6_stake 3 s _ wsX6_stake RX6 := ⟨hx, hb, hml, hown, hts⟩
  refine lv_aload_n hx hb dX6_stake_0 rfl (lv_at hl 0 rfl) ?_
  refine lv_iload_n hx hb dX6_stake_1 rfl (lv_at hl 1 rfl) ?_
  refine x_calli (x_runV (As := [.int sn]) (rest := []) hF (c6_isSon hI S sn ) (cwV 1 hts gX6_stake_X6_isSon rfl rfl rfl (by decide +kernel) ⟨Nat.le_of_ble_eq_true rfl, Nat.le_of_ble_eq_true rfl⟩) hK hP (by decide) rfl rfl rfl hl.1 rfl (Nat.le_of_ble_eq_true rfl) dX6_stake_2 ⟨Nat.zero_le _, Nat.zero_le _⟩) hS hAd (fun r2 S2 H locs hw hP _ hS => ?_)
  obtain ⟨hw, eS2⟩ := hw
  rw [eS2] at hP
  by_cases q2 : inR sn (S 0 7) = true
  · have hw : r2 = 1 := hw.trans (if_pos q2)
    subst hw
    obtain ⟨j2, hj2, rfl⟩ : ∃ j, j < N ∧ sn = nI j := inR_ex (by rw [← hN]; exact q2) (by omega)
    have en2 : nN (nI j2) = j2 := nN_nI (by omega)
    refine lv_if_ne (tgt := 10) hx hb dX6_stake_5 (by decide) (fun _ => ?_) (fun hc => absurd hc (by decide))
    refine lv_aload_n hx hb dX6_stake_10 rfl (lv_at hl 0 rfl) ?_
    refine lv_iload_n hx hb dX6_stake_11 rfl (lv_at hl 2 rfl) ?_
    refine x_calli (x_runV (As := [.int yn]) (rest := []) hF (c6_isYear hI S yn ) (cwV 1 hts gX6_stake_X6_isYear rfl rfl rfl (by decide +kernel) ⟨Nat.le_of_ble_eq_true rfl, Nat.le_of_ble_eq_true rfl⟩) hK hP (by decide) rfl rfl rfl hl.1 rfl (Nat.le_of_ble_eq_true rfl) dX6_stake_12 ⟨Nat.zero_le _, Nat.zero_le _⟩) hS hAd (fun r12 S12 H locs hw hP _ hS => ?_)
    obtain ⟨hw, eS12⟩ := hw
    rw [eS12] at hP
    by_cases q12 : inR yn (S 0 6) = true
    · have hw : r12 = 1 := hw.trans (if_pos q12)
      subst hw
      refine lv_if_ne (tgt := 21) hx hb dX6_stake_15 (by decide) (fun _ => ?_) (fun hc => absurd hc (by decide))
      refine lv_aload_n hx hb dX6_stake_21 rfl (lv_at hl 0 rfl) ?_
      refine x_get (v := .ref (bd 10)) hx hb hts hinX6 hown hK hP 0 (by decide) rfl rfl 14 (by decide) (hts _ (List.mem_of_getElem? (i := 1) rfl)) rfl dX6_stake_22 ?_
      refine lv_iload_n hx hb dX6_stake_25 rfl (lv_at hl 1 rfl) ?_
      refine x_iald (v := S 10 j2) hx hb hK hP 10 0 (by decide) rfl rfl j2 rfl (by omega) (by decide) rfl dX6_stake_26 ?_
      refine lv_bipush (v := (-9)) hx hb dX6_stake_27 (by decide +kernel) ?_
      refine lv_icmp_eq (tgt := 42) hx hb dX6_stake_29 (by decide) (fun c29 => ?_) (fun c29 => ?_)
      · refine lv_bipush (v := (-9)) hx hb dX6_stake_42 (by decide +kernel) ?_
        refine lv_goto (tgt := 59) hx hb dX6_stake_44 (by decide) ?_
        refine x_iret hx hb hr hlocks hP hS dX6_stake_59 ?_
        skip
        exact ⟨by first | (simp [q2, en2, q12, c29]; done) | grind, rfl⟩
      · refine lv_aload_n hx hb dX6_stake_32 rfl (lv_at hl 0 rfl) ?_
        refine x_get (v := .ref (bd 10)) hx hb hts hinX6 hown hK hP 0 (by decide) rfl rfl 14 (by decide) (hts _ (List.mem_of_getElem? (i := 1) rfl)) rfl dX6_stake_33 ?_
        refine lv_iload_n hx hb dX6_stake_36 rfl (lv_at hl 1 rfl) ?_
        refine x_iald (v := S 10 j2) hx hb hK hP 10 0 (by decide) rfl rfl j2 rfl (by omega) (by decide) rfl dX6_stake_37 ?_
        refine lv_iload_n hx hb dX6_stake_38 rfl (lv_at hl 2 rfl) ?_
        refine lv_icmp_le (tgt := 47) hx hb dX6_stake_39 (by decide) (fun c39 => ?_) (fun c39 => ?_)
        · have d39 := Int32.not_lt.mpr c39
          refine lv_aload_n hx hb dX6_stake_47 rfl (lv_at hl 0 rfl) ?_
          refine lv_iload_n hx hb dX6_stake_48 rfl (lv_at hl 1 rfl) ?_
          refine lv_aload_n hx hb dX6_stake_49 rfl (lv_at hl 0 rfl) ?_
          refine x_get (v := .ref (bd 10)) hx hb hts hinX6 hown hK hP 0 (by decide) rfl rfl 14 (by decide) (hts _ (List.mem_of_getElem? (i := 1) rfl)) rfl dX6_stake_50 ?_
          refine lv_iload_n hx hb dX6_stake_53 rfl (lv_at hl 1 rfl) ?_
          refine x_iald (v := S 10 j2) hx hb hK hP 10 0 (by decide) rfl rfl j2 rfl (by omega) (by decide) rfl dX6_stake_54 ?_
          refine lv_iload_n hx hb dX6_stake_55 rfl (lv_at hl 2 rfl) ?_
          refine x_calli (x_runV (As := [.int (nI j2), .int (S 10 j2), .int yn]) (rest := []) hF (c6_stakeBy hI S j2 (S 10 j2) yn (by omega)) (cwV 3 hts gX6_stake_X6_stakeBy rfl rfl rfl (by decide +kernel) ⟨Nat.le_of_ble_eq_true rfl, Nat.le_of_ble_eq_true rfl⟩) hK hP (by decide) rfl rfl rfl hl.1 rfl (Nat.le_of_ble_eq_true rfl) dX6_stake_56 ⟨Nat.zero_le _, Nat.zero_le _⟩) hS hAd (fun r56 S56 H locs hw hP _ hS => ?_)
          obtain ⟨er56, eS56⟩ := hw
          rw [eS56] at hP
          refine x_iret hx hb hr hlocks hP hS dX6_stake_59 ?_
          subst er56
          exact ⟨by first | (simp [q2, en2, q12, c29, c39, d39]; done) | grind, rfl⟩
        · have d39 := Int32.not_le.mp c39
          refine lv_bipush (v := (-9)) hx hb dX6_stake_42 (by decide +kernel) ?_
          refine lv_goto (tgt := 59) hx hb dX6_stake_44 (by decide) ?_
          refine x_iret hx hb hr hlocks hP hS dX6_stake_59 ?_
          skip
          exact ⟨by first | (simp [q2, en2, q12, c29, c39, d39]; done) | grind, rfl⟩
    · have hw : r12 = 0 := hw.trans (if_neg q12)
      subst hw
      refine lv_if_ne (tgt := 21) hx hb dX6_stake_15 (by decide) (fun hc => absurd (by decide) hc) (fun _ => ?_)
      refine lv_bipush (v := (-2)) hx hb dX6_stake_18 (by decide +kernel) ?_
      refine x_iret hx hb hr hlocks hP hS dX6_stake_20 ?_
      skip
      exact ⟨by first | (simp [q2, en2, q12]; done) | grind, rfl⟩
  · have hw : r2 = 0 := hw.trans (if_neg q2)
    subst hw
    refine lv_if_ne (tgt := 10) hx hb dX6_stake_5 (by decide) (fun hc => absurd (by decide) hc) (fun _ => ?_)
    refine lv_iconst (v := (-1)) hx hb dX6_stake_8 (by decide +kernel) ?_
    refine x_iret hx hb hr hlocks hP hS dX6_stake_9 ?_
    skip
    exact ⟨by first | (simp [q2]; done) | grind, rfl⟩

set_option maxHeartbeats 4000000 in
set_option maxRecDepth 100000 in
theorem c6_stakes (hI : xI 18 bd) (S : xSt) (N : Nat) (hN : S 0 7 = nI N) (hN5 : N ≤ 5) (cn yn : Int32) : xMi l yX6_stakes wsX6_stakes ({ frames := 2, cells := 0, slots := 0, locals := 48 }) (dC, dI) vwCl (tyl cI cZ cS cG) (mLy cI cZ bd) 18 bd [.ref (bd 0), .int cn, .int yn] S (fun r S' => r = (if inR cn (S 0 5) then (if inR yn (S 0 6) then sumL (stk (S 6) (S 7) (S 8) (S 5) (askF S N) cn yn) N 0 0 else -2) else -1) ∧ S' = (if inR cn (S 0 5) ∧ inR yn (S 0 6) then sr S 13 (askF S N) else S)) := by
  refine xM_of (cc := cX6_stakes) (nL := 3) (ret := (some .int)) (by decide) rfl (Nat.le_of_ble_eq_true rfl) ?_
  intro p e s m below meth c ls B hl hK hP
  obtain ⟨hx, hb, hml, hown, hts, hr, hlocks⟩ := B
  have hl : lv_has ls 3 [(0, .ref (bd 0)), (1, .int cn), (2, .int yn)] := hl
  have hS : va_S (xA 18 bd) s.heap s.heap [] := va_S.rf
  have hAd : ∀ k, k < 18 → xA 18 bd (bd k) := xA_in
  have hF : CallFix p m c cX6_stakes 3 s _ wsX6_stakes RX6 := ⟨hx, hb, hml, hown, hts⟩
  refine lv_aload_n hx hb dX6_stakes_0 rfl (lv_at hl 0 rfl) ?_
  refine lv_iload_n hx hb dX6_stakes_1 rfl (lv_at hl 1 rfl) ?_
  refine x_calli (x_runV (As := [.int cn]) (rest := []) hF (c6_isCourt hI S cn ) (cwV 1 hts gX6_stakes_X6_isCourt rfl rfl rfl (by decide +kernel) ⟨Nat.le_of_ble_eq_true rfl, Nat.le_of_ble_eq_true rfl⟩) hK hP (by decide) rfl rfl rfl hl.1 rfl (Nat.le_of_ble_eq_true rfl) dX6_stakes_2 ⟨Nat.zero_le _, Nat.zero_le _⟩) hS hAd (fun r2 S2 H locs hw hP _ hS => ?_)
  obtain ⟨hw, eS2⟩ := hw
  rw [eS2] at hP
  by_cases q2 : inR cn (S 0 5) = true
  · have hw : r2 = 1 := hw.trans (if_pos q2)
    subst hw
    refine lv_if_ne (tgt := 10) hx hb dX6_stakes_5 (by decide) (fun _ => ?_) (fun hc => absurd hc (by decide))
    refine lv_aload_n hx hb dX6_stakes_10 rfl (lv_at hl 0 rfl) ?_
    refine lv_iload_n hx hb dX6_stakes_11 rfl (lv_at hl 2 rfl) ?_
    refine x_calli (x_runV (As := [.int yn]) (rest := []) hF (c6_isYear hI S yn ) (cwV 1 hts gX6_stakes_X6_isYear rfl rfl rfl (by decide +kernel) ⟨Nat.le_of_ble_eq_true rfl, Nat.le_of_ble_eq_true rfl⟩) hK hP (by decide) rfl rfl rfl hl.1 rfl (Nat.le_of_ble_eq_true rfl) dX6_stakes_12 ⟨Nat.zero_le _, Nat.zero_le _⟩) hS hAd (fun r12 S12 H locs hw hP _ hS => ?_)
    obtain ⟨hw, eS12⟩ := hw
    rw [eS12] at hP
    by_cases q12 : inR yn (S 0 6) = true
    · have hw : r12 = 1 := hw.trans (if_pos q12)
      subst hw
      refine lv_if_ne (tgt := 21) hx hb dX6_stakes_15 (by decide) (fun _ => ?_) (fun hc => absurd hc (by decide))
      refine lv_aload_n hx hb dX6_stakes_21 rfl (lv_at hl 0 rfl) ?_
      refine x_callv (x_runV (As := []) (rest := []) hF (c6_askNow hI S N hN hN5 ) (cwV 0 hts gX6_stakes_X6_askNow rfl rfl rfl (by decide +kernel) ⟨Nat.le_of_ble_eq_true rfl, Nat.le_of_ble_eq_true rfl⟩) hK hP (by decide) rfl rfl rfl hl.1 rfl (Nat.le_of_ble_eq_true rfl) dX6_stakes_22 ⟨Nat.zero_le _, Nat.zero_le _⟩) hS hAd (fun S22 H locs hw hP _ hS => ?_)
      rw [hw] at hP
      refine lv_aload_n hx hb dX6_stakes_25 rfl (lv_at hl 0 rfl) ?_
      refine lv_iload_n hx hb dX6_stakes_26 rfl (lv_at hl 1 rfl) ?_
      refine lv_iload_n hx hb dX6_stakes_27 rfl (lv_at hl 2 rfl) ?_
      refine x_calli (x_runV (As := [.int cn, .int yn]) (rest := []) hF (c6_stakesBy hI (sr S 13 (askF S N)) N hN hN5 cn yn ) (cwV 2 hts gX6_stakes_X6_stakesBy rfl rfl rfl (by decide +kernel) ⟨Nat.le_of_ble_eq_true rfl, Nat.le_of_ble_eq_true rfl⟩) hK hP (by decide) rfl rfl rfl hl.1 rfl (Nat.le_of_ble_eq_true rfl) dX6_stakes_28 ⟨Nat.zero_le _, Nat.zero_le _⟩) hS hAd (fun r28 S28 H locs hw hP _ hS => ?_)
      obtain ⟨er28, eS28⟩ := hw
      rw [eS28] at hP
      refine x_iret hx hb hr hlocks hP hS dX6_stakes_31 ?_
      subst er28
      exact ⟨by simp [q2, q12] <;> rfl, by simp [q2, q12]⟩
    · have hw : r12 = 0 := hw.trans (if_neg q12)
      subst hw
      refine lv_if_ne (tgt := 21) hx hb dX6_stakes_15 (by decide) (fun hc => absurd (by decide) hc) (fun _ => ?_)
      refine lv_bipush (v := (-2)) hx hb dX6_stakes_18 (by decide +kernel) ?_
      refine x_iret hx hb hr hlocks hP hS dX6_stakes_20 ?_
      skip
      exact ⟨by simp [q2, q12] <;> rfl, by simp [q2, q12]⟩
  · have hw : r2 = 0 := hw.trans (if_neg q2)
    subst hw
    refine lv_if_ne (tgt := 10) hx hb dX6_stakes_5 (by decide) (fun hc => absurd (by decide) hc) (fun _ => ?_)
    refine lv_iconst (v := (-1)) hx hb dX6_stakes_8 (by decide +kernel) ?_
    refine x_iret hx hb hr hlocks hP hS dX6_stakes_9 ?_
    skip
    exact ⟨by simp [q2] <;> rfl, by simp [q2]⟩

set_option maxHeartbeats 4000000 in
set_option maxRecDepth 100000 in
theorem c6_tempted (hI : xI 18 bd) (S : xSt) (N : Nat) (hN : S 0 7 = nI N) (hN5 : N ≤ 5) (C : Nat) (hC : S 0 5 = nI C) (hC4 : C ≤ 4) (Y : Nat) (hY : S 0 6 = nI Y) (hY6 : Y ≤ 6) (yn : Int32) : xMi l yX6_tempted wsX6_tempted ({ frames := 4, cells := 0, slots := 0, locals := 93 }) (dC, dI) vwCl (tyl cI cZ cS cG) (mLy cI cZ bd) 18 bd [.ref (bd 0), .int yn] S (fun r S' => r = (if S 0 5 = 0 then -3 else if inR yn (S 0 6) then mSet (sr S 13 (askF S N)) N C (nN yn) else -2) ∧ S' = (if S 0 5 = 0 then S else if inR yn (S 0 6) then (sr S 13 (askF S N)) else S)) := by
  refine xM_of (cc := cX6_tempted) (nL := 2) (ret := (some .int)) (by decide) rfl (Nat.le_of_ble_eq_true rfl) ?_
  intro p e s m below meth c ls B hl hK hP
  obtain ⟨hx, hb, hml, hown, hts, hr, hlocks⟩ := B
  have hl : lv_has ls 2 [(0, .ref (bd 0)), (1, .int yn)] := hl
  have hS : va_S (xA 18 bd) s.heap s.heap [] := va_S.rf
  have hAd : ∀ k, k < 18 → xA 18 bd (bd k) := xA_in
  have hinX6 : ∀ w ∈ wsX60, w ∈ wsX6_tempted := fun _ h => List.mem_cons_of_mem _ (List.mem_append_right _ h)
  have hF : CallFix p m c cX6_tempted 2 s _ wsX6_tempted RX6 := ⟨hx, hb, hml, hown, hts⟩
  refine lv_aload_n hx hb dX6_tempted_0 rfl (lv_at hl 0 rfl) ?_
  refine x_get (v := .int (S 0 5)) hx hb hts hinX6 hown hK hP 0 (by decide) rfl rfl 5 (by decide) (hts _ (List.mem_of_getElem? (i := 1) rfl)) rfl dX6_tempted_1 ?_
  refine lv_if_ne (tgt := 10) hx hb dX6_tempted_4 (by decide) (fun c4 => ?_) (fun c4 => ?_)
  · refine lv_aload_n hx hb dX6_tempted_10 rfl (lv_at hl 0 rfl) ?_
    refine lv_iload_n hx hb dX6_tempted_11 rfl (lv_at hl 1 rfl) ?_
    refine x_calli (x_runV (As := [.int yn]) (rest := []) hF (c6_isYear hI S yn ) (cwV 1 hts gX6_tempted_X6_isYear rfl rfl rfl (by decide +kernel) ⟨Nat.le_of_ble_eq_true rfl, Nat.le_of_ble_eq_true rfl⟩) hK hP (by decide) rfl rfl rfl hl.1 rfl (Nat.le_of_ble_eq_true rfl) dX6_tempted_12 ⟨Nat.zero_le _, Nat.zero_le _⟩) hS hAd (fun r12 S12 H locs hw hP _ hS => ?_)
    obtain ⟨hw, eS12⟩ := hw
    rw [eS12] at hP
    by_cases q12 : inR yn (S 0 6) = true
    · have hw : r12 = 1 := hw.trans (if_pos q12)
      subst hw
      obtain ⟨j12, hj12, rfl⟩ : ∃ j, j < Y ∧ yn = nI j := inR_ex (by rw [← hY]; exact q12) (by omega)
      have en12 : nN (nI j12) = j12 := nN_nI (by omega)
      refine lv_if_ne (tgt := 21) hx hb dX6_tempted_15 (by decide) (fun _ => ?_) (fun hc => absurd hc (by decide))
      refine lv_aload_n hx hb dX6_tempted_21 rfl (lv_at hl 0 rfl) ?_
      refine x_callv (x_runV (As := []) (rest := []) hF (c6_askNow hI S N hN hN5 ) (cwV 0 hts gX6_tempted_X6_askNow rfl rfl rfl (by decide +kernel) ⟨Nat.le_of_ble_eq_true rfl, Nat.le_of_ble_eq_true rfl⟩) hK hP (by decide) rfl rfl rfl hl.1 rfl (Nat.le_of_ble_eq_true rfl) dX6_tempted_22 ⟨Nat.zero_le _, Nat.zero_le _⟩) hS hAd (fun S22 H locs hw hP _ hS => ?_)
      rw [hw] at hP
      refine lv_aload_n hx hb dX6_tempted_25 rfl (lv_at hl 0 rfl) ?_
      refine lv_iload_n hx hb dX6_tempted_26 rfl (lv_at hl 1 rfl) ?_
      refine x_calli (x_runV (As := [.int (nI j12)]) (rest := []) hF (c6_temptedSet hI (sr S 13 (askF S N)) N hN hN5 C hC hC4 j12 (by omega)) (cwV 1 hts gX6_tempted_X6_temptedSet rfl rfl rfl (by decide +kernel) ⟨Nat.le_of_ble_eq_true rfl, Nat.le_of_ble_eq_true rfl⟩) hK hP (by decide) rfl rfl rfl hl.1 rfl (Nat.le_of_ble_eq_true rfl) dX6_tempted_27 ⟨Nat.zero_le _, Nat.zero_le _⟩) hS hAd (fun r27 S27 H locs hw hP _ hS => ?_)
      obtain ⟨er27, eS27⟩ := hw
      rw [eS27] at hP
      refine x_iret hx hb hr hlocks hP hS dX6_tempted_30 ?_
      subst er27
      exact ⟨by first | (simp [c4, q12, en12]; done) | grind, by first | (simp [c4, q12, en12]; done) | grind⟩
    · have hw : r12 = 0 := hw.trans (if_neg q12)
      subst hw
      refine lv_if_ne (tgt := 21) hx hb dX6_tempted_15 (by decide) (fun hc => absurd (by decide) hc) (fun _ => ?_)
      refine lv_bipush (v := (-2)) hx hb dX6_tempted_18 (by decide +kernel) ?_
      refine x_iret hx hb hr hlocks hP hS dX6_tempted_20 ?_
      skip
      exact ⟨by first | (simp [c4, q12]; done) | grind, by first | (simp [c4, q12]; done) | grind⟩
  · refine lv_bipush (v := (-3)) hx hb dX6_tempted_7 (by decide +kernel) ?_
    refine x_iret hx hb hr hlocks hP hS dX6_tempted_9 ?_
    skip
    exact ⟨by first | (simp [c4]; done) | grind, by first | (simp [c4]; done) | grind⟩

set_option maxHeartbeats 4000000 in
set_option maxRecDepth 100000 in
theorem c6_broken (hI : xI 18 bd) (S : xSt) (N : Nat) (hN : S 0 7 = nI N) (hN5 : N ≤ 5) (C : Nat) (hC : S 0 5 = nI C) (hC4 : C ≤ 4) (Y : Nat) (hY : S 0 6 = nI Y) (hY6 : Y ≤ 6) (wn : Int32) : xMi l yX6_broken wsX6_broken ({ frames := 6, cells := 0, slots := 0, locals := 136 }) (dC, dI) vwCl (tyl cI cZ cS cG) (mLy cI cZ bd) 18 bd [.ref (bd 0), .int wn] S (fun r S' => r = (if wit wn 0 1 then (if S 0 5 = 0 then -3 else if wn = 0 then mBrk (sr S 13 (askF S N)) N C Y else mBC (sr S 13 (askF S N)) N C Y) else -2) ∧ S' = (if wit wn 0 1 then (if S 0 5 = 0 then S else (sr S 13 (askF S N))) else S)) := by
  refine xM_of (cc := cX6_broken) (nL := 2) (ret := (some .int)) (by decide) rfl (Nat.le_of_ble_eq_true rfl) ?_
  intro p e s m below meth c ls B hl hK hP
  obtain ⟨hx, hb, hml, hown, hts, hr, hlocks⟩ := B
  have hl : lv_has ls 2 [(0, .ref (bd 0)), (1, .int wn)] := hl
  have hS : va_S (xA 18 bd) s.heap s.heap [] := va_S.rf
  have hAd : ∀ k, k < 18 → xA 18 bd (bd k) := xA_in
  have hinX6 : ∀ w ∈ wsX60, w ∈ wsX6_broken := fun _ h => List.mem_cons_of_mem _ (List.mem_append_right _ h)
  have hF : CallFix p m c cX6_broken 2 s _ wsX6_broken RX6 := ⟨hx, hb, hml, hown, hts⟩
  refine lv_iload_n hx hb dX6_broken_0 rfl (lv_at hl 1 rfl) ?_
  refine lv_iconst (v := 0) hx hb dX6_broken_1 (by decide +kernel) ?_
  refine lv_iconst (v := 1) hx hb dX6_broken_2 (by decide +kernel) ?_
  refine x_calli (x_runS (As := [.int wn, .int 0, .int 1]) (rest := []) hF (c6_within hI S wn 0 1 ) (va_cwS 3 hts gX6_broken_X6_within rfl rfl rfl (by decide +kernel) ⟨Nat.le_of_ble_eq_true rfl, Nat.le_of_ble_eq_true rfl⟩) hK hP rfl hl.1 rfl (Nat.le_of_ble_eq_true rfl) dX6_broken_3 ⟨Nat.zero_le _, Nat.zero_le _⟩) hS hAd (fun r3 S3 H locs hw hP _ hS => ?_)
  obtain ⟨hw, eS3⟩ := hw
  rw [eS3] at hP
  by_cases q3 : wit wn 0 1 = true
  · have hw : r3 = 1 := hw.trans (if_pos q3)
    subst hw
    refine lv_if_ne (tgt := 12) hx hb dX6_broken_6 (by decide) (fun _ => ?_) (fun hc => absurd hc (by decide))
    refine lv_aload_n hx hb dX6_broken_12 rfl (lv_at hl 0 rfl) ?_
    refine x_get (v := .int (S 0 5)) hx hb hts hinX6 hown hK hP 0 (by decide) rfl rfl 5 (by decide) (hts _ (List.mem_of_getElem? (i := 1) rfl)) rfl dX6_broken_13 ?_
    refine lv_if_ne (tgt := 22) hx hb dX6_broken_16 (by decide) (fun c16 => ?_) (fun c16 => ?_)
    · refine lv_aload_n hx hb dX6_broken_22 rfl (lv_at hl 0 rfl) ?_
      refine x_callv (x_runV (As := []) (rest := []) hF (c6_askNow hI S N hN hN5 ) (cwV 0 hts gX6_broken_X6_askNow rfl rfl rfl (by decide +kernel) ⟨Nat.le_of_ble_eq_true rfl, Nat.le_of_ble_eq_true rfl⟩) hK hP (by decide) rfl rfl rfl hl.1 rfl (Nat.le_of_ble_eq_true rfl) dX6_broken_23 ⟨Nat.zero_le _, Nat.zero_le _⟩) hS hAd (fun S23 H locs hw hP _ hS => ?_)
      rw [hw] at hP
      refine lv_iload_n hx hb dX6_broken_26 rfl (lv_at hl 1 rfl) ?_
      refine lv_if_ne (tgt := 37) hx hb dX6_broken_27 (by decide) (fun c27 => ?_) (fun c27 => ?_)
      · refine lv_aload_n hx hb dX6_broken_37 rfl (lv_at hl 0 rfl) ?_
        refine x_calli (x_runV (As := []) (rest := []) hF (c6_breakCourt hI (sr S 13 (askF S N)) N hN hN5 C hC hC4 Y hY hY6 ) (cwV 0 hts gX6_broken_X6_breakCourt rfl rfl rfl (by decide +kernel) ⟨Nat.le_of_ble_eq_true rfl, Nat.le_of_ble_eq_true rfl⟩) hK hP (by decide) rfl rfl rfl hl.1 rfl (Nat.le_of_ble_eq_true rfl) dX6_broken_38 ⟨Nat.zero_le _, Nat.zero_le _⟩) hS hAd (fun r38 S38 H locs hw hP _ hS => ?_)
        obtain ⟨er38, eS38⟩ := hw
        rw [eS38] at hP
        refine x_iret hx hb hr hlocks hP hS dX6_broken_41 ?_
        subst er38
        exact ⟨by first | (simp [q3, c16, c27]; done) | grind, by first | (simp [q3, c16, c27]; done) | grind⟩
      · refine lv_aload_n hx hb dX6_broken_30 rfl (lv_at hl 0 rfl) ?_
        refine x_calli (x_runV (As := []) (rest := []) hF (c6_breakYear hI (sr S 13 (askF S N)) N hN hN5 C hC hC4 Y hY hY6 ) (cwV 0 hts gX6_broken_X6_breakYear rfl rfl rfl (by decide +kernel) ⟨Nat.le_of_ble_eq_true rfl, Nat.le_of_ble_eq_true rfl⟩) hK hP (by decide) rfl rfl rfl hl.1 rfl (Nat.le_of_ble_eq_true rfl) dX6_broken_31 ⟨Nat.zero_le _, Nat.zero_le _⟩) hS hAd (fun r31 S31 H locs hw hP _ hS => ?_)
        obtain ⟨er31, eS31⟩ := hw
        rw [eS31] at hP
        refine lv_goto (tgt := 41) hx hb dX6_broken_34 (by decide) ?_
        refine x_iret hx hb hr hlocks hP hS dX6_broken_41 ?_
        subst er31
        exact ⟨by first | (simp [q3, c16, c27]; done) | grind, by first | (simp [q3, c16, c27]; done) | grind⟩
    · refine lv_bipush (v := (-3)) hx hb dX6_broken_19 (by decide +kernel) ?_
      refine x_iret hx hb hr hlocks hP hS dX6_broken_21 ?_
      skip
      exact ⟨by first | (simp [q3, c16]; done) | grind, by first | (simp [q3, c16]; done) | grind⟩
  · have hw : r3 = 0 := hw.trans (if_neg q3)
    subst hw
    refine lv_if_ne (tgt := 12) hx hb dX6_broken_6 (by decide) (fun hc => absurd (by decide) hc) (fun _ => ?_)
    refine lv_bipush (v := (-2)) hx hb dX6_broken_9 (by decide +kernel) ?_
    refine x_iret hx hb hr hlocks hP hS dX6_broken_11 ?_
    skip
    exact ⟨by first | (simp [q3]; done) | grind, by first | (simp [q3]; done) | grind⟩

end M3
