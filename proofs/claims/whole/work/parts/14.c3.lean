section C3
variable {l : Launch} {dC : Nat → ClassId} {dI : Nat → Nat → Nat} {cI cZ cS cG : ClassId} {ad bd : Nat → Nat}
set_option maxHeartbeats 4000000 in
set_option maxRecDepth 100000 in
theorem cJ_bitCount (hI : xI 42 ad) (S : xSt) (x : Int32) : xMi l yJ6_bitCount_0f7a4 wsJ6_bitCount_0f7a4 ({ frames := 0, cells := 0, slots := 0, locals := 0 }) (dC, dI) vwCl (tyl cI cZ cS cG) (cLy cI cZ cS cG ad) 42 ad [.int x] S (fun r S' => r = bcI x ∧ S' = S) := by
  refine xM_of (cc := cJ6_bitCount_0f7a4) (nL := 1) (ret := (some .int)) (by decide) rfl (Nat.le_of_ble_eq_true rfl) ?_
  intro p e s m below meth c ls B hl hK hP
  obtain ⟨hx, hb, hml, hown, hts, hr, hlocks⟩ := B
  have hl : lv_has ls 1 [(0, .int x)] := hl
  have hS : va_S (xA 42 ad) s.heap s.heap [] := va_S.rf
  have hAd : ∀ k, k < 42 → xA 42 ad (ad k) := xA_in
  have hF : CallFix p m c cJ6_bitCount_0f7a4 1 s _ wsJ6_bitCount_0f7a4 RJ6 := ⟨hx, hb, hml, hown, hts⟩
  refine lv_iload_n hx hb dJ6_bitCount_0f7a4_0 rfl (lv_at hl 0 rfl) ?_
  refine lv_iload_n hx hb dJ6_bitCount_0f7a4_1 rfl (lv_at hl 0 rfl) ?_
  refine lv_iconst (v := 1) hx hb dJ6_bitCount_0f7a4_2 (by decide +kernel) ?_
  refine lv_iushr hx hb dJ6_bitCount_0f7a4_3 rfl ?_
  refine lv_ldcw (v := 1431655765) hx hb hown (hts _ (List.mem_of_getElem? (i := 1) rfl)) dJ6_bitCount_0f7a4_4 ?_
  refine lv_iand hx hb dJ6_bitCount_0f7a4_7 ?_
  refine lv_isub hx hb dJ6_bitCount_0f7a4_8 ?_
  refine lv_topi (fun x9 ex9 => ?_)
  refine lv_istore_n (lv' := [(0, .int x9)]) hx hb dJ6_bitCount_0f7a4_9 rfl hl (by decide) rfl (fun ls hl => ?_)
  refine lv_iload_n hx hb dJ6_bitCount_0f7a4_10 rfl (lv_at hl 0 rfl) ?_
  refine lv_ldcw (v := 858993459) hx hb hown (hts _ (List.mem_of_getElem? (i := 2) rfl)) dJ6_bitCount_0f7a4_11 ?_
  refine lv_iand hx hb dJ6_bitCount_0f7a4_14 ?_
  refine lv_iload_n hx hb dJ6_bitCount_0f7a4_15 rfl (lv_at hl 0 rfl) ?_
  refine lv_iconst (v := 2) hx hb dJ6_bitCount_0f7a4_16 (by decide +kernel) ?_
  refine lv_iushr hx hb dJ6_bitCount_0f7a4_17 rfl ?_
  refine lv_ldcw (v := 858993459) hx hb hown (hts _ (List.mem_of_getElem? (i := 2) rfl)) dJ6_bitCount_0f7a4_18 ?_
  refine lv_iand hx hb dJ6_bitCount_0f7a4_21 ?_
  refine lv_iadd hx hb dJ6_bitCount_0f7a4_22 ?_
  refine lv_topi (fun x23 ex23 => ?_)
  refine lv_istore_n (lv' := [(0, .int x23)]) hx hb dJ6_bitCount_0f7a4_23 rfl hl (by decide) rfl (fun ls hl => ?_)
  refine lv_iload_n hx hb dJ6_bitCount_0f7a4_24 rfl (lv_at hl 0 rfl) ?_
  refine lv_iload_n hx hb dJ6_bitCount_0f7a4_25 rfl (lv_at hl 0 rfl) ?_
  refine lv_iconst (v := 4) hx hb dJ6_bitCount_0f7a4_26 (by decide +kernel) ?_
  refine lv_iushr hx hb dJ6_bitCount_0f7a4_27 rfl ?_
  refine lv_iadd hx hb dJ6_bitCount_0f7a4_28 ?_
  refine lv_ldcw (v := 252645135) hx hb hown (hts _ (List.mem_of_getElem? (i := 3) rfl)) dJ6_bitCount_0f7a4_29 ?_
  refine lv_iand hx hb dJ6_bitCount_0f7a4_32 ?_
  refine lv_topi (fun x33 ex33 => ?_)
  refine lv_istore_n (lv' := [(0, .int x33)]) hx hb dJ6_bitCount_0f7a4_33 rfl hl (by decide) rfl (fun ls hl => ?_)
  refine lv_iload_n hx hb dJ6_bitCount_0f7a4_34 rfl (lv_at hl 0 rfl) ?_
  refine lv_iload_n hx hb dJ6_bitCount_0f7a4_35 rfl (lv_at hl 0 rfl) ?_
  refine lv_bipush (v := 8) hx hb dJ6_bitCount_0f7a4_36 (by decide +kernel) ?_
  refine lv_iushr hx hb dJ6_bitCount_0f7a4_38 rfl ?_
  refine lv_iadd hx hb dJ6_bitCount_0f7a4_39 ?_
  refine lv_topi (fun x40 ex40 => ?_)
  refine lv_istore_n (lv' := [(0, .int x40)]) hx hb dJ6_bitCount_0f7a4_40 rfl hl (by decide) rfl (fun ls hl => ?_)
  refine lv_iload_n hx hb dJ6_bitCount_0f7a4_41 rfl (lv_at hl 0 rfl) ?_
  refine lv_iload_n hx hb dJ6_bitCount_0f7a4_42 rfl (lv_at hl 0 rfl) ?_
  refine lv_bipush (v := 16) hx hb dJ6_bitCount_0f7a4_43 (by decide +kernel) ?_
  refine lv_iushr hx hb dJ6_bitCount_0f7a4_45 rfl ?_
  refine lv_iadd hx hb dJ6_bitCount_0f7a4_46 ?_
  refine lv_topi (fun x47 ex47 => ?_)
  refine lv_istore_n (lv' := [(0, .int x47)]) hx hb dJ6_bitCount_0f7a4_47 rfl hl (by decide) rfl (fun ls hl => ?_)
  refine lv_iload_n hx hb dJ6_bitCount_0f7a4_48 rfl (lv_at hl 0 rfl) ?_
  refine lv_bipush (v := 63) hx hb dJ6_bitCount_0f7a4_49 (by decide +kernel) ?_
  refine lv_iand hx hb dJ6_bitCount_0f7a4_51 ?_
  refine x_iret hx hb hr hlocks hP hS dJ6_bitCount_0f7a4_52 ?_
  subst ex9; subst ex23; subst ex33; subst ex40; subst ex47
  exact ⟨rfl, rfl⟩

set_option maxHeartbeats 4000000 in
set_option maxRecDepth 100000 in
theorem c5_ofSon (hI : xI 42 ad) (S : xSt) (N : Nat) (hN : S 12 2 = nI N) (hN5 : N ≤ 5) (sn wn : Int32) : xMi l yX5_ofSon wsX5_ofSon ({ frames := 1, cells := 0, slots := 0, locals := 21 }) (dC, dI) vwCl (tyl cI cZ cS cG) (cLy cI cZ cS cG ad) 42 ad [.ref (ad 0), .int sn, .int wn] S (fun r S' => r = (if inR sn (S 12 2) then (if wn = 0 then S 18 (nN sn) else if wn = 1 then S 19 (nN sn) else if wn = 2 then S 20 (nN sn) else if wn = 3 then S 21 (nN sn) else if wn = 4 then (if ¬ 6 ≤ S 34 (nN sn) then S 33 (nN sn) else -9) else if wn = 5 then (if ¬ 6 ≤ S 34 (nN sn) then S 34 (nN sn) else -9) else -2) else -1) ∧ S' = S) := by
  refine xM_of (cc := cX5_ofSon) (nL := 3) (ret := (some .int)) (by decide) rfl (Nat.le_of_ble_eq_true rfl) ?_
  intro p e s m below meth c ls B hl hK hP
  obtain ⟨hx, hb, hml, hown, hts, hr, hlocks⟩ := B
  have hl : lv_has ls 3 [(0, .ref (ad 0)), (1, .int sn), (2, .int wn)] := hl
  have hS : va_S (xA 42 ad) s.heap s.heap [] := va_S.rf
  have hAd : ∀ k, k < 42 → xA 42 ad (ad k) := xA_in
  have hinX1 : ∀ w ∈ wsX10, w ∈ wsX5_ofSon := fun _ h => List.mem_cons_of_mem _ (List.mem_append_right _ h)
  have hinX4 : ∀ w ∈ wsX40, w ∈ wsX5_ofSon := fun _ h => List.mem_cons_of_mem _ (List.mem_append_left _ (List.mem_append_right _ h))
  have hinX5 : ∀ w ∈ wsX50, w ∈ wsX5_ofSon := fun _ h => List.mem_cons_of_mem _ (List.mem_append_left _ (List.mem_append_left _ (List.mem_append_right _ h)))
  have hF : CallFix p m c cX5_ofSon 3 s _ wsX5_ofSon RX5 := ⟨hx, hb, hml, hown, hts⟩
  refine lv_aload_n hx hb dX5_ofSon_0 rfl (lv_at hl 0 rfl) ?_
  refine lv_iload_n hx hb dX5_ofSon_1 rfl (lv_at hl 1 rfl) ?_
  refine x_calli (x_runV (As := [.int sn]) (rest := []) hF (c5_isSon hI S sn ) (cwV 1 hts gX5_ofSon_X5_isSon rfl rfl rfl (by decide +kernel) ⟨Nat.le_of_ble_eq_true rfl, Nat.le_of_ble_eq_true rfl⟩) hK hP (by decide) rfl rfl rfl hl.1 rfl (Nat.le_of_ble_eq_true rfl) dX5_ofSon_2 ⟨Nat.zero_le _, Nat.zero_le _⟩) hS hAd (fun r2 S2 H locs hw hP _ hS => ?_)
  obtain ⟨hw, eS2⟩ := hw
  rw [eS2] at hP
  by_cases q2 : inR sn (S 12 2) = true
  · have hw : r2 = 1 := hw.trans (if_pos q2)
    subst hw
    obtain ⟨j2, hj2, rfl⟩ : ∃ j, j < N ∧ sn = nI j := inR_ex (by rw [← hN]; exact q2) (by omega)
    have en2 : nN (nI j2) = j2 := nN_nI (by omega)
    refine lv_if_ne (tgt := 10) hx hb dX5_ofSon_5 (by decide) (fun _ => ?_) (fun hc => absurd hc (by decide))
    refine lv_iload_n hx hb dX5_ofSon_10 rfl (lv_at hl 2 rfl) ?_
    by_cases z11_0 : wn = 0
    · refine W.eq (g2 := F0 m 11 ls (.int 0 :: [])) (by rw [z11_0]) ?_
      refine lv_tableIn (tgt := 48) (off := 37) hx hb dX5_ofSon_11 (by decide +kernel) (by decide +kernel) (by decide +kernel) (by decide) ?_
      refine lv_aload_n hx hb dX5_ofSon_48 rfl (lv_at hl 0 rfl) ?_
      refine x_get (v := .ref (ad 12)) hx hb hts hinX5 hown hK hP 0 (by decide) rfl rfl 2 (by decide) (hts _ (List.mem_of_getElem? (i := 1) rfl)) rfl dX5_ofSon_49 ?_
      refine x_get (v := .ref (ad 18)) hx hb hts hinX4 hown hK hP 12 (by decide) rfl rfl 4 (by decide) (hts _ (List.mem_of_getElem? (i := 2) rfl)) rfl dX5_ofSon_52 ?_
      refine lv_iload_n hx hb dX5_ofSon_55 rfl (lv_at hl 1 rfl) ?_
      refine x_iald (v := S 18 j2) hx hb hK hP 18 0 (by decide) rfl rfl j2 rfl (by omega) (by decide) rfl dX5_ofSon_56 ?_
      refine x_iret hx hb hr hlocks hP hS dX5_ofSon_57 ?_
      skip
      exact ⟨by first | (simp [q2, en2, z11_0]; done) | grind, rfl⟩
    · skip
      by_cases z11_1 : wn = 1
      · refine W.eq (g2 := F0 m 11 ls (.int 1 :: [])) (by rw [z11_1]) ?_
        refine lv_tableIn (tgt := 58) (off := 47) hx hb dX5_ofSon_11 (by decide +kernel) (by decide +kernel) (by decide +kernel) (by decide) ?_
        refine lv_aload_n hx hb dX5_ofSon_58 rfl (lv_at hl 0 rfl) ?_
        refine x_get (v := .ref (ad 12)) hx hb hts hinX5 hown hK hP 0 (by decide) rfl rfl 2 (by decide) (hts _ (List.mem_of_getElem? (i := 1) rfl)) rfl dX5_ofSon_59 ?_
        refine x_get (v := .ref (ad 19)) hx hb hts hinX4 hown hK hP 12 (by decide) rfl rfl 5 (by decide) (hts _ (List.mem_of_getElem? (i := 3) rfl)) rfl dX5_ofSon_62 ?_
        refine lv_iload_n hx hb dX5_ofSon_65 rfl (lv_at hl 1 rfl) ?_
        refine x_iald (v := S 19 j2) hx hb hK hP 19 0 (by decide) rfl rfl j2 rfl (by omega) (by decide) rfl dX5_ofSon_66 ?_
        refine x_iret hx hb hr hlocks hP hS dX5_ofSon_67 ?_
        skip
        exact ⟨by first | (simp [q2, en2, z11_0, z11_1]; done) | grind, rfl⟩
      · skip
        by_cases z11_2 : wn = 2
        · refine W.eq (g2 := F0 m 11 ls (.int 2 :: [])) (by rw [z11_2]) ?_
          refine lv_tableIn (tgt := 68) (off := 57) hx hb dX5_ofSon_11 (by decide +kernel) (by decide +kernel) (by decide +kernel) (by decide) ?_
          refine lv_aload_n hx hb dX5_ofSon_68 rfl (lv_at hl 0 rfl) ?_
          refine x_get (v := .ref (ad 12)) hx hb hts hinX5 hown hK hP 0 (by decide) rfl rfl 2 (by decide) (hts _ (List.mem_of_getElem? (i := 1) rfl)) rfl dX5_ofSon_69 ?_
          refine x_get (v := .ref (ad 20)) hx hb hts hinX4 hown hK hP 12 (by decide) rfl rfl 6 (by decide) (hts _ (List.mem_of_getElem? (i := 4) rfl)) rfl dX5_ofSon_72 ?_
          refine lv_iload_n hx hb dX5_ofSon_75 rfl (lv_at hl 1 rfl) ?_
          refine x_iald (v := S 20 j2) hx hb hK hP 20 0 (by decide) rfl rfl j2 rfl (by omega) (by decide) rfl dX5_ofSon_76 ?_
          refine x_iret hx hb hr hlocks hP hS dX5_ofSon_77 ?_
          skip
          exact ⟨by first | (simp [q2, en2, z11_0, z11_1, z11_2]; done) | grind, rfl⟩
        · skip
          by_cases z11_3 : wn = 3
          · refine W.eq (g2 := F0 m 11 ls (.int 3 :: [])) (by rw [z11_3]) ?_
            refine lv_tableIn (tgt := 78) (off := 67) hx hb dX5_ofSon_11 (by decide +kernel) (by decide +kernel) (by decide +kernel) (by decide) ?_
            refine lv_aload_n hx hb dX5_ofSon_78 rfl (lv_at hl 0 rfl) ?_
            refine x_get (v := .ref (ad 12)) hx hb hts hinX5 hown hK hP 0 (by decide) rfl rfl 2 (by decide) (hts _ (List.mem_of_getElem? (i := 1) rfl)) rfl dX5_ofSon_79 ?_
            refine x_get (v := .ref (ad 21)) hx hb hts hinX4 hown hK hP 12 (by decide) rfl rfl 7 (by decide) (hts _ (List.mem_of_getElem? (i := 5) rfl)) rfl dX5_ofSon_82 ?_
            refine lv_iload_n hx hb dX5_ofSon_85 rfl (lv_at hl 1 rfl) ?_
            refine x_iald (v := S 21 j2) hx hb hK hP 21 0 (by decide) rfl rfl j2 rfl (by omega) (by decide) rfl dX5_ofSon_86 ?_
            refine x_iret hx hb hr hlocks hP hS dX5_ofSon_87 ?_
            skip
            exact ⟨by first | (simp [q2, en2, z11_0, z11_1, z11_2, z11_3]; done) | grind, rfl⟩
          · skip
            by_cases z11_4 : wn = 4
            · refine W.eq (g2 := F0 m 11 ls (.int 4 :: [])) (by rw [z11_4]) ?_
              refine lv_tableIn (tgt := 88) (off := 77) hx hb dX5_ofSon_11 (by decide +kernel) (by decide +kernel) (by decide +kernel) (by decide) ?_
              refine lv_aload_n hx hb dX5_ofSon_88 rfl (lv_at hl 0 rfl) ?_
              refine x_get (v := .ref (ad 32)) hx hb hts hinX5 hown hK hP 0 (by decide) rfl rfl 4 (by decide) (hts _ (List.mem_of_getElem? (i := 6) rfl)) rfl dX5_ofSon_89 ?_
              refine lv_iload_n hx hb dX5_ofSon_92 rfl (lv_at hl 1 rfl) ?_
              refine x_calli (x_runV (As := [.int (nI j2)]) (rest := []) hF (c1_ever hI S 32 (Or.inl rfl) j2 (by omega) ) (cwV 1 hts gX5_ofSon_X1_ever rfl rfl rfl (by decide +kernel) ⟨Nat.le_of_ble_eq_true rfl, Nat.le_of_ble_eq_true rfl⟩) hK hP (by decide) rfl rfl rfl hl.1 rfl (Nat.le_of_ble_eq_true rfl) dX5_ofSon_93 ⟨Nat.zero_le _, Nat.zero_le _⟩) hS hAd (fun r93 S93 H locs hw hP _ hS => ?_)
              obtain ⟨hw, eS93⟩ := hw
              rw [eS93] at hP
              by_cases q93 : ¬ 6 ≤ S 34 j2
              · have hw : r93 = 1 := hw.trans (if_pos q93)
                subst hw
                refine lv_if_eq (tgt := 111) hx hb dX5_ofSon_96 (by decide) (fun hc => absurd hc (by decide)) (fun _ => ?_)
                refine lv_aload_n hx hb dX5_ofSon_99 rfl (lv_at hl 0 rfl) ?_
                refine x_get (v := .ref (ad 32)) hx hb hts hinX5 hown hK hP 0 (by decide) rfl rfl 4 (by decide) (hts _ (List.mem_of_getElem? (i := 6) rfl)) rfl dX5_ofSon_100 ?_
                refine x_get (v := .ref (ad 33)) hx hb hts hinX1 hown hK hP 32 (by decide) rfl rfl 0 (by decide) (hts _ (List.mem_of_getElem? (i := 7) rfl)) rfl dX5_ofSon_103 ?_
                refine lv_iload_n hx hb dX5_ofSon_106 rfl (lv_at hl 1 rfl) ?_
                refine x_iald (v := S 33 j2) hx hb hK hP 33 0 (by decide) rfl rfl j2 rfl (by omega) (by decide) rfl dX5_ofSon_107 ?_
                refine lv_goto (tgt := 113) hx hb dX5_ofSon_108 (by decide) ?_
                refine x_iret hx hb hr hlocks hP hS dX5_ofSon_113 ?_
                skip
                exact ⟨by first | (simp [q2, en2, z11_0, z11_1, z11_2, z11_3, z11_4, q93]; done) | grind, rfl⟩
              · have hw : r93 = 0 := hw.trans (if_neg q93)
                subst hw
                refine lv_if_eq (tgt := 111) hx hb dX5_ofSon_96 (by decide) (fun _ => ?_) (fun hc => absurd (by decide) hc)
                refine lv_bipush (v := (-9)) hx hb dX5_ofSon_111 (by decide +kernel) ?_
                refine x_iret hx hb hr hlocks hP hS dX5_ofSon_113 ?_
                skip
                exact ⟨by first | (simp [q2, en2, z11_0, z11_1, z11_2, z11_3, z11_4, q93]; done) | grind, rfl⟩
            · skip
              by_cases z11_5 : wn = 5
              · refine W.eq (g2 := F0 m 11 ls (.int 5 :: [])) (by rw [z11_5]) ?_
                refine lv_tableIn (tgt := 114) (off := 103) hx hb dX5_ofSon_11 (by decide +kernel) (by decide +kernel) (by decide +kernel) (by decide) ?_
                refine lv_aload_n hx hb dX5_ofSon_114 rfl (lv_at hl 0 rfl) ?_
                refine x_get (v := .ref (ad 32)) hx hb hts hinX5 hown hK hP 0 (by decide) rfl rfl 4 (by decide) (hts _ (List.mem_of_getElem? (i := 6) rfl)) rfl dX5_ofSon_115 ?_
                refine lv_iload_n hx hb dX5_ofSon_118 rfl (lv_at hl 1 rfl) ?_
                refine x_calli (x_runV (As := [.int (nI j2)]) (rest := []) hF (c1_ever hI S 32 (Or.inl rfl) j2 (by omega) ) (cwV 1 hts gX5_ofSon_X1_ever rfl rfl rfl (by decide +kernel) ⟨Nat.le_of_ble_eq_true rfl, Nat.le_of_ble_eq_true rfl⟩) hK hP (by decide) rfl rfl rfl hl.1 rfl (Nat.le_of_ble_eq_true rfl) dX5_ofSon_119 ⟨Nat.zero_le _, Nat.zero_le _⟩) hS hAd (fun r119 S119 H locs hw hP _ hS => ?_)
                obtain ⟨hw, eS119⟩ := hw
                rw [eS119] at hP
                by_cases q119 : ¬ 6 ≤ S 34 j2
                · have hw : r119 = 1 := hw.trans (if_pos q119)
                  subst hw
                  refine lv_if_eq (tgt := 137) hx hb dX5_ofSon_122 (by decide) (fun hc => absurd hc (by decide)) (fun _ => ?_)
                  refine lv_aload_n hx hb dX5_ofSon_125 rfl (lv_at hl 0 rfl) ?_
                  refine x_get (v := .ref (ad 32)) hx hb hts hinX5 hown hK hP 0 (by decide) rfl rfl 4 (by decide) (hts _ (List.mem_of_getElem? (i := 6) rfl)) rfl dX5_ofSon_126 ?_
                  refine x_get (v := .ref (ad 34)) hx hb hts hinX1 hown hK hP 32 (by decide) rfl rfl 1 (by decide) (hts _ (List.mem_of_getElem? (i := 8) rfl)) rfl dX5_ofSon_129 ?_
                  refine lv_iload_n hx hb dX5_ofSon_132 rfl (lv_at hl 1 rfl) ?_
                  refine x_iald (v := S 34 j2) hx hb hK hP 34 0 (by decide) rfl rfl j2 rfl (by omega) (by decide) rfl dX5_ofSon_133 ?_
                  refine lv_goto (tgt := 139) hx hb dX5_ofSon_134 (by decide) ?_
                  refine x_iret hx hb hr hlocks hP hS dX5_ofSon_139 ?_
                  skip
                  exact ⟨by first | (simp [q2, en2, z11_0, z11_1, z11_2, z11_3, z11_4, z11_5, q119]; done) | grind, rfl⟩
                · have hw : r119 = 0 := hw.trans (if_neg q119)
                  subst hw
                  refine lv_if_eq (tgt := 137) hx hb dX5_ofSon_122 (by decide) (fun _ => ?_) (fun hc => absurd (by decide) hc)
                  refine lv_bipush (v := (-9)) hx hb dX5_ofSon_137 (by decide +kernel) ?_
                  refine x_iret hx hb hr hlocks hP hS dX5_ofSon_139 ?_
                  skip
                  exact ⟨by first | (simp [q2, en2, z11_0, z11_1, z11_2, z11_3, z11_4, z11_5, q119]; done) | grind, rfl⟩
              · skip
                refine lv_tableOut (tgt := 140) hx hb dX5_ofSon_11 (outT0_5 z11_0 z11_1 z11_2 z11_3 z11_4 z11_5) (by decide) ?_
                refine lv_bipush (v := (-2)) hx hb dX5_ofSon_140 (by decide +kernel) ?_
                refine x_iret hx hb hr hlocks hP hS dX5_ofSon_142 ?_
                skip
                exact ⟨by first | (simp [q2, en2, z11_0, z11_1, z11_2, z11_3, z11_4, z11_5]; done) | grind, rfl⟩
  · have hw : r2 = 0 := hw.trans (if_neg q2)
    subst hw
    refine lv_if_ne (tgt := 10) hx hb dX5_ofSon_5 (by decide) (fun hc => absurd (by decide) hc) (fun _ => ?_)
    refine lv_iconst (v := (-1)) hx hb dX5_ofSon_8 (by decide +kernel) ?_
    refine x_iret hx hb hr hlocks hP hS dX5_ofSon_9 ?_
    skip
    exact ⟨by first | (simp [q2]; done) | grind, rfl⟩

set_option maxHeartbeats 4000000 in
set_option maxRecDepth 100000 in
theorem c5_gain (hI : xI 42 ad) (S : xSt) (C : Nat) (hC : S 12 0 = nI C) (hC4 : C ≤ 4) (Y : Nat) (hY : S 12 1 = nI Y) (hY6 : Y ≤ 6) (cn yn : Int32) : xMi l yX5_gain wsX5_gain ({ frames := 1, cells := 0, slots := 0, locals := 21 }) (dC, dI) vwCl (tyl cI cZ cS cG) (cLy cI cZ cS cG ad) 42 ad [.ref (ad 0), .int cn, .int yn] S (fun r S' => r = (if inR cn (S 12 0) then (if inR yn (S 12 1) then S (14 + nN cn) (nN yn) else -2) else -1) ∧ S' = S) := by
  refine xM_of (cc := cX5_gain) (nL := 3) (ret := (some .int)) (by decide) rfl (Nat.le_of_ble_eq_true rfl) ?_
  intro p e s m below meth c ls B hl hK hP
  obtain ⟨hx, hb, hml, hown, hts, hr, hlocks⟩ := B
  have hl : lv_has ls 3 [(0, .ref (ad 0)), (1, .int cn), (2, .int yn)] := hl
  have hS : va_S (xA 42 ad) s.heap s.heap [] := va_S.rf
  have hAd : ∀ k, k < 42 → xA 42 ad (ad k) := xA_in
  have hinX4 : ∀ w ∈ wsX40, w ∈ wsX5_gain := fun _ h => List.mem_cons_of_mem _ (List.mem_append_right _ h)
  have hinX5 : ∀ w ∈ wsX50, w ∈ wsX5_gain := fun _ h => List.mem_cons_of_mem _ (List.mem_append_left _ (List.mem_append_right _ h))
  have hF : CallFix p m c cX5_gain 3 s _ wsX5_gain RX5 := ⟨hx, hb, hml, hown, hts⟩
  refine lv_aload_n hx hb dX5_gain_0 rfl (lv_at hl 0 rfl) ?_
  refine lv_iload_n hx hb dX5_gain_1 rfl (lv_at hl 1 rfl) ?_
  refine x_calli (x_runV (As := [.int cn]) (rest := []) hF (c5_isCourt hI S cn ) (cwV 1 hts gX5_gain_X5_isCourt rfl rfl rfl (by decide +kernel) ⟨Nat.le_of_ble_eq_true rfl, Nat.le_of_ble_eq_true rfl⟩) hK hP (by decide) rfl rfl rfl hl.1 rfl (Nat.le_of_ble_eq_true rfl) dX5_gain_2 ⟨Nat.zero_le _, Nat.zero_le _⟩) hS hAd (fun r2 S2 H locs hw hP _ hS => ?_)
  obtain ⟨hw, eS2⟩ := hw
  rw [eS2] at hP
  by_cases q2 : inR cn (S 12 0) = true
  · have hw : r2 = 1 := hw.trans (if_pos q2)
    subst hw
    obtain ⟨j2, hj2, rfl⟩ : ∃ j, j < C ∧ cn = nI j := inR_ex (by rw [← hC]; exact q2) (by omega)
    have en2 : nN (nI j2) = j2 := nN_nI (by omega)
    refine lv_if_ne (tgt := 10) hx hb dX5_gain_5 (by decide) (fun _ => ?_) (fun hc => absurd hc (by decide))
    refine lv_aload_n hx hb dX5_gain_10 rfl (lv_at hl 0 rfl) ?_
    refine lv_iload_n hx hb dX5_gain_11 rfl (lv_at hl 2 rfl) ?_
    refine x_calli (x_runV (As := [.int yn]) (rest := []) hF (c5_isYear hI S yn ) (cwV 1 hts gX5_gain_X5_isYear rfl rfl rfl (by decide +kernel) ⟨Nat.le_of_ble_eq_true rfl, Nat.le_of_ble_eq_true rfl⟩) hK hP (by decide) rfl rfl rfl hl.1 rfl (Nat.le_of_ble_eq_true rfl) dX5_gain_12 ⟨Nat.zero_le _, Nat.zero_le _⟩) hS hAd (fun r12 S12 H locs hw hP _ hS => ?_)
    obtain ⟨hw, eS12⟩ := hw
    rw [eS12] at hP
    by_cases q12 : inR yn (S 12 1) = true
    · have hw : r12 = 1 := hw.trans (if_pos q12)
      subst hw
      obtain ⟨j12, hj12, rfl⟩ : ∃ j, j < Y ∧ yn = nI j := inR_ex (by rw [← hY]; exact q12) (by omega)
      have en12 : nN (nI j12) = j12 := nN_nI (by omega)
      refine lv_if_ne (tgt := 21) hx hb dX5_gain_15 (by decide) (fun _ => ?_) (fun hc => absurd hc (by decide))
      refine lv_aload_n hx hb dX5_gain_21 rfl (lv_at hl 0 rfl) ?_
      refine x_get (v := .ref (ad 12)) hx hb hts hinX5 hown hK hP 0 (by decide) rfl rfl 2 (by decide) (hts _ (List.mem_of_getElem? (i := 1) rfl)) rfl dX5_gain_22 ?_
      refine x_get (v := .ref (ad 13)) hx hb hts hinX4 hown hK hP 12 (by decide) rfl rfl 3 (by decide) (hts _ (List.mem_of_getElem? (i := 2) rfl)) rfl dX5_gain_25 ?_
      refine lv_iload_n hx hb dX5_gain_28 rfl (lv_at hl 1 rfl) ?_
      refine x_aald (v := .ref (ad (14 + j2))) hx hb hK hP 13 3 (by decide) rfl rfl rfl j2 rfl (by omega) (by decide) (if_pos_rf (by omega)) dX5_gain_29 ?_
      refine lv_iload_n hx hb dX5_gain_30 rfl (lv_at hl 2 rfl) ?_
      refine x_iald (v := S (14 + j2) j12) hx hb hK hP (14 + j2) 0 (by omega) (cLy_gain14 (by omega) _) rfl j12 rfl (by omega) (by decide) rfl dX5_gain_31 ?_
      refine x_iret hx hb hr hlocks hP hS dX5_gain_32 ?_
      skip
      exact ⟨by first | (simp [q2, en2, q12, en12]; done) | grind, rfl⟩
    · have hw : r12 = 0 := hw.trans (if_neg q12)
      subst hw
      refine lv_if_ne (tgt := 21) hx hb dX5_gain_15 (by decide) (fun hc => absurd (by decide) hc) (fun _ => ?_)
      refine lv_bipush (v := (-2)) hx hb dX5_gain_18 (by decide +kernel) ?_
      refine x_iret hx hb hr hlocks hP hS dX5_gain_20 ?_
      skip
      exact ⟨by first | (simp [q2, en2, q12]; done) | grind, rfl⟩
  · have hw : r2 = 0 := hw.trans (if_neg q2)
    subst hw
    refine lv_if_ne (tgt := 10) hx hb dX5_gain_5 (by decide) (fun hc => absurd (by decide) hc) (fun _ => ?_)
    refine lv_iconst (v := (-1)) hx hb dX5_gain_8 (by decide +kernel) ?_
    refine x_iret hx hb hr hlocks hP hS dX5_gain_9 ?_
    skip
    exact ⟨by first | (simp [q2]; done) | grind, rfl⟩

set_option maxHeartbeats 4000000 in
set_option maxRecDepth 100000 in
theorem c5_tempt (hI : xI 42 ad) (S : xSt) (C : Nat) (hC : S 12 0 = nI C) (hC4 : C ≤ 4) (Y : Nat) (hY : S 12 1 = nI Y) (hY6 : Y ≤ 6) (cn yn v : Int32) : xMi l yX5_tempt wsX5_tempt ({ frames := 1, cells := 0, slots := 0, locals := 21 }) (dC, dI) vwCl (tyl cI cZ cS cG) (cLy cI cZ cS cG ad) 42 ad [.ref (ad 0), .int cn, .int yn, .int v] S (fun r S' => r = (if inR cn (S 12 0) then (if inR yn (S 12 1) then (if wit v 0 9 then S (14 + nN cn) (nN yn) else -2) else -2) else -1) ∧ S' = (if inR cn (S 12 0) ∧ inR yn (S 12 1) ∧ wit v 0 9 then su S (14 + nN cn) (nN yn) v else S)) := by
  refine xM_of (cc := cX5_tempt) (nL := 5) (ret := (some .int)) (by decide) rfl (Nat.le_of_ble_eq_true rfl) ?_
  intro p e s m below meth c ls B hl hK hP
  obtain ⟨hx, hb, hml, hown, hts, hr, hlocks⟩ := B
  have hl : lv_has ls 5 [(0, .ref (ad 0)), (1, .int cn), (2, .int yn), (3, .int v)] := hl
  have hS : va_S (xA 42 ad) s.heap s.heap [] := va_S.rf
  have hAd : ∀ k, k < 42 → xA 42 ad (ad k) := xA_in
  have hinX4 : ∀ w ∈ wsX40, w ∈ wsX5_tempt := fun _ h => List.mem_cons_of_mem _ (List.mem_append_right _ h)
  have hinX5 : ∀ w ∈ wsX50, w ∈ wsX5_tempt := fun _ h => List.mem_cons_of_mem _ (List.mem_append_left _ (List.mem_append_right _ h))
  have hF : CallFix p m c cX5_tempt 5 s _ wsX5_tempt RX5 := ⟨hx, hb, hml, hown, hts⟩
  refine lv_aload_n hx hb dX5_tempt_0 rfl (lv_at hl 0 rfl) ?_
  refine lv_iload_n hx hb dX5_tempt_1 rfl (lv_at hl 1 rfl) ?_
  refine x_calli (x_runV (As := [.int cn]) (rest := []) hF (c5_isCourt hI S cn ) (cwV 1 hts gX5_tempt_X5_isCourt rfl rfl rfl (by decide +kernel) ⟨Nat.le_of_ble_eq_true rfl, Nat.le_of_ble_eq_true rfl⟩) hK hP (by decide) rfl rfl rfl hl.1 rfl (Nat.le_of_ble_eq_true rfl) dX5_tempt_2 ⟨Nat.zero_le _, Nat.zero_le _⟩) hS hAd (fun r2 S2 H locs hw hP _ hS => ?_)
  obtain ⟨hw, eS2⟩ := hw
  rw [eS2] at hP
  by_cases q2 : inR cn (S 12 0) = true
  · have hw : r2 = 1 := hw.trans (if_pos q2)
    subst hw
    obtain ⟨j2, hj2, rfl⟩ : ∃ j, j < C ∧ cn = nI j := inR_ex (by rw [← hC]; exact q2) (by omega)
    have en2 : nN (nI j2) = j2 := nN_nI (by omega)
    refine lv_if_ne (tgt := 10) hx hb dX5_tempt_5 (by decide) (fun _ => ?_) (fun hc => absurd hc (by decide))
    refine lv_aload_n hx hb dX5_tempt_10 rfl (lv_at hl 0 rfl) ?_
    refine lv_iload_n hx hb dX5_tempt_11 rfl (lv_at hl 2 rfl) ?_
    refine x_calli (x_runV (As := [.int yn]) (rest := []) hF (c5_isYear hI S yn ) (cwV 1 hts gX5_tempt_X5_isYear rfl rfl rfl (by decide +kernel) ⟨Nat.le_of_ble_eq_true rfl, Nat.le_of_ble_eq_true rfl⟩) hK hP (by decide) rfl rfl rfl hl.1 rfl (Nat.le_of_ble_eq_true rfl) dX5_tempt_12 ⟨Nat.zero_le _, Nat.zero_le _⟩) hS hAd (fun r12 S12 H locs hw hP _ hS => ?_)
    obtain ⟨hw, eS12⟩ := hw
    rw [eS12] at hP
    by_cases q12 : inR yn (S 12 1) = true
    · have hw : r12 = 1 := hw.trans (if_pos q12)
      subst hw
      obtain ⟨j12, hj12, rfl⟩ : ∃ j, j < Y ∧ yn = nI j := inR_ex (by rw [← hY]; exact q12) (by omega)
      have en12 : nN (nI j12) = j12 := nN_nI (by omega)
      refine lv_if_eq (tgt := 28) hx hb dX5_tempt_15 (by decide) (fun hc => absurd hc (by decide)) (fun _ => ?_)
      refine lv_iload_n hx hb dX5_tempt_18 rfl (lv_at hl 3 rfl) ?_
      refine lv_if_lt (tgt := 28) hx hb dX5_tempt_19 (by decide) (fun c19 => ?_) (fun c19 => ?_)
      · have d19 := Int32.not_le.mpr c19
        refine lv_bipush (v := (-2)) hx hb dX5_tempt_28 (by decide +kernel) ?_
        refine x_iret hx hb hr hlocks hP hS dX5_tempt_30 ?_
        skip
        exact ⟨by simp [wit, q2, en2, q12, en12, c19, d19], by simp [wit, q2, en2, q12, en12, c19, d19]⟩
      · have d19 := Int32.not_lt.mp c19
        refine lv_iload_n hx hb dX5_tempt_22 rfl (lv_at hl 3 rfl) ?_
        refine lv_bipush (v := 9) hx hb dX5_tempt_23 (by decide +kernel) ?_
        refine lv_icmp_le (tgt := 31) hx hb dX5_tempt_25 (by decide) (fun c25 => ?_) (fun c25 => ?_)
        · have d25 := Int32.not_lt.mpr c25
          refine lv_aload_n hx hb dX5_tempt_31 rfl (lv_at hl 0 rfl) ?_
          refine x_get (v := .ref (ad 12)) hx hb hts hinX5 hown hK hP 0 (by decide) rfl rfl 2 (by decide) (hts _ (List.mem_of_getElem? (i := 1) rfl)) rfl dX5_tempt_32 ?_
          refine x_get (v := .ref (ad 13)) hx hb hts hinX4 hown hK hP 12 (by decide) rfl rfl 3 (by decide) (hts _ (List.mem_of_getElem? (i := 2) rfl)) rfl dX5_tempt_35 ?_
          refine lv_iload_n hx hb dX5_tempt_38 rfl (lv_at hl 1 rfl) ?_
          refine x_aald (v := .ref (ad (14 + j2))) hx hb hK hP 13 3 (by decide) rfl rfl rfl j2 rfl (by omega) (by decide) (if_pos_rf (by omega)) dX5_tempt_39 ?_
          refine lv_iload_n hx hb dX5_tempt_40 rfl (lv_at hl 2 rfl) ?_
          refine x_iald (v := S (14 + j2) j12) hx hb hK hP (14 + j2) 0 (by omega) (cLy_gain14 (by omega) _) rfl j12 rfl (by omega) (by decide) rfl dX5_tempt_41 ?_
          refine lv_topi (fun x42 ex42 => ?_)
          refine lv_istore (lv' := [(4, .int x42), (0, .ref (ad 0)), (1, .int (nI j2)), (2, .int (nI j12)), (3, .int v)]) hx hb dX5_tempt_42 hl (by decide) rfl (fun ls hl => ?_)
          refine lv_aload_n hx hb dX5_tempt_44 rfl (lv_at hl 1 rfl) ?_
          refine x_get (v := .ref (ad 12)) hx hb hts hinX5 hown hK hP 0 (by decide) rfl rfl 2 (by decide) (hts _ (List.mem_of_getElem? (i := 1) rfl)) rfl dX5_tempt_45 ?_
          refine x_get (v := .ref (ad 13)) hx hb hts hinX4 hown hK hP 12 (by decide) rfl rfl 3 (by decide) (hts _ (List.mem_of_getElem? (i := 2) rfl)) rfl dX5_tempt_48 ?_
          refine lv_iload_n hx hb dX5_tempt_51 rfl (lv_at hl 2 rfl) ?_
          refine x_aald (v := .ref (ad (14 + j2))) hx hb hK hP 13 3 (by decide) rfl rfl rfl j2 rfl (by omega) (by decide) (if_pos_rf (by omega)) dX5_tempt_52 ?_
          refine lv_iload_n hx hb dX5_tempt_53 rfl (lv_at hl 3 rfl) ?_
          refine lv_iload_n hx hb dX5_tempt_54 rfl (lv_at hl 4 rfl) ?_
          refine x_iast hx hb hK hI hAd hP hS (14 + j2) 0 (by omega) (cLy_gain14 (by omega)) rfl j12 rfl (by omega) (by decide) dX5_tempt_55 (fun H locs hP hS => ?_)
          refine lv_iload hx hb dX5_tempt_56 (lv_at hl 0 rfl) ?_
          refine x_iret hx hb hr hlocks hP hS dX5_tempt_58 ?_
          subst ex42
          exact ⟨by simp [wit, q2, en2, q12, en12, c19, d19, c25, d25], by simp [wit, q2, en2, q12, en12, c19, d19, c25, d25]⟩
        · have d25 := Int32.not_le.mp c25
          refine lv_bipush (v := (-2)) hx hb dX5_tempt_28 (by decide +kernel) ?_
          refine x_iret hx hb hr hlocks hP hS dX5_tempt_30 ?_
          skip
          exact ⟨by simp [wit, q2, en2, q12, en12, c19, d19, c25, d25], by simp [wit, q2, en2, q12, en12, c19, d19, c25, d25]⟩
    · have hw : r12 = 0 := hw.trans (if_neg q12)
      subst hw
      refine lv_if_eq (tgt := 28) hx hb dX5_tempt_15 (by decide) (fun _ => ?_) (fun hc => absurd (by decide) hc)
      refine lv_bipush (v := (-2)) hx hb dX5_tempt_28 (by decide +kernel) ?_
      refine x_iret hx hb hr hlocks hP hS dX5_tempt_30 ?_
      skip
      exact ⟨by simp [wit, q2, en2, q12], by simp [wit, q2, en2, q12]⟩
  · have hw : r2 = 0 := hw.trans (if_neg q2)
    subst hw
    refine lv_if_ne (tgt := 10) hx hb dX5_tempt_5 (by decide) (fun hc => absurd (by decide) hc) (fun _ => ?_)
    refine lv_iconst (v := (-1)) hx hb dX5_tempt_8 (by decide +kernel) ?_
    refine x_iret hx hb hr hlocks hP hS dX5_tempt_9 ?_
    skip
    exact ⟨by simp [wit, q2], by simp [wit, q2]⟩

set_option maxHeartbeats 4000000 in
set_option maxRecDepth 100000 in
theorem c5_send (hI : xI 42 ad) (S : xSt) (N : Nat) (hN : S 12 2 = nI N) (hN5 : N ≤ 5) (C : Nat) (hC : S 12 0 = nI C) (hC4 : C ≤ 4) (Y : Nat) (hY : S 12 1 = nI Y) (hY6 : Y ≤ 6) (sn cn yn : Int32) : xMi l yX5_send wsX5_send ({ frames := 1, cells := 0, slots := 0, locals := 21 }) (dC, dI) vwCl (tyl cI cZ cS cG) (cLy cI cZ cS cG ad) 42 ad [.ref (ad 0), .int sn, .int cn, .int yn] S (fun r S' => r = (if inR sn (S 12 2) ∧ inR cn (S 12 0) then (if inR yn (S 12 1) then (if cn = S 19 (nN sn) then -3 else if ¬ 6 ≤ S 34 (nN sn) then (if S 33 (nN sn) = cn ∧ S 34 (nN sn) = yn then 1 else 0) else 1) else -2) else -1) ∧ S' = (if inR sn (S 12 2) ∧ inR cn (S 12 0) ∧ inR yn (S 12 1) ∧ ¬ cn = S 19 (nN sn) then su (su S 33 (nN sn) cn) 34 (nN sn) yn else S)) := by
  refine xM_of (cc := cX5_send) (nL := 5) (ret := (some .int)) (by decide) rfl (Nat.le_of_ble_eq_true rfl) ?_
  intro p e s m below meth c ls B hl hK hP
  obtain ⟨hx, hb, hml, hown, hts, hr, hlocks⟩ := B
  have hl : lv_has ls 5 [(0, .ref (ad 0)), (1, .int sn), (2, .int cn), (3, .int yn)] := hl
  have hS : va_S (xA 42 ad) s.heap s.heap [] := va_S.rf
  have hAd : ∀ k, k < 42 → xA 42 ad (ad k) := xA_in
  have hinX1 : ∀ w ∈ wsX10, w ∈ wsX5_send := fun _ h => List.mem_cons_of_mem _ (List.mem_append_right _ h)
  have hinX4 : ∀ w ∈ wsX40, w ∈ wsX5_send := fun _ h => List.mem_cons_of_mem _ (List.mem_append_left _ (List.mem_append_right _ h))
  have hinX5 : ∀ w ∈ wsX50, w ∈ wsX5_send := fun _ h => List.mem_cons_of_mem _ (List.mem_append_left _ (List.mem_append_left _ (List.mem_append_right _ h)))
  have hF : CallFix p m c cX5_send 5 s _ wsX5_send RX5 := ⟨hx, hb, hml, hown, hts⟩
  refine lv_aload_n hx hb dX5_send_0 rfl (lv_at hl 0 rfl) ?_
  refine lv_iload_n hx hb dX5_send_1 rfl (lv_at hl 1 rfl) ?_
  refine x_calli (x_runV (As := [.int sn]) (rest := []) hF (c5_isSon hI S sn ) (cwV 1 hts gX5_send_X5_isSon rfl rfl rfl (by decide +kernel) ⟨Nat.le_of_ble_eq_true rfl, Nat.le_of_ble_eq_true rfl⟩) hK hP (by decide) rfl rfl rfl hl.1 rfl (Nat.le_of_ble_eq_true rfl) dX5_send_2 ⟨Nat.zero_le _, Nat.zero_le _⟩) hS hAd (fun r2 S2 H locs hw hP _ hS => ?_)
  obtain ⟨hw, eS2⟩ := hw
  rw [eS2] at hP
  by_cases q2 : inR sn (S 12 2) = true
  · have hw : r2 = 1 := hw.trans (if_pos q2)
    subst hw
    obtain ⟨j2, hj2, rfl⟩ : ∃ j, j < N ∧ sn = nI j := inR_ex (by rw [← hN]; exact q2) (by omega)
    have en2 : nN (nI j2) = j2 := nN_nI (by omega)
    refine lv_if_eq (tgt := 16) hx hb dX5_send_5 (by decide) (fun hc => absurd hc (by decide)) (fun _ => ?_)
    refine lv_aload_n hx hb dX5_send_8 rfl (lv_at hl 0 rfl) ?_
    refine lv_iload_n hx hb dX5_send_9 rfl (lv_at hl 2 rfl) ?_
    refine x_calli (x_runV (As := [.int cn]) (rest := []) hF (c5_isCourt hI S cn ) (cwV 1 hts gX5_send_X5_isCourt rfl rfl rfl (by decide +kernel) ⟨Nat.le_of_ble_eq_true rfl, Nat.le_of_ble_eq_true rfl⟩) hK hP (by decide) rfl rfl rfl hl.1 rfl (Nat.le_of_ble_eq_true rfl) dX5_send_10 ⟨Nat.zero_le _, Nat.zero_le _⟩) hS hAd (fun r10 S10 H locs hw hP _ hS => ?_)
    obtain ⟨hw, eS10⟩ := hw
    rw [eS10] at hP
    by_cases q10 : inR cn (S 12 0) = true
    · have hw : r10 = 1 := hw.trans (if_pos q10)
      subst hw
      refine lv_if_ne (tgt := 18) hx hb dX5_send_13 (by decide) (fun _ => ?_) (fun hc => absurd hc (by decide))
      refine lv_aload_n hx hb dX5_send_18 rfl (lv_at hl 0 rfl) ?_
      refine lv_iload_n hx hb dX5_send_19 rfl (lv_at hl 3 rfl) ?_
      refine x_calli (x_runV (As := [.int yn]) (rest := []) hF (c5_isYear hI S yn ) (cwV 1 hts gX5_send_X5_isYear rfl rfl rfl (by decide +kernel) ⟨Nat.le_of_ble_eq_true rfl, Nat.le_of_ble_eq_true rfl⟩) hK hP (by decide) rfl rfl rfl hl.1 rfl (Nat.le_of_ble_eq_true rfl) dX5_send_20 ⟨Nat.zero_le _, Nat.zero_le _⟩) hS hAd (fun r20 S20 H locs hw hP _ hS => ?_)
      obtain ⟨hw, eS20⟩ := hw
      rw [eS20] at hP
      by_cases q20 : inR yn (S 12 1) = true
      · have hw : r20 = 1 := hw.trans (if_pos q20)
        subst hw
        refine lv_if_ne (tgt := 29) hx hb dX5_send_23 (by decide) (fun _ => ?_) (fun hc => absurd hc (by decide))
        refine lv_iload_n hx hb dX5_send_29 rfl (lv_at hl 2 rfl) ?_
        refine lv_aload_n hx hb dX5_send_30 rfl (lv_at hl 0 rfl) ?_
        refine x_get (v := .ref (ad 12)) hx hb hts hinX5 hown hK hP 0 (by decide) rfl rfl 2 (by decide) (hts _ (List.mem_of_getElem? (i := 1) rfl)) rfl dX5_send_31 ?_
        refine x_get (v := .ref (ad 19)) hx hb hts hinX4 hown hK hP 12 (by decide) rfl rfl 5 (by decide) (hts _ (List.mem_of_getElem? (i := 2) rfl)) rfl dX5_send_34 ?_
        refine lv_iload_n hx hb dX5_send_37 rfl (lv_at hl 1 rfl) ?_
        refine x_iald (v := S 19 j2) hx hb hK hP 19 0 (by decide) rfl rfl j2 rfl (by omega) (by decide) rfl dX5_send_38 ?_
        refine lv_icmp_ne (tgt := 45) hx hb dX5_send_39 (by decide) (fun c39 => ?_) (fun c39 => ?_)
        · refine lv_aload_n hx hb dX5_send_45 rfl (lv_at hl 0 rfl) ?_
          refine x_get (v := .ref (ad 32)) hx hb hts hinX5 hown hK hP 0 (by decide) rfl rfl 4 (by decide) (hts _ (List.mem_of_getElem? (i := 3) rfl)) rfl dX5_send_46 ?_
          refine lv_iload_n hx hb dX5_send_49 rfl (lv_at hl 1 rfl) ?_
          refine x_calli (x_runV (As := [.int (nI j2)]) (rest := []) hF (c1_ever hI S 32 (Or.inl rfl) j2 (by omega) ) (cwV 1 hts gX5_send_X1_ever rfl rfl rfl (by decide +kernel) ⟨Nat.le_of_ble_eq_true rfl, Nat.le_of_ble_eq_true rfl⟩) hK hP (by decide) rfl rfl rfl hl.1 rfl (Nat.le_of_ble_eq_true rfl) dX5_send_50 ⟨Nat.zero_le _, Nat.zero_le _⟩) hS hAd (fun r50 S50 H locs hw hP _ hS => ?_)
          obtain ⟨hw, eS50⟩ := hw
          rw [eS50] at hP
          by_cases q50 : ¬ 6 ≤ S 34 j2
          · have hw : r50 = 1 := hw.trans (if_pos q50)
            subst hw
            refine lv_if_eq (tgt := 86) hx hb dX5_send_53 (by decide) (fun hc => absurd hc (by decide)) (fun _ => ?_)
            refine lv_aload_n hx hb dX5_send_56 rfl (lv_at hl 0 rfl) ?_
            refine x_get (v := .ref (ad 32)) hx hb hts hinX5 hown hK hP 0 (by decide) rfl rfl 4 (by decide) (hts _ (List.mem_of_getElem? (i := 3) rfl)) rfl dX5_send_57 ?_
            refine x_get (v := .ref (ad 33)) hx hb hts hinX1 hown hK hP 32 (by decide) rfl rfl 0 (by decide) (hts _ (List.mem_of_getElem? (i := 4) rfl)) rfl dX5_send_60 ?_
            refine lv_iload_n hx hb dX5_send_63 rfl (lv_at hl 1 rfl) ?_
            refine x_iald (v := S 33 j2) hx hb hK hP 33 0 (by decide) rfl rfl j2 rfl (by omega) (by decide) rfl dX5_send_64 ?_
            refine lv_iload_n hx hb dX5_send_65 rfl (lv_at hl 2 rfl) ?_
            refine lv_icmp_ne (tgt := 82) hx hb dX5_send_66 (by decide) (fun c66 => ?_) (fun c66 => ?_)
            · refine lv_iconst (v := 1) hx hb dX5_send_82 (by decide +kernel) ?_
              refine lv_goto (tgt := 87) hx hb dX5_send_83 (by decide) ?_
              refine lv_istore (lv' := [(4, .int 1), (0, .ref (ad 0)), (1, .int (nI j2)), (2, .int cn), (3, .int yn)]) hx hb dX5_send_87 hl (by decide) rfl (fun ls hl => ?_)
              refine lv_aload_n hx hb dX5_send_89 rfl (lv_at hl 1 rfl) ?_
              refine x_get (v := .ref (ad 32)) hx hb hts hinX5 hown hK hP 0 (by decide) rfl rfl 4 (by decide) (hts _ (List.mem_of_getElem? (i := 3) rfl)) rfl dX5_send_90 ?_
              refine x_get (v := .ref (ad 33)) hx hb hts hinX1 hown hK hP 32 (by decide) rfl rfl 0 (by decide) (hts _ (List.mem_of_getElem? (i := 4) rfl)) rfl dX5_send_93 ?_
              refine lv_iload_n hx hb dX5_send_96 rfl (lv_at hl 2 rfl) ?_
              refine lv_iload_n hx hb dX5_send_97 rfl (lv_at hl 3 rfl) ?_
              refine x_iast hx hb hK hI hAd hP hS 33 0 (by decide) (fun _ => rfl) rfl j2 rfl (by omega) (by decide) dX5_send_98 (fun H locs hP hS => ?_)
              refine lv_aload_n hx hb dX5_send_99 rfl (lv_at hl 1 rfl) ?_
              refine x_get (v := .ref (ad 32)) hx hb hts hinX5 hown hK hP 0 (by decide) rfl rfl 4 (by decide) (hts _ (List.mem_of_getElem? (i := 3) rfl)) rfl dX5_send_100 ?_
              refine x_get (v := .ref (ad 34)) hx hb hts hinX1 hown hK hP 32 (by decide) rfl rfl 1 (by decide) (hts _ (List.mem_of_getElem? (i := 5) rfl)) rfl dX5_send_103 ?_
              refine lv_iload_n hx hb dX5_send_106 rfl (lv_at hl 2 rfl) ?_
              refine lv_iload_n hx hb dX5_send_107 rfl (lv_at hl 4 rfl) ?_
              refine x_iast hx hb hK hI hAd hP hS 34 0 (by decide) (fun _ => rfl) rfl j2 rfl (by omega) (by decide) dX5_send_108 (fun H locs hP hS => ?_)
              refine lv_iload hx hb dX5_send_109 (lv_at hl 0 rfl) ?_
              refine lv_if_eq (tgt := 118) hx hb dX5_send_111 (by decide) (fun hc => absurd hc (by decide)) (fun _ => ?_)
              refine lv_iconst (v := 0) hx hb dX5_send_114 (by decide +kernel) ?_
              refine lv_goto (tgt := 119) hx hb dX5_send_115 (by decide) ?_
              refine x_iret hx hb hr hlocks hP hS dX5_send_119 ?_
              skip
              exact ⟨by first | (simp [q2, en2, q10, q20, c39, q50, c66]; done) | grind, by first | (simp [q2, en2, q10, q20, c39, q50, c66]; done) | grind⟩
            · refine lv_aload_n hx hb dX5_send_69 rfl (lv_at hl 0 rfl) ?_
              refine x_get (v := .ref (ad 32)) hx hb hts hinX5 hown hK hP 0 (by decide) rfl rfl 4 (by decide) (hts _ (List.mem_of_getElem? (i := 3) rfl)) rfl dX5_send_70 ?_
              refine x_get (v := .ref (ad 34)) hx hb hts hinX1 hown hK hP 32 (by decide) rfl rfl 1 (by decide) (hts _ (List.mem_of_getElem? (i := 5) rfl)) rfl dX5_send_73 ?_
              refine lv_iload_n hx hb dX5_send_76 rfl (lv_at hl 1 rfl) ?_
              refine x_iald (v := S 34 j2) hx hb hK hP 34 0 (by decide) rfl rfl j2 rfl (by omega) (by decide) rfl dX5_send_77 ?_
              refine lv_iload_n hx hb dX5_send_78 rfl (lv_at hl 3 rfl) ?_
              refine lv_icmp_eq (tgt := 86) hx hb dX5_send_79 (by decide) (fun c79 => ?_) (fun c79 => ?_)
              · refine lv_iconst (v := 0) hx hb dX5_send_86 (by decide +kernel) ?_
                refine lv_istore (lv' := [(4, .int 0), (0, .ref (ad 0)), (1, .int (nI j2)), (2, .int cn), (3, .int yn)]) hx hb dX5_send_87 hl (by decide) rfl (fun ls hl => ?_)
                refine lv_aload_n hx hb dX5_send_89 rfl (lv_at hl 1 rfl) ?_
                refine x_get (v := .ref (ad 32)) hx hb hts hinX5 hown hK hP 0 (by decide) rfl rfl 4 (by decide) (hts _ (List.mem_of_getElem? (i := 3) rfl)) rfl dX5_send_90 ?_
                refine x_get (v := .ref (ad 33)) hx hb hts hinX1 hown hK hP 32 (by decide) rfl rfl 0 (by decide) (hts _ (List.mem_of_getElem? (i := 4) rfl)) rfl dX5_send_93 ?_
                refine lv_iload_n hx hb dX5_send_96 rfl (lv_at hl 2 rfl) ?_
                refine lv_iload_n hx hb dX5_send_97 rfl (lv_at hl 3 rfl) ?_
                refine x_iast hx hb hK hI hAd hP hS 33 0 (by decide) (fun _ => rfl) rfl j2 rfl (by omega) (by decide) dX5_send_98 (fun H locs hP hS => ?_)
                refine lv_aload_n hx hb dX5_send_99 rfl (lv_at hl 1 rfl) ?_
                refine x_get (v := .ref (ad 32)) hx hb hts hinX5 hown hK hP 0 (by decide) rfl rfl 4 (by decide) (hts _ (List.mem_of_getElem? (i := 3) rfl)) rfl dX5_send_100 ?_
                refine x_get (v := .ref (ad 34)) hx hb hts hinX1 hown hK hP 32 (by decide) rfl rfl 1 (by decide) (hts _ (List.mem_of_getElem? (i := 5) rfl)) rfl dX5_send_103 ?_
                refine lv_iload_n hx hb dX5_send_106 rfl (lv_at hl 2 rfl) ?_
                refine lv_iload_n hx hb dX5_send_107 rfl (lv_at hl 4 rfl) ?_
                refine x_iast hx hb hK hI hAd hP hS 34 0 (by decide) (fun _ => rfl) rfl j2 rfl (by omega) (by decide) dX5_send_108 (fun H locs hP hS => ?_)
                refine lv_iload hx hb dX5_send_109 (lv_at hl 0 rfl) ?_
                refine lv_if_eq (tgt := 118) hx hb dX5_send_111 (by decide) (fun _ => ?_) (fun hc => absurd (by decide) hc)
                refine lv_iconst (v := 1) hx hb dX5_send_118 (by decide +kernel) ?_
                refine x_iret hx hb hr hlocks hP hS dX5_send_119 ?_
                skip
                exact ⟨by first | (simp [q2, en2, q10, q20, c39, q50, c66, c79]; done) | grind, by first | (simp [q2, en2, q10, q20, c39, q50, c66, c79]; done) | grind⟩
              · refine lv_iconst (v := 1) hx hb dX5_send_82 (by decide +kernel) ?_
                refine lv_goto (tgt := 87) hx hb dX5_send_83 (by decide) ?_
                refine lv_istore (lv' := [(4, .int 1), (0, .ref (ad 0)), (1, .int (nI j2)), (2, .int cn), (3, .int yn)]) hx hb dX5_send_87 hl (by decide) rfl (fun ls hl => ?_)
                refine lv_aload_n hx hb dX5_send_89 rfl (lv_at hl 1 rfl) ?_
                refine x_get (v := .ref (ad 32)) hx hb hts hinX5 hown hK hP 0 (by decide) rfl rfl 4 (by decide) (hts _ (List.mem_of_getElem? (i := 3) rfl)) rfl dX5_send_90 ?_
                refine x_get (v := .ref (ad 33)) hx hb hts hinX1 hown hK hP 32 (by decide) rfl rfl 0 (by decide) (hts _ (List.mem_of_getElem? (i := 4) rfl)) rfl dX5_send_93 ?_
                refine lv_iload_n hx hb dX5_send_96 rfl (lv_at hl 2 rfl) ?_
                refine lv_iload_n hx hb dX5_send_97 rfl (lv_at hl 3 rfl) ?_
                refine x_iast hx hb hK hI hAd hP hS 33 0 (by decide) (fun _ => rfl) rfl j2 rfl (by omega) (by decide) dX5_send_98 (fun H locs hP hS => ?_)
                refine lv_aload_n hx hb dX5_send_99 rfl (lv_at hl 1 rfl) ?_
                refine x_get (v := .ref (ad 32)) hx hb hts hinX5 hown hK hP 0 (by decide) rfl rfl 4 (by decide) (hts _ (List.mem_of_getElem? (i := 3) rfl)) rfl dX5_send_100 ?_
                refine x_get (v := .ref (ad 34)) hx hb hts hinX1 hown hK hP 32 (by decide) rfl rfl 1 (by decide) (hts _ (List.mem_of_getElem? (i := 5) rfl)) rfl dX5_send_103 ?_
                refine lv_iload_n hx hb dX5_send_106 rfl (lv_at hl 2 rfl) ?_
                refine lv_iload_n hx hb dX5_send_107 rfl (lv_at hl 4 rfl) ?_
                refine x_iast hx hb hK hI hAd hP hS 34 0 (by decide) (fun _ => rfl) rfl j2 rfl (by omega) (by decide) dX5_send_108 (fun H locs hP hS => ?_)
                refine lv_iload hx hb dX5_send_109 (lv_at hl 0 rfl) ?_
                refine lv_if_eq (tgt := 118) hx hb dX5_send_111 (by decide) (fun hc => absurd hc (by decide)) (fun _ => ?_)
                refine lv_iconst (v := 0) hx hb dX5_send_114 (by decide +kernel) ?_
                refine lv_goto (tgt := 119) hx hb dX5_send_115 (by decide) ?_
                refine x_iret hx hb hr hlocks hP hS dX5_send_119 ?_
                skip
                exact ⟨by first | (simp [q2, en2, q10, q20, c39, q50, c66, c79]; done) | grind, by first | (simp [q2, en2, q10, q20, c39, q50, c66, c79]; done) | grind⟩
          · have hw : r50 = 0 := hw.trans (if_neg q50)
            subst hw
            refine lv_if_eq (tgt := 86) hx hb dX5_send_53 (by decide) (fun _ => ?_) (fun hc => absurd (by decide) hc)
            refine lv_iconst (v := 0) hx hb dX5_send_86 (by decide +kernel) ?_
            refine lv_istore (lv' := [(4, .int 0), (0, .ref (ad 0)), (1, .int (nI j2)), (2, .int cn), (3, .int yn)]) hx hb dX5_send_87 hl (by decide) rfl (fun ls hl => ?_)
            refine lv_aload_n hx hb dX5_send_89 rfl (lv_at hl 1 rfl) ?_
            refine x_get (v := .ref (ad 32)) hx hb hts hinX5 hown hK hP 0 (by decide) rfl rfl 4 (by decide) (hts _ (List.mem_of_getElem? (i := 3) rfl)) rfl dX5_send_90 ?_
            refine x_get (v := .ref (ad 33)) hx hb hts hinX1 hown hK hP 32 (by decide) rfl rfl 0 (by decide) (hts _ (List.mem_of_getElem? (i := 4) rfl)) rfl dX5_send_93 ?_
            refine lv_iload_n hx hb dX5_send_96 rfl (lv_at hl 2 rfl) ?_
            refine lv_iload_n hx hb dX5_send_97 rfl (lv_at hl 3 rfl) ?_
            refine x_iast hx hb hK hI hAd hP hS 33 0 (by decide) (fun _ => rfl) rfl j2 rfl (by omega) (by decide) dX5_send_98 (fun H locs hP hS => ?_)
            refine lv_aload_n hx hb dX5_send_99 rfl (lv_at hl 1 rfl) ?_
            refine x_get (v := .ref (ad 32)) hx hb hts hinX5 hown hK hP 0 (by decide) rfl rfl 4 (by decide) (hts _ (List.mem_of_getElem? (i := 3) rfl)) rfl dX5_send_100 ?_
            refine x_get (v := .ref (ad 34)) hx hb hts hinX1 hown hK hP 32 (by decide) rfl rfl 1 (by decide) (hts _ (List.mem_of_getElem? (i := 5) rfl)) rfl dX5_send_103 ?_
            refine lv_iload_n hx hb dX5_send_106 rfl (lv_at hl 2 rfl) ?_
            refine lv_iload_n hx hb dX5_send_107 rfl (lv_at hl 4 rfl) ?_
            refine x_iast hx hb hK hI hAd hP hS 34 0 (by decide) (fun _ => rfl) rfl j2 rfl (by omega) (by decide) dX5_send_108 (fun H locs hP hS => ?_)
            refine lv_iload hx hb dX5_send_109 (lv_at hl 0 rfl) ?_
            refine lv_if_eq (tgt := 118) hx hb dX5_send_111 (by decide) (fun _ => ?_) (fun hc => absurd (by decide) hc)
            refine lv_iconst (v := 1) hx hb dX5_send_118 (by decide +kernel) ?_
            refine x_iret hx hb hr hlocks hP hS dX5_send_119 ?_
            skip
            exact ⟨by first | (simp [q2, en2, q10, q20, c39, q50]; done) | grind, by first | (simp [q2, en2, q10, q20, c39, q50]; done) | grind⟩
        · refine lv_bipush (v := (-3)) hx hb dX5_send_42 (by decide +kernel) ?_
          refine x_iret hx hb hr hlocks hP hS dX5_send_44 ?_
          skip
          exact ⟨by first | (simp [q2, en2, q10, q20, c39]; done) | grind, by first | (simp [q2, en2, q10, q20, c39]; done) | grind⟩
      · have hw : r20 = 0 := hw.trans (if_neg q20)
        subst hw
        refine lv_if_ne (tgt := 29) hx hb dX5_send_23 (by decide) (fun hc => absurd (by decide) hc) (fun _ => ?_)
        refine lv_bipush (v := (-2)) hx hb dX5_send_26 (by decide +kernel) ?_
        refine x_iret hx hb hr hlocks hP hS dX5_send_28 ?_
        skip
        exact ⟨by first | (simp [q2, en2, q10, q20]; done) | grind, by first | (simp [q2, en2, q10, q20]; done) | grind⟩
    · have hw : r10 = 0 := hw.trans (if_neg q10)
      subst hw
      refine lv_if_ne (tgt := 18) hx hb dX5_send_13 (by decide) (fun hc => absurd (by decide) hc) (fun _ => ?_)
      refine lv_iconst (v := (-1)) hx hb dX5_send_16 (by decide +kernel) ?_
      refine x_iret hx hb hr hlocks hP hS dX5_send_17 ?_
      skip
      exact ⟨by first | (simp [q2, en2, q10]; done) | grind, by first | (simp [q2, en2, q10]; done) | grind⟩
  · have hw : r2 = 0 := hw.trans (if_neg q2)
    subst hw
    refine lv_if_eq (tgt := 16) hx hb dX5_send_5 (by decide) (fun _ => ?_) (fun hc => absurd (by decide) hc)
    refine lv_iconst (v := (-1)) hx hb dX5_send_16 (by decide +kernel) ?_
    refine x_iret hx hb hr hlocks hP hS dX5_send_17 ?_
    skip
    exact ⟨by first | (simp [q2]; done) | grind, by first | (simp [q2]; done) | grind⟩

set_option maxHeartbeats 4000000 in
set_option maxRecDepth 100000 in
theorem c5_home (hI : xI 42 ad) (S : xSt) (N : Nat) (hN : S 12 2 = nI N) (hN5 : N ≤ 5) (sn : Int32) : xMi l yX5_home wsX5_home ({ frames := 1, cells := 0, slots := 0, locals := 21 }) (dC, dI) vwCl (tyl cI cZ cS cG) (cLy cI cZ cS cG ad) 42 ad [.ref (ad 0), .int sn] S (fun r S' => r = (if inR sn (S 12 2) then (if ¬ 6 ≤ S 34 (nN sn) then 1 else 0) else -1) ∧ S' = (if inR sn (S 12 2) ∧ ¬ 6 ≤ S 34 (nN sn) then su S 34 (nN sn) 6 else S)) := by
  refine xM_of (cc := cX5_home) (nL := 2) (ret := (some .int)) (by decide) rfl (Nat.le_of_ble_eq_true rfl) ?_
  intro p e s m below meth c ls B hl hK hP
  obtain ⟨hx, hb, hml, hown, hts, hr, hlocks⟩ := B
  have hl : lv_has ls 2 [(0, .ref (ad 0)), (1, .int sn)] := hl
  have hS : va_S (xA 42 ad) s.heap s.heap [] := va_S.rf
  have hAd : ∀ k, k < 42 → xA 42 ad (ad k) := xA_in
  have hinX1 : ∀ w ∈ wsX10, w ∈ wsX5_home := fun _ h => List.mem_cons_of_mem _ (List.mem_append_left _ (List.mem_append_right _ h))
  have hinX5 : ∀ w ∈ wsX50, w ∈ wsX5_home := fun _ h => List.mem_cons_of_mem _ (List.mem_append_left _ (List.mem_append_left _ (List.mem_append_right _ h)))
  have hF : CallFix p m c cX5_home 2 s _ wsX5_home RX5 := ⟨hx, hb, hml, hown, hts⟩
  refine lv_aload_n hx hb dX5_home_0 rfl (lv_at hl 0 rfl) ?_
  refine lv_iload_n hx hb dX5_home_1 rfl (lv_at hl 1 rfl) ?_
  refine x_calli (x_runV (As := [.int sn]) (rest := []) hF (c5_isSon hI S sn ) (cwV 1 hts gX5_home_X5_isSon rfl rfl rfl (by decide +kernel) ⟨Nat.le_of_ble_eq_true rfl, Nat.le_of_ble_eq_true rfl⟩) hK hP (by decide) rfl rfl rfl hl.1 rfl (Nat.le_of_ble_eq_true rfl) dX5_home_2 ⟨Nat.zero_le _, Nat.zero_le _⟩) hS hAd (fun r2 S2 H locs hw hP _ hS => ?_)
  obtain ⟨hw, eS2⟩ := hw
  rw [eS2] at hP
  by_cases q2 : inR sn (S 12 2) = true
  · have hw : r2 = 1 := hw.trans (if_pos q2)
    subst hw
    obtain ⟨j2, hj2, rfl⟩ : ∃ j, j < N ∧ sn = nI j := inR_ex (by rw [← hN]; exact q2) (by omega)
    have en2 : nN (nI j2) = j2 := nN_nI (by omega)
    refine lv_if_ne (tgt := 10) hx hb dX5_home_5 (by decide) (fun _ => ?_) (fun hc => absurd hc (by decide))
    refine lv_aload_n hx hb dX5_home_10 rfl (lv_at hl 0 rfl) ?_
    refine x_get (v := .ref (ad 32)) hx hb hts hinX5 hown hK hP 0 (by decide) rfl rfl 4 (by decide) (hts _ (List.mem_of_getElem? (i := 1) rfl)) rfl dX5_home_11 ?_
    refine lv_iload_n hx hb dX5_home_14 rfl (lv_at hl 1 rfl) ?_
    refine x_calli (x_runV (As := [.int (nI j2)]) (rest := []) hF (c1_ever hI S 32 (Or.inl rfl) j2 (by omega) ) (cwV 1 hts gX5_home_X1_ever rfl rfl rfl (by decide +kernel) ⟨Nat.le_of_ble_eq_true rfl, Nat.le_of_ble_eq_true rfl⟩) hK hP (by decide) rfl rfl rfl hl.1 rfl (Nat.le_of_ble_eq_true rfl) dX5_home_15 ⟨Nat.zero_le _, Nat.zero_le _⟩) hS hAd (fun r15 S15 H locs hw hP _ hS => ?_)
    obtain ⟨hw, eS15⟩ := hw
    rw [eS15] at hP
    by_cases q15 : ¬ 6 ≤ S 34 j2
    · have hw : r15 = 1 := hw.trans (if_pos q15)
      subst hw
      refine lv_if_ne (tgt := 23) hx hb dX5_home_18 (by decide) (fun _ => ?_) (fun hc => absurd hc (by decide))
      refine lv_aload_n hx hb dX5_home_23 rfl (lv_at hl 0 rfl) ?_
      refine x_get (v := .ref (ad 32)) hx hb hts hinX5 hown hK hP 0 (by decide) rfl rfl 4 (by decide) (hts _ (List.mem_of_getElem? (i := 1) rfl)) rfl dX5_home_24 ?_
      refine x_get (v := .ref (ad 34)) hx hb hts hinX1 hown hK hP 32 (by decide) rfl rfl 1 (by decide) (hts _ (List.mem_of_getElem? (i := 2) rfl)) rfl dX5_home_27 ?_
      refine lv_iload_n hx hb dX5_home_30 rfl (lv_at hl 1 rfl) ?_
      refine lv_bipush (v := 6) hx hb dX5_home_31 (by decide +kernel) ?_
      refine x_iast hx hb hK hI hAd hP hS 34 0 (by decide) (fun _ => rfl) rfl j2 rfl (by omega) (by decide) dX5_home_33 (fun H locs hP hS => ?_)
      refine lv_iconst (v := 1) hx hb dX5_home_34 (by decide +kernel) ?_
      refine x_iret hx hb hr hlocks hP hS dX5_home_35 ?_
      skip
      exact ⟨by first | (simp [q2, en2, q15]; done) | grind, by first | (simp [q2, en2, q15]; done) | grind⟩
    · have hw : r15 = 0 := hw.trans (if_neg q15)
      subst hw
      refine lv_if_ne (tgt := 23) hx hb dX5_home_18 (by decide) (fun hc => absurd (by decide) hc) (fun _ => ?_)
      refine lv_iconst (v := 0) hx hb dX5_home_21 (by decide +kernel) ?_
      refine x_iret hx hb hr hlocks hP hS dX5_home_22 ?_
      skip
      exact ⟨by first | (simp [q2, en2, q15]; done) | grind, by first | (simp [q2, en2, q15]; done) | grind⟩
  · have hw : r2 = 0 := hw.trans (if_neg q2)
    subst hw
    refine lv_if_ne (tgt := 10) hx hb dX5_home_5 (by decide) (fun hc => absurd (by decide) hc) (fun _ => ?_)
    refine lv_iconst (v := (-1)) hx hb dX5_home_8 (by decide +kernel) ?_
    refine x_iret hx hb hr hlocks hP hS dX5_home_9 ?_
    skip
    exact ⟨by first | (simp [q2]; done) | grind, by first | (simp [q2]; done) | grind⟩

set_option maxHeartbeats 4000000 in
set_option maxRecDepth 100000 in
theorem c5_stake (hI : xI 42 ad) (S : xSt) (N : Nat) (hN : S 12 2 = nI N) (hN5 : N ≤ 5) (sn yn : Int32) : xMi l yX5_stake wsX5_stake ({ frames := 1, cells := 0, slots := 0, locals := 25 }) (dC, dI) vwCl (tyl cI cZ cS cG) (cLy cI cZ cS cG ad) 42 ad [.ref (ad 0), .int sn, .int yn] S (fun r S' => r = (if inR sn (S 12 2) then (if inR yn (S 12 1) then (if ¬ yn < S 34 (nN sn) then stakeC (S 20 (nN sn)) (S 21 (nN sn)) (S 18 (nN sn)) (yn - S 34 (nN sn)) else -9) else -2) else -1) ∧ S' = S) := by
  refine xM_of (cc := cX5_stake) (nL := 3) (ret := (some .int)) (by decide) rfl (Nat.le_of_ble_eq_true rfl) ?_
  intro p e s m below meth c ls B hl hK hP
  obtain ⟨hx, hb, hml, hown, hts, hr, hlocks⟩ := B
  have hl : lv_has ls 3 [(0, .ref (ad 0)), (1, .int sn), (2, .int yn)] := hl
  have hS : va_S (xA 42 ad) s.heap s.heap [] := va_S.rf
  have hAd : ∀ k, k < 42 → xA 42 ad (ad k) := xA_in
  have hinX1 : ∀ w ∈ wsX10, w ∈ wsX5_stake := fun _ h => List.mem_cons_of_mem _ (List.mem_append_right _ h)
  have hinX4 : ∀ w ∈ wsX40, w ∈ wsX5_stake := fun _ h => List.mem_cons_of_mem _ (List.mem_append_left _ (List.mem_append_right _ h))
  have hinX5 : ∀ w ∈ wsX50, w ∈ wsX5_stake := fun _ h => List.mem_cons_of_mem _ (List.mem_append_left _ (List.mem_append_left _ (List.mem_append_right _ h)))
  have hF : CallFix p m c cX5_stake 3 s _ wsX5_stake RX5 := ⟨hx, hb, hml, hown, hts⟩
  refine lv_aload_n hx hb dX5_stake_0 rfl (lv_at hl 0 rfl) ?_
  refine lv_iload_n hx hb dX5_stake_1 rfl (lv_at hl 1 rfl) ?_
  refine x_calli (x_runV (As := [.int sn]) (rest := []) hF (c5_isSon hI S sn ) (cwV 1 hts gX5_stake_X5_isSon rfl rfl rfl (by decide +kernel) ⟨Nat.le_of_ble_eq_true rfl, Nat.le_of_ble_eq_true rfl⟩) hK hP (by decide) rfl rfl rfl hl.1 rfl (Nat.le_of_ble_eq_true rfl) dX5_stake_2 ⟨Nat.zero_le _, Nat.zero_le _⟩) hS hAd (fun r2 S2 H locs hw hP _ hS => ?_)
  obtain ⟨hw, eS2⟩ := hw
  rw [eS2] at hP
  by_cases q2 : inR sn (S 12 2) = true
  · have hw : r2 = 1 := hw.trans (if_pos q2)
    subst hw
    obtain ⟨j2, hj2, rfl⟩ : ∃ j, j < N ∧ sn = nI j := inR_ex (by rw [← hN]; exact q2) (by omega)
    have en2 : nN (nI j2) = j2 := nN_nI (by omega)
    refine lv_if_ne (tgt := 10) hx hb dX5_stake_5 (by decide) (fun _ => ?_) (fun hc => absurd hc (by decide))
    refine lv_aload_n hx hb dX5_stake_10 rfl (lv_at hl 0 rfl) ?_
    refine lv_iload_n hx hb dX5_stake_11 rfl (lv_at hl 2 rfl) ?_
    refine x_calli (x_runV (As := [.int yn]) (rest := []) hF (c5_isYear hI S yn ) (cwV 1 hts gX5_stake_X5_isYear rfl rfl rfl (by decide +kernel) ⟨Nat.le_of_ble_eq_true rfl, Nat.le_of_ble_eq_true rfl⟩) hK hP (by decide) rfl rfl rfl hl.1 rfl (Nat.le_of_ble_eq_true rfl) dX5_stake_12 ⟨Nat.zero_le _, Nat.zero_le _⟩) hS hAd (fun r12 S12 H locs hw hP _ hS => ?_)
    obtain ⟨hw, eS12⟩ := hw
    rw [eS12] at hP
    by_cases q12 : inR yn (S 12 1) = true
    · have hw : r12 = 1 := hw.trans (if_pos q12)
      subst hw
      refine lv_if_ne (tgt := 21) hx hb dX5_stake_15 (by decide) (fun _ => ?_) (fun hc => absurd hc (by decide))
      refine lv_aload_n hx hb dX5_stake_21 rfl (lv_at hl 0 rfl) ?_
      refine x_get (v := .ref (ad 32)) hx hb hts hinX5 hown hK hP 0 (by decide) rfl rfl 4 (by decide) (hts _ (List.mem_of_getElem? (i := 1) rfl)) rfl dX5_stake_22 ?_
      refine lv_iload_n hx hb dX5_stake_25 rfl (lv_at hl 1 rfl) ?_
      refine lv_iload_n hx hb dX5_stake_26 rfl (lv_at hl 2 rfl) ?_
      refine x_calli (x_runV (As := [.int (nI j2), .int yn]) (rest := []) hF (c1_isAway hI S 32 (Or.inl rfl) j2 yn (by omega) ) (cwV 2 hts gX5_stake_X1_isAway rfl rfl rfl (by decide +kernel) ⟨Nat.le_of_ble_eq_true rfl, Nat.le_of_ble_eq_true rfl⟩) hK hP (by decide) rfl rfl rfl hl.1 rfl (Nat.le_of_ble_eq_true rfl) dX5_stake_27 ⟨Nat.zero_le _, Nat.zero_le _⟩) hS hAd (fun r27 S27 H locs hw hP _ hS => ?_)
      obtain ⟨hw, eS27⟩ := hw
      rw [eS27] at hP
      by_cases q27 : ¬ yn < S 34 j2
      · have hw : r27 = 1 := hw.trans (if_pos q27)
        subst hw
        refine lv_if_ne (tgt := 36) hx hb dX5_stake_30 (by decide) (fun _ => ?_) (fun hc => absurd hc (by decide))
        refine lv_aload_n hx hb dX5_stake_36 rfl (lv_at hl 0 rfl) ?_
        refine x_get (v := .ref (ad 12)) hx hb hts hinX5 hown hK hP 0 (by decide) rfl rfl 2 (by decide) (hts _ (List.mem_of_getElem? (i := 2) rfl)) rfl dX5_stake_37 ?_
        refine lv_iload_n hx hb dX5_stake_40 rfl (lv_at hl 1 rfl) ?_
        refine lv_aload_n hx hb dX5_stake_41 rfl (lv_at hl 0 rfl) ?_
        refine x_get (v := .ref (ad 12)) hx hb hts hinX5 hown hK hP 0 (by decide) rfl rfl 2 (by decide) (hts _ (List.mem_of_getElem? (i := 2) rfl)) rfl dX5_stake_42 ?_
        refine x_get (v := .ref (ad 18)) hx hb hts hinX4 hown hK hP 12 (by decide) rfl rfl 4 (by decide) (hts _ (List.mem_of_getElem? (i := 3) rfl)) rfl dX5_stake_45 ?_
        refine lv_iload_n hx hb dX5_stake_48 rfl (lv_at hl 1 rfl) ?_
        refine x_iald (v := S 18 j2) hx hb hK hP 18 0 (by decide) rfl rfl j2 rfl (by omega) (by decide) rfl dX5_stake_49 ?_
        refine lv_iload_n hx hb dX5_stake_50 rfl (lv_at hl 2 rfl) ?_
        refine lv_aload_n hx hb dX5_stake_51 rfl (lv_at hl 0 rfl) ?_
        refine x_get (v := .ref (ad 32)) hx hb hts hinX5 hown hK hP 0 (by decide) rfl rfl 4 (by decide) (hts _ (List.mem_of_getElem? (i := 1) rfl)) rfl dX5_stake_52 ?_
        refine x_get (v := .ref (ad 34)) hx hb hts hinX1 hown hK hP 32 (by decide) rfl rfl 1 (by decide) (hts _ (List.mem_of_getElem? (i := 4) rfl)) rfl dX5_stake_55 ?_
        refine lv_iload_n hx hb dX5_stake_58 rfl (lv_at hl 1 rfl) ?_
        refine x_iald (v := S 34 j2) hx hb hK hP 34 0 (by decide) rfl rfl j2 rfl (by omega) (by decide) rfl dX5_stake_59 ?_
        refine lv_isub hx hb dX5_stake_60 ?_
        refine x_calli (x_runV (As := [.int (nI j2), .int (S 18 j2), .int (yn - (S 34 j2))]) (rest := []) hF (c4_costOf hI S j2 (S 18 j2) (yn - (S 34 j2)) (by omega) ) (cwV 3 hts gX5_stake_X4_costOf rfl rfl rfl (by decide +kernel) ⟨Nat.le_of_ble_eq_true rfl, Nat.le_of_ble_eq_true rfl⟩) hK hP (by decide) rfl rfl rfl hl.1 rfl (Nat.le_of_ble_eq_true rfl) dX5_stake_61 ⟨Nat.zero_le _, Nat.zero_le _⟩) hS hAd (fun r61 S61 H locs hw hP _ hS => ?_)
        obtain ⟨er61, eS61⟩ := hw
        rw [eS61] at hP
        refine x_iret hx hb hr hlocks hP hS dX5_stake_64 ?_
        subst er61
        exact ⟨by first | (simp [q2, en2, q12, q27]; done) | grind, rfl⟩
      · have hw : r27 = 0 := hw.trans (if_neg q27)
        subst hw
        refine lv_if_ne (tgt := 36) hx hb dX5_stake_30 (by decide) (fun hc => absurd (by decide) hc) (fun _ => ?_)
        refine lv_bipush (v := (-9)) hx hb dX5_stake_33 (by decide +kernel) ?_
        refine x_iret hx hb hr hlocks hP hS dX5_stake_35 ?_
        skip
        exact ⟨by first | (simp [q2, en2, q12, q27]; done) | grind, rfl⟩
    · have hw : r12 = 0 := hw.trans (if_neg q12)
      subst hw
      refine lv_if_ne (tgt := 21) hx hb dX5_stake_15 (by decide) (fun hc => absurd (by decide) hc) (fun _ => ?_)
      refine lv_bipush (v := (-2)) hx hb dX5_stake_18 (by decide +kernel) ?_
      refine x_iret hx hb hr hlocks hP hS dX5_stake_20 ?_
      skip
      exact ⟨by first | (simp [q2, en2, q12]; done) | grind, rfl⟩
  · have hw : r2 = 0 := hw.trans (if_neg q2)
    subst hw
    refine lv_if_ne (tgt := 10) hx hb dX5_stake_5 (by decide) (fun hc => absurd (by decide) hc) (fun _ => ?_)
    refine lv_iconst (v := (-1)) hx hb dX5_stake_8 (by decide +kernel) ?_
    refine x_iret hx hb hr hlocks hP hS dX5_stake_9 ?_
    skip
    exact ⟨by first | (simp [q2]; done) | grind, rfl⟩

set_option maxHeartbeats 4000000 in
set_option maxRecDepth 100000 in
theorem c5_stakes (hI : xI 42 ad) (S : xSt) (N : Nat) (hN : S 12 2 = nI N) (hN5 : N ≤ 5) (cn yn : Int32) : xMi l yX5_stakes wsX5_stakes ({ frames := 2, cells := 0, slots := 0, locals := 52 }) (dC, dI) vwCl (tyl cI cZ cS cG) (cLy cI cZ cS cG ad) 42 ad [.ref (ad 0), .int cn, .int yn] S (fun r S' => r = (if inR cn (S 12 0) then (if inR yn (S 12 1) then sumL (stkC (S 19) (S 20) (S 21) (kpg 0 (S 18)) (S 34) cn yn) N 0 0 else -2) else -1) ∧ S' = S) := by
  refine xM_of (cc := cX5_stakes) (nL := 3) (ret := (some .int)) (by decide) rfl (Nat.le_of_ble_eq_true rfl) ?_
  intro p e s m below meth c ls B hl hK hP
  obtain ⟨hx, hb, hml, hown, hts, hr, hlocks⟩ := B
  have hl : lv_has ls 3 [(0, .ref (ad 0)), (1, .int cn), (2, .int yn)] := hl
  have hS : va_S (xA 42 ad) s.heap s.heap [] := va_S.rf
  have hAd : ∀ k, k < 42 → xA 42 ad (ad k) := xA_in
  have hinX5 : ∀ w ∈ wsX50, w ∈ wsX5_stakes := fun _ h => List.mem_cons_of_mem _ (List.mem_append_left _ (List.mem_append_left _ (List.mem_append_right _ h)))
  have hF : CallFix p m c cX5_stakes 3 s _ wsX5_stakes RX5 := ⟨hx, hb, hml, hown, hts⟩
  refine lv_aload_n hx hb dX5_stakes_0 rfl (lv_at hl 0 rfl) ?_
  refine lv_iload_n hx hb dX5_stakes_1 rfl (lv_at hl 1 rfl) ?_
  refine x_calli (x_runV (As := [.int cn]) (rest := []) hF (c5_isCourt hI S cn ) (cwV 1 hts gX5_stakes_X5_isCourt rfl rfl rfl (by decide +kernel) ⟨Nat.le_of_ble_eq_true rfl, Nat.le_of_ble_eq_true rfl⟩) hK hP (by decide) rfl rfl rfl hl.1 rfl (Nat.le_of_ble_eq_true rfl) dX5_stakes_2 ⟨Nat.zero_le _, Nat.zero_le _⟩) hS hAd (fun r2 S2 H locs hw hP _ hS => ?_)
  obtain ⟨hw, eS2⟩ := hw
  rw [eS2] at hP
  by_cases q2 : inR cn (S 12 0) = true
  · have hw : r2 = 1 := hw.trans (if_pos q2)
    subst hw
    refine lv_if_ne (tgt := 10) hx hb dX5_stakes_5 (by decide) (fun _ => ?_) (fun hc => absurd hc (by decide))
    refine lv_aload_n hx hb dX5_stakes_10 rfl (lv_at hl 0 rfl) ?_
    refine lv_iload_n hx hb dX5_stakes_11 rfl (lv_at hl 2 rfl) ?_
    refine x_calli (x_runV (As := [.int yn]) (rest := []) hF (c5_isYear hI S yn ) (cwV 1 hts gX5_stakes_X5_isYear rfl rfl rfl (by decide +kernel) ⟨Nat.le_of_ble_eq_true rfl, Nat.le_of_ble_eq_true rfl⟩) hK hP (by decide) rfl rfl rfl hl.1 rfl (Nat.le_of_ble_eq_true rfl) dX5_stakes_12 ⟨Nat.zero_le _, Nat.zero_le _⟩) hS hAd (fun r12 S12 H locs hw hP _ hS => ?_)
    obtain ⟨hw, eS12⟩ := hw
    rw [eS12] at hP
    by_cases q12 : inR yn (S 12 1) = true
    · have hw : r12 = 1 := hw.trans (if_pos q12)
      subst hw
      refine lv_if_ne (tgt := 21) hx hb dX5_stakes_15 (by decide) (fun _ => ?_) (fun hc => absurd hc (by decide))
      refine lv_aload_n hx hb dX5_stakes_21 rfl (lv_at hl 0 rfl) ?_
      refine x_get (v := .ref (ad 12)) hx hb hts hinX5 hown hK hP 0 (by decide) rfl rfl 2 (by decide) (hts _ (List.mem_of_getElem? (i := 1) rfl)) rfl dX5_stakes_22 ?_
      refine lv_iload_n hx hb dX5_stakes_25 rfl (lv_at hl 1 rfl) ?_
      refine lv_iload_n hx hb dX5_stakes_26 rfl (lv_at hl 2 rfl) ?_
      refine lv_aload_n hx hb dX5_stakes_27 rfl (lv_at hl 0 rfl) ?_
      refine x_get (v := .ref (ad 32)) hx hb hts hinX5 hown hK hP 0 (by decide) rfl rfl 4 (by decide) (hts _ (List.mem_of_getElem? (i := 2) rfl)) rfl dX5_stakes_28 ?_
      refine lv_iconst (v := 0) hx hb dX5_stakes_31 (by decide +kernel) ?_
      refine x_calli (x_runV (As := [.int cn, .int yn, .ref (ad 32), .int 0]) (rest := []) hF (c4_costsOf hI S 32 (Or.inl rfl) N hN hN5 cn yn 0 ) (cwV 4 hts gX5_stakes_X4_costsOf rfl rfl rfl (by decide +kernel) ⟨Nat.le_of_ble_eq_true rfl, Nat.le_of_ble_eq_true rfl⟩) hK hP (by decide) rfl rfl rfl hl.1 rfl (Nat.le_of_ble_eq_true rfl) dX5_stakes_32 ⟨Nat.zero_le _, Nat.zero_le _⟩) hS hAd (fun r32 S32 H locs hw hP _ hS => ?_)
      obtain ⟨er32, eS32⟩ := hw
      rw [eS32] at hP
      refine x_iret hx hb hr hlocks hP hS dX5_stakes_35 ?_
      subst er32
      exact ⟨by first | (simp [q2, q12]; done) | grind, rfl⟩
    · have hw : r12 = 0 := hw.trans (if_neg q12)
      subst hw
      refine lv_if_ne (tgt := 21) hx hb dX5_stakes_15 (by decide) (fun hc => absurd (by decide) hc) (fun _ => ?_)
      refine lv_bipush (v := (-2)) hx hb dX5_stakes_18 (by decide +kernel) ?_
      refine x_iret hx hb hr hlocks hP hS dX5_stakes_20 ?_
      skip
      exact ⟨by first | (simp [q2, q12]; done) | grind, rfl⟩
  · have hw : r2 = 0 := hw.trans (if_neg q2)
    subst hw
    refine lv_if_ne (tgt := 10) hx hb dX5_stakes_5 (by decide) (fun hc => absurd (by decide) hc) (fun _ => ?_)
    refine lv_iconst (v := (-1)) hx hb dX5_stakes_8 (by decide +kernel) ?_
    refine x_iret hx hb hr hlocks hP hS dX5_stakes_9 ?_
    skip
    exact ⟨by first | (simp [q2]; done) | grind, rfl⟩

set_option maxHeartbeats 4000000 in
set_option maxRecDepth 100000 in
theorem c5_tempted_t (hI : xI 42 ad) (S : xSt) (N : Nat) (hN : S 12 2 = nI N) (hN5 : N ≤ 5) (hN0 : 0 < N) (C : Nat) (hC : S 12 0 = nI C) (hC4 : C ≤ 4) (Y : Nat) (hY : S 12 1 = nI Y) (hY6 : Y ≤ 6) (y0 : Nat) (hy0 : y0 < Y) : xMi l yX5_tempted wsX5_tempted ({ frames := 3, cells := 0, slots := 0, locals := 76 }) (dC, dI) vwCl (tyl cI cZ cS cG) (cLy cI cZ cS cG ad) 42 ad [.ref (ad 0), .int (nI y0)] S (fun r S' => r = orL (fun c => if cT S N 32 0 c y0 = true then (1 : Int32) <<< (nI c &&& 31) else 0) C 0 0 ∧ S' = S) := by
  refine xM_of (cc := cX5_tempted) (nL := 4) (ret := (some .int)) (by decide) rfl (Nat.le_of_ble_eq_true rfl) ?_
  intro p e s m below meth c ls B hl hK hP
  obtain ⟨hx, hb, hml, hown, hts, hr, hlocks⟩ := B
  have hl : lv_has ls 4 [(0, .ref (ad 0)), (1, .int (nI y0))] := hl
  have hS : va_S (xA 42 ad) s.heap s.heap [] := va_S.rf
  have hAd : ∀ k, k < 42 → xA 42 ad (ad k) := xA_in
  have hinX4 : ∀ w ∈ wsX40, w ∈ wsX5_tempted := fun _ h => List.mem_cons_of_mem _ (List.mem_append_left _ (List.mem_append_right _ h))
  have hinX5 : ∀ w ∈ wsX50, w ∈ wsX5_tempted := fun _ h => List.mem_cons_of_mem _ (List.mem_append_left _ (List.mem_append_left _ (List.mem_append_right _ h)))
  have hF : CallFix p m c cX5_tempted 4 s _ wsX5_tempted RX5 := ⟨hx, hb, hml, hown, hts⟩
  have L25 : ∀ (n : Nat) (i : Nat) (a : Int32) (hi : i + n = C) (hv : orL (fun c => if cT S N 32 0 c y0 = true then (1 : Int32) <<< (nI c &&& 31) else 0) C 0 0 = orL (fun c => if cT S N 32 0 c y0 = true then (1 : Int32) <<< (nI c &&& 31) else 0) n i a) (H : Heap) (locs : List Loc) (ls : Array Slot), va_P (dC, dI) vwCl (xW (cLy cI cZ cS cG ad) 42 ad S) H → va_S (xA 42 ad) s.heap H locs → lv_has ls 4 [(0, .ref (ad 0)), (1, .int (nI y0)), (2, .int a), (3, .int (nI i))] → W p l e ({ frames := 3, cells := 0, slots := 0, locals := 76 }) s m ([.ref (ad 0), .int (nI y0)] : List Value).toArray below meth c H locs 0 0 (MQ below (xQi (dC, dI) vwCl (cLy cI cZ cS cG ad) 42 ad (fun r S' => r = orL (fun c => if cT S N 32 0 c y0 = true then (1 : Int32) <<< (nI c &&& 31) else 0) C 0 0 ∧ S' = S)) ([.ref (ad 0), .int (nI y0)] : List Value).toArray s 0 0 (xA 42 ad)) (F0 m 25 ls []) := by
    intro n
    induction n with
    | zero =>
      intro i a hi hv H locs ls hP hS hl
      refine lv_iload_n hx hb dX5_tempted_25 rfl (lv_at hl 3 rfl) ?_
      refine lv_aload_n hx hb dX5_tempted_26 rfl (lv_at hl 0 rfl) ?_
      refine x_get (v := .ref (ad 12)) hx hb hts hinX5 hown hK hP 0 (by decide) rfl rfl 2 (by decide) (hts _ (List.mem_of_getElem? (i := 1) rfl)) rfl dX5_tempted_27 ?_
      refine x_get (v := .int (nI C)) hx hb hts hinX4 hown hK hP 12 (by decide) rfl rfl 0 (by decide) (hts _ (List.mem_of_getElem? (i := 2) rfl)) (congrArg (fun z => some (Value.int z)) hC) dX5_tempted_30 ?_
      refine lv_icmp_ge (tgt := 65) hx hb dX5_tempted_33 (by decide) (fun _ => ?_) (fun hc => absurd (nI_le (by omega) (by omega)) hc)
      refine lv_iload_n hx hb dX5_tempted_65 rfl (lv_at hl 2 rfl) ?_
      refine x_iret hx hb hr hlocks hP hS dX5_tempted_66 ?_
      exact ⟨hv.symm, rfl⟩
    | succ n ih =>
      intro i a hi hv H locs ls hP hS hl
      refine lv_iload_n hx hb dX5_tempted_25 rfl (lv_at hl 3 rfl) ?_
      refine lv_aload_n hx hb dX5_tempted_26 rfl (lv_at hl 0 rfl) ?_
      refine x_get (v := .ref (ad 12)) hx hb hts hinX5 hown hK hP 0 (by decide) rfl rfl 2 (by decide) (hts _ (List.mem_of_getElem? (i := 1) rfl)) rfl dX5_tempted_27 ?_
      refine x_get (v := .int (nI C)) hx hb hts hinX4 hown hK hP 12 (by decide) rfl rfl 0 (by decide) (hts _ (List.mem_of_getElem? (i := 2) rfl)) (congrArg (fun z => some (Value.int z)) hC) dX5_tempted_30 ?_
      refine lv_icmp_ge (tgt := 65) hx hb dX5_tempted_33 (by decide) (fun hc => absurd hc (nI_ge (by omega) (by omega))) (fun _ => ?_)
      refine lv_aload_n hx hb dX5_tempted_36 rfl (lv_at hl 0 rfl) ?_
      refine x_get (v := .ref (ad 12)) hx hb hts hinX5 hown hK hP 0 (by decide) rfl rfl 2 (by decide) (hts _ (List.mem_of_getElem? (i := 1) rfl)) rfl dX5_tempted_37 ?_
      refine lv_iload_n hx hb dX5_tempted_40 rfl (lv_at hl 3 rfl) ?_
      refine lv_iload_n hx hb dX5_tempted_41 rfl (lv_at hl 1 rfl) ?_
      refine lv_aload_n hx hb dX5_tempted_42 rfl (lv_at hl 0 rfl) ?_
      refine x_get (v := .ref (ad 32)) hx hb hts hinX5 hown hK hP 0 (by decide) rfl rfl 4 (by decide) (hts _ (List.mem_of_getElem? (i := 3) rfl)) rfl dX5_tempted_43 ?_
      refine lv_iconst (v := 0) hx hb dX5_tempted_46 (by decide +kernel) ?_
      refine x_calli (x_runV (As := [.int (nI i), .int (nI y0), .ref (ad 32), .int 0]) (rest := []) hF (c4_wouldBreak hI S 32 (Or.inl rfl) N hN hN5 i y0 0 (by omega) (by omega) ) (cwV 4 hts gX5_tempted_X4_wouldBreak rfl rfl rfl (by decide +kernel) ⟨Nat.le_of_ble_eq_true rfl, Nat.le_of_ble_eq_true rfl⟩) hK hP (by decide) rfl rfl rfl hl.1 rfl (Nat.le_of_ble_eq_true rfl) dX5_tempted_47 ⟨Nat.zero_le _, Nat.zero_le _⟩) hS hAd (fun r47 S47 H locs hw hP _ hS => ?_)
      obtain ⟨hw, eS47⟩ := hw
      rw [eS47] at hP
      by_cases q47 : cT S N 32 0 i y0 = true
      · have hw : r47 = 1 := hw.trans (if_pos q47)
        subst hw
        refine lv_if_eq (tgt := 59) hx hb dX5_tempted_50 (by decide) (fun hc => absurd hc (by decide)) (fun _ => ?_)
        refine lv_iload_n hx hb dX5_tempted_53 rfl (lv_at hl 2 rfl) ?_
        refine lv_iconst (v := 1) hx hb dX5_tempted_54 (by decide +kernel) ?_
        refine lv_iload_n hx hb dX5_tempted_55 rfl (lv_at hl 3 rfl) ?_
        refine lv_ishl hx hb dX5_tempted_56 ?_
        refine lv_ior hx hb dX5_tempted_57 ?_
        refine lv_topi (fun x58 ex58 => ?_)
        refine lv_istore_n (lv' := [(2, .int x58), (0, .ref (ad 0)), (1, .int (nI y0)), (3, .int (nI i))]) hx hb dX5_tempted_58 rfl hl (by decide) rfl (fun ls hl => ?_)
        refine lv_iinc (v := nI (i + 1)) (lv' := [(3, .int (nI (i + 1))), (2, .int x58), (0, .ref (ad 0)), (1, .int (nI y0))]) hx hb dX5_tempted_59 hl (k := 3) rfl (nI_1 _) (by decide) rfl (fun ls hl => ?_)
        refine lv_goto (tgt := 25) hx hb dX5_tempted_62 (by decide) ?_
        exact ih (i + 1) x58 (by omega) (hv.trans (congrArg (orL (fun c => if cT S N 32 0 c y0 = true then (1 : Int32) <<< (nI c &&& 31) else 0) n (i + 1)) (show a ||| (fun c => if cT S N 32 0 c y0 = true then (1 : Int32) <<< (nI c &&& 31) else 0) i = x58 from by subst ex58; simp [q47]))) H locs ls hP hS (lv_sub hl [2, 3, 1, 0] rfl)
      · have hw : r47 = 0 := hw.trans (if_neg q47)
        subst hw
        refine lv_if_eq (tgt := 59) hx hb dX5_tempted_50 (by decide) (fun _ => ?_) (fun hc => absurd (by decide) hc)
        refine lv_iinc (v := nI (i + 1)) (lv' := [(3, .int (nI (i + 1))), (0, .ref (ad 0)), (1, .int (nI y0)), (2, .int a)]) hx hb dX5_tempted_59 hl (k := 3) rfl (nI_1 _) (by decide) rfl (fun ls hl => ?_)
        refine lv_goto (tgt := 25) hx hb dX5_tempted_62 (by decide) ?_
        exact ih (i + 1) a (by omega) (hv.trans (congrArg (orL (fun c => if cT S N 32 0 c y0 = true then (1 : Int32) <<< (nI c &&& 31) else 0) n (i + 1)) (show a ||| (fun c => if cT S N 32 0 c y0 = true then (1 : Int32) <<< (nI c &&& 31) else 0) i = a from by skip; simp [q47]))) H locs ls hP hS (lv_sub hl [1, 2, 3, 0] rfl)
  refine lv_aload_n hx hb dX5_tempted_0 rfl (lv_at hl 0 rfl) ?_
  refine x_calli (x_runV (As := []) (rest := []) hF (c5_hasTreaty hI S  ) (cwV 0 hts gX5_tempted_X5_hasTreaty rfl rfl rfl (by decide +kernel) ⟨Nat.le_of_ble_eq_true rfl, Nat.le_of_ble_eq_true rfl⟩) hK hP (by decide) rfl rfl rfl hl.1 rfl (Nat.le_of_ble_eq_true rfl) dX5_tempted_1 ⟨Nat.zero_le _, Nat.zero_le _⟩) hS hAd (fun r1 S1 H locs hw hP _ hS => ?_)
  obtain ⟨hw, eS1⟩ := hw
  rw [eS1] at hP
  by_cases q1 : ¬ S 12 2 ≤ 0
  · have hw : r1 = 1 := hw.trans (if_pos q1)
    subst hw
    refine lv_if_ne (tgt := 10) hx hb dX5_tempted_4 (by decide) (fun _ => ?_) (fun hc => absurd hc (by decide))
    refine lv_aload_n hx hb dX5_tempted_10 rfl (lv_at hl 0 rfl) ?_
    refine lv_iload_n hx hb dX5_tempted_11 rfl (lv_at hl 1 rfl) ?_
    refine x_calli (x_runV (As := [.int (nI y0)]) (rest := []) hF (c5_isYear hI S (nI y0) ) (cwV 1 hts gX5_tempted_X5_isYear rfl rfl rfl (by decide +kernel) ⟨Nat.le_of_ble_eq_true rfl, Nat.le_of_ble_eq_true rfl⟩) hK hP (by decide) rfl rfl rfl hl.1 rfl (Nat.le_of_ble_eq_true rfl) dX5_tempted_12 ⟨Nat.zero_le _, Nat.zero_le _⟩) hS hAd (fun r12 S12 H locs hw hP _ hS => ?_)
    obtain ⟨hw, eS12⟩ := hw
    rw [eS12] at hP
    by_cases q12 : inR (nI y0) (S 12 1) = true
    · have hw : r12 = 1 := hw.trans (if_pos q12)
      subst hw
      refine lv_if_ne (tgt := 21) hx hb dX5_tempted_15 (by decide) (fun _ => ?_) (fun hc => absurd hc (by decide))
      refine lv_iconst (v := 0) hx hb dX5_tempted_21 (by decide +kernel) ?_
      refine lv_istore_n (lv' := [(2, .int 0), (0, .ref (ad 0)), (1, .int (nI y0))]) hx hb dX5_tempted_22 rfl hl (by decide) rfl (fun ls hl => ?_)
      refine lv_iconst (v := 0) hx hb dX5_tempted_23 (by decide +kernel) ?_
      refine lv_istore_n (lv' := [(3, .int 0), (2, .int 0), (0, .ref (ad 0)), (1, .int (nI y0))]) hx hb dX5_tempted_24 rfl hl (by decide) rfl (fun ls hl => ?_)
      exact L25 C 0 0 (Nat.zero_add C) rfl _ _ ls hP hS (lv_sub hl [2, 3, 1, 0] rfl)
    · have hw : r12 = 0 := hw.trans (if_neg q12)
      subst hw
      exact absurd (by rw [hY]; exact inR_nI hy0 (by omega)) q12
  · have hw : r1 = 0 := hw.trans (if_neg q1)
    subst hw
    exact absurd (by rw [hN]; exact nI_nle hN0 (by omega)) q1

set_option maxHeartbeats 4000000 in
set_option maxRecDepth 100000 in
theorem c5_tempted_f (hI : xI 42 ad) (S : xSt) (yn : Int32) (hno : S 12 2 ≤ 0 ∨ ¬ inR yn (S 12 1) = true) : xMi l yX5_tempted wsX5_tempted ({ frames := 3, cells := 0, slots := 0, locals := 76 }) (dC, dI) vwCl (tyl cI cZ cS cG) (cLy cI cZ cS cG ad) 42 ad [.ref (ad 0), .int yn] S (fun r S' => r = (if S 12 2 ≤ 0 then -3 else -2) ∧ S' = S) := by
  refine xM_of (cc := cX5_tempted) (nL := 4) (ret := (some .int)) (by decide) rfl (Nat.le_of_ble_eq_true rfl) ?_
  intro p e s m below meth c ls B hl hK hP
  obtain ⟨hx, hb, hml, hown, hts, hr, hlocks⟩ := B
  have hl : lv_has ls 4 [(0, .ref (ad 0)), (1, .int yn)] := hl
  have hS : va_S (xA 42 ad) s.heap s.heap [] := va_S.rf
  have hAd : ∀ k, k < 42 → xA 42 ad (ad k) := xA_in
  have hF : CallFix p m c cX5_tempted 4 s _ wsX5_tempted RX5 := ⟨hx, hb, hml, hown, hts⟩
  refine lv_aload_n hx hb dX5_tempted_0 rfl (lv_at hl 0 rfl) ?_
  refine x_calli (x_runV (As := []) (rest := []) hF (c5_hasTreaty hI S  ) (cwV 0 hts gX5_tempted_X5_hasTreaty rfl rfl rfl (by decide +kernel) ⟨Nat.le_of_ble_eq_true rfl, Nat.le_of_ble_eq_true rfl⟩) hK hP (by decide) rfl rfl rfl hl.1 rfl (Nat.le_of_ble_eq_true rfl) dX5_tempted_1 ⟨Nat.zero_le _, Nat.zero_le _⟩) hS hAd (fun r1 S1 H locs hw hP _ hS => ?_)
  obtain ⟨hw, eS1⟩ := hw
  rw [eS1] at hP
  by_cases q1 : ¬ S 12 2 ≤ 0
  · have hw : r1 = 1 := hw.trans (if_pos q1)
    subst hw
    refine lv_if_ne (tgt := 10) hx hb dX5_tempted_4 (by decide) (fun _ => ?_) (fun hc => absurd hc (by decide))
    refine lv_aload_n hx hb dX5_tempted_10 rfl (lv_at hl 0 rfl) ?_
    refine lv_iload_n hx hb dX5_tempted_11 rfl (lv_at hl 1 rfl) ?_
    refine x_calli (x_runV (As := [.int yn]) (rest := []) hF (c5_isYear hI S yn ) (cwV 1 hts gX5_tempted_X5_isYear rfl rfl rfl (by decide +kernel) ⟨Nat.le_of_ble_eq_true rfl, Nat.le_of_ble_eq_true rfl⟩) hK hP (by decide) rfl rfl rfl hl.1 rfl (Nat.le_of_ble_eq_true rfl) dX5_tempted_12 ⟨Nat.zero_le _, Nat.zero_le _⟩) hS hAd (fun r12 S12 H locs hw hP _ hS => ?_)
    obtain ⟨hw, eS12⟩ := hw
    rw [eS12] at hP
    by_cases q12 : inR yn (S 12 1) = true
    · have hw : r12 = 1 := hw.trans (if_pos q12)
      subst hw
      exact absurd q12 (hno.resolve_left q1)
    · have hw : r12 = 0 := hw.trans (if_neg q12)
      subst hw
      refine lv_if_ne (tgt := 21) hx hb dX5_tempted_15 (by decide) (fun hc => absurd (by decide) hc) (fun _ => ?_)
      refine lv_bipush (v := (-2)) hx hb dX5_tempted_18 (by decide +kernel) ?_
      refine x_iret hx hb hr hlocks hP hS dX5_tempted_20 ?_
      skip
      exact ⟨by first | (simp [q1, q12]; done) | grind, rfl⟩
  · have hw : r1 = 0 := hw.trans (if_neg q1)
    subst hw
    refine lv_if_ne (tgt := 10) hx hb dX5_tempted_4 (by decide) (fun hc => absurd (by decide) hc) (fun _ => ?_)
    refine lv_bipush (v := (-3)) hx hb dX5_tempted_7 (by decide +kernel) ?_
    refine x_iret hx hb hr hlocks hP hS dX5_tempted_9 ?_
    skip
    exact ⟨by first | (simp [q1]; done) | grind, rfl⟩

set_option maxHeartbeats 4000000 in
set_option maxRecDepth 100000 in
theorem c5_ofBreak (hI : xI 42 ad) (S : xSt) (b : Nat) (hb0 : b = 32 ∨ b = 35) (N : Nat) (hN : S 12 2 = nI N) (hN5 : N ≤ 5) (C : Nat) (hC : S 12 0 = nI C) (hC4 : C ≤ 4) (Y : Nat) (hY : S 12 1 = nI Y) (hY6 : Y ≤ 6) (wn : Int32) : xMi l yX5_ofBreak wsX5_ofBreak ({ frames := 5, cells := 0, slots := 0, locals := 123 }) (dC, dI) vwCl (tyl cI cZ cS cG) (cLy cI cZ cS cG ad) 42 ad [.ref (ad 0), .ref (ad b), .int wn] S (fun r S' => r = (if wn = 0 then cBrk S N C Y b 0 else if cBrk S N C Y b 0 = -9 then -9 else cFst S N C b 0 (nN (cBrk S N C Y b 0))) ∧ S' = S) := by
  refine xM_of (cc := cX5_ofBreak) (nL := 4) (ret := (some .int)) (by decide) rfl (Nat.le_of_ble_eq_true rfl) ?_
  intro p e s m below meth c ls B hl hK hP
  obtain ⟨hx, hb, hml, hown, hts, hr, hlocks⟩ := B
  have hl : lv_has ls 4 [(0, .ref (ad 0)), (1, .ref (ad b)), (2, .int wn)] := hl
  have hS : va_S (xA 42 ad) s.heap s.heap [] := va_S.rf
  have hAd : ∀ k, k < 42 → xA 42 ad (ad k) := xA_in
  have hinX5 : ∀ w ∈ wsX50, w ∈ wsX5_ofBreak := fun _ h => List.mem_cons_of_mem _ (List.mem_append_left _ (List.mem_append_left _ (List.mem_append_right _ h)))
  have hF : CallFix p m c cX5_ofBreak 4 s _ wsX5_ofBreak RX5 := ⟨hx, hb, hml, hown, hts⟩
  refine lv_aload_n hx hb dX5_ofBreak_0 rfl (lv_at hl 0 rfl) ?_
  refine x_get (v := .ref (ad 12)) hx hb hts hinX5 hown hK hP 0 (by decide) rfl rfl 2 (by decide) (hts _ (List.mem_of_getElem? (i := 1) rfl)) rfl dX5_ofBreak_1 ?_
  refine lv_aload_n hx hb dX5_ofBreak_4 rfl (lv_at hl 1 rfl) ?_
  refine lv_iconst (v := 0) hx hb dX5_ofBreak_5 (by decide +kernel) ?_
  refine x_calli (x_runV (As := [.ref (ad b), .int 0]) (rest := []) hF (c4_breakYear hI S b hb0 N hN hN5 C hC hC4 Y hY hY6 0 ) (cwV 2 hts gX5_ofBreak_X4_breakYear rfl rfl rfl (by decide +kernel) ⟨Nat.le_of_ble_eq_true rfl, Nat.le_of_ble_eq_true rfl⟩) hK hP (by decide) rfl rfl rfl hl.1 rfl (Nat.le_of_ble_eq_true rfl) dX5_ofBreak_6 ⟨Nat.zero_le _, Nat.zero_le _⟩) hS hAd (fun r6 S6 H locs hw hP _ hS => ?_)
  obtain ⟨hw, eS6⟩ := hw
  rw [eS6] at hP
  rcases scan_cases (fun y => decide (¬ cFst S N C b 0 y = -9)) Y 0 with hb9 | ⟨y0, -, hy0, -, hb9⟩
  · have hb9 : cBrk S N C Y b 0 = _ := hb9
    rw [hb9] at hw
    subst hw
    refine lv_istore_n (lv' := [(3, .int (-9)), (0, .ref (ad 0)), (1, .ref (ad b)), (2, .int wn)]) hx hb dX5_ofBreak_9 rfl hl (by decide) rfl (fun ls hl => ?_)
    refine lv_iload_n hx hb dX5_ofBreak_10 rfl (lv_at hl 3 rfl) ?_
    refine lv_if_eq (tgt := 20) hx hb dX5_ofBreak_11 (by decide) (fun c11 => ?_) (fun c11 => ?_)
    · refine lv_iload_n hx hb dX5_ofBreak_20 rfl (lv_at hl 0 rfl) ?_
      refine lv_goto (tgt := 34) hx hb dX5_ofBreak_21 (by decide) ?_
      refine x_iret hx hb hr hlocks hP hS dX5_ofBreak_34 ?_
      skip
      exact ⟨by simp [hb9, c11], rfl⟩
    · refine lv_iload_n hx hb dX5_ofBreak_14 rfl (lv_at hl 0 rfl) ?_
      refine lv_bipush (v := (-9)) hx hb dX5_ofBreak_15 (by decide +kernel) ?_
      refine lv_icmp_ne (tgt := 24) hx hb dX5_ofBreak_17 (by decide) (fun hc => absurd (by decide) hc) (fun _ => ?_)
      refine lv_iload_n hx hb dX5_ofBreak_20 rfl (lv_at hl 0 rfl) ?_
      refine lv_goto (tgt := 34) hx hb dX5_ofBreak_21 (by decide) ?_
      refine x_iret hx hb hr hlocks hP hS dX5_ofBreak_34 ?_
      skip
      exact ⟨by simp [hb9, c11], rfl⟩
  · have hb9 : cBrk S N C Y b 0 = _ := hb9
    rw [hb9] at hw
    subst hw
    refine lv_istore_n (lv' := [(3, .int (nI y0)), (0, .ref (ad 0)), (1, .ref (ad b)), (2, .int wn)]) hx hb dX5_ofBreak_9 rfl hl (by decide) rfl (fun ls hl => ?_)
    refine lv_iload_n hx hb dX5_ofBreak_10 rfl (lv_at hl 3 rfl) ?_
    refine lv_if_eq (tgt := 20) hx hb dX5_ofBreak_11 (by decide) (fun c11 => ?_) (fun c11 => ?_)
    · refine lv_iload_n hx hb dX5_ofBreak_20 rfl (lv_at hl 0 rfl) ?_
      refine lv_goto (tgt := 34) hx hb dX5_ofBreak_21 (by decide) ?_
      refine x_iret hx hb hr hlocks hP hS dX5_ofBreak_34 ?_
      skip
      exact ⟨by rw [hb9]; simp [nN_nI (show y0 < 2 ^ 31 by omega), nI_ne9 (show y0 < 2 ^ 31 by omega), hb9, c11], rfl⟩
    · refine lv_iload_n hx hb dX5_ofBreak_14 rfl (lv_at hl 0 rfl) ?_
      refine lv_bipush (v := (-9)) hx hb dX5_ofBreak_15 (by decide +kernel) ?_
      refine lv_icmp_ne (tgt := 24) hx hb dX5_ofBreak_17 (by decide) (fun _ => ?_) (fun hc => absurd hc (nI_ne9 (by omega)))
      refine lv_aload_n hx hb dX5_ofBreak_24 rfl (lv_at hl 1 rfl) ?_
      refine x_get (v := .ref (ad 12)) hx hb hts hinX5 hown hK hP 0 (by decide) rfl rfl 2 (by decide) (hts _ (List.mem_of_getElem? (i := 1) rfl)) rfl dX5_ofBreak_25 ?_
      refine lv_iload_n hx hb dX5_ofBreak_28 rfl (lv_at hl 0 rfl) ?_
      refine lv_aload_n hx hb dX5_ofBreak_29 rfl (lv_at hl 2 rfl) ?_
      refine lv_iconst (v := 0) hx hb dX5_ofBreak_30 (by decide +kernel) ?_
      refine x_calli (x_runV (As := [.int (nI y0), .ref (ad b), .int 0]) (rest := []) hF (c4_firstToBreak hI S b hb0 N hN hN5 C hC hC4 y0 0 (by omega) ) (cwV 3 hts gX5_ofBreak_X4_firstToBreak rfl rfl rfl (by decide +kernel) ⟨Nat.le_of_ble_eq_true rfl, Nat.le_of_ble_eq_true rfl⟩) hK hP (by decide) rfl rfl rfl hl.1 rfl (Nat.le_of_ble_eq_true rfl) dX5_ofBreak_31 ⟨Nat.zero_le _, Nat.zero_le _⟩) hS hAd (fun r31 S31 H locs hw hP _ hS => ?_)
      obtain ⟨er31, eS31⟩ := hw
      rw [eS31] at hP
      refine x_iret hx hb hr hlocks hP hS dX5_ofBreak_34 ?_
      subst er31
      exact ⟨by rw [hb9]; simp [nN_nI (show y0 < 2 ^ 31 by omega), nI_ne9 (show y0 < 2 ^ 31 by omega), hb9, c11], rfl⟩

set_option maxHeartbeats 4000000 in
set_option maxRecDepth 100000 in
theorem c5_broken (hI : xI 42 ad) (S : xSt) (N : Nat) (hN : S 12 2 = nI N) (hN5 : N ≤ 5) (C : Nat) (hC : S 12 0 = nI C) (hC4 : C ≤ 4) (Y : Nat) (hY : S 12 1 = nI Y) (hY6 : Y ≤ 6) (wn : Int32) : xMi l yX5_broken wsX5_broken ({ frames := 6, cells := 0, slots := 0, locals := 146 }) (dC, dI) vwCl (tyl cI cZ cS cG) (cLy cI cZ cS cG ad) 42 ad [.ref (ad 0), .int wn] S (fun r S' => r = (if wn = 0 ∨ wn = 1 then (if S 12 2 ≤ 0 then -3 else if wn = 0 then cBrk S N C Y 32 0 else if cBrk S N C Y 32 0 = -9 then -9 else cFst S N C 32 0 (nN (cBrk S N C Y 32 0))) else -2) ∧ S' = S) := by
  refine xM_of (cc := cX5_broken) (nL := 2) (ret := (some .int)) (by decide) rfl (Nat.le_of_ble_eq_true rfl) ?_
  intro p e s m below meth c ls B hl hK hP
  obtain ⟨hx, hb, hml, hown, hts, hr, hlocks⟩ := B
  have hl : lv_has ls 2 [(0, .ref (ad 0)), (1, .int wn)] := hl
  have hS : va_S (xA 42 ad) s.heap s.heap [] := va_S.rf
  have hAd : ∀ k, k < 42 → xA 42 ad (ad k) := xA_in
  have hinX5 : ∀ w ∈ wsX50, w ∈ wsX5_broken := fun _ h => List.mem_cons_of_mem _ (List.mem_append_left _ (List.mem_append_left _ (List.mem_append_right _ h)))
  have hF : CallFix p m c cX5_broken 2 s _ wsX5_broken RX5 := ⟨hx, hb, hml, hown, hts⟩
  refine lv_iload_n hx hb dX5_broken_0 rfl (lv_at hl 1 rfl) ?_
  refine lv_if_eq (tgt := 12) hx hb dX5_broken_1 (by decide) (fun c1 => ?_) (fun c1 => ?_)
  · refine lv_aload_n hx hb dX5_broken_12 rfl (lv_at hl 0 rfl) ?_
    refine x_calli (x_runV (As := []) (rest := []) hF (c5_hasTreaty hI S  ) (cwV 0 hts gX5_broken_X5_hasTreaty rfl rfl rfl (by decide +kernel) ⟨Nat.le_of_ble_eq_true rfl, Nat.le_of_ble_eq_true rfl⟩) hK hP (by decide) rfl rfl rfl hl.1 rfl (Nat.le_of_ble_eq_true rfl) dX5_broken_13 ⟨Nat.zero_le _, Nat.zero_le _⟩) hS hAd (fun r13 S13 H locs hw hP _ hS => ?_)
    obtain ⟨hw, eS13⟩ := hw
    rw [eS13] at hP
    by_cases q13 : ¬ S 12 2 ≤ 0
    · have hw : r13 = 1 := hw.trans (if_pos q13)
      subst hw
      refine lv_if_ne (tgt := 22) hx hb dX5_broken_16 (by decide) (fun _ => ?_) (fun hc => absurd hc (by decide))
      refine lv_aload_n hx hb dX5_broken_22 rfl (lv_at hl 0 rfl) ?_
      refine lv_aload_n hx hb dX5_broken_23 rfl (lv_at hl 0 rfl) ?_
      refine x_get (v := .ref (ad 32)) hx hb hts hinX5 hown hK hP 0 (by decide) rfl rfl 4 (by decide) (hts _ (List.mem_of_getElem? (i := 1) rfl)) rfl dX5_broken_24 ?_
      refine lv_iload_n hx hb dX5_broken_27 rfl (lv_at hl 1 rfl) ?_
      refine x_calli (x_runV (As := [.ref (ad 32), .int wn]) (rest := []) hF (c5_ofBreak hI S 32 (Or.inl rfl) N hN hN5 C hC hC4 Y hY hY6 wn ) (cwV 2 hts gX5_broken_X5_ofBreak rfl rfl rfl (by decide +kernel) ⟨Nat.le_of_ble_eq_true rfl, Nat.le_of_ble_eq_true rfl⟩) hK hP (by decide) rfl rfl rfl hl.1 rfl (Nat.le_of_ble_eq_true rfl) dX5_broken_28 ⟨Nat.zero_le _, Nat.zero_le _⟩) hS hAd (fun r28 S28 H locs hw hP _ hS => ?_)
      obtain ⟨er28, eS28⟩ := hw
      rw [eS28] at hP
      refine x_iret hx hb hr hlocks hP hS dX5_broken_31 ?_
      subst er28
      exact ⟨by first | (simp [c1, q13]; done) | grind, rfl⟩
    · have hw : r13 = 0 := hw.trans (if_neg q13)
      subst hw
      refine lv_if_ne (tgt := 22) hx hb dX5_broken_16 (by decide) (fun hc => absurd (by decide) hc) (fun _ => ?_)
      refine lv_bipush (v := (-3)) hx hb dX5_broken_19 (by decide +kernel) ?_
      refine x_iret hx hb hr hlocks hP hS dX5_broken_21 ?_
      skip
      exact ⟨by first | (simp [c1, q13]; done) | grind, rfl⟩
  · refine lv_iload_n hx hb dX5_broken_4 rfl (lv_at hl 1 rfl) ?_
    refine lv_iconst (v := 1) hx hb dX5_broken_5 (by decide +kernel) ?_
    refine lv_icmp_eq (tgt := 12) hx hb dX5_broken_6 (by decide) (fun c6 => ?_) (fun c6 => ?_)
    · refine lv_aload_n hx hb dX5_broken_12 rfl (lv_at hl 0 rfl) ?_
      refine x_calli (x_runV (As := []) (rest := []) hF (c5_hasTreaty hI S  ) (cwV 0 hts gX5_broken_X5_hasTreaty rfl rfl rfl (by decide +kernel) ⟨Nat.le_of_ble_eq_true rfl, Nat.le_of_ble_eq_true rfl⟩) hK hP (by decide) rfl rfl rfl hl.1 rfl (Nat.le_of_ble_eq_true rfl) dX5_broken_13 ⟨Nat.zero_le _, Nat.zero_le _⟩) hS hAd (fun r13 S13 H locs hw hP _ hS => ?_)
      obtain ⟨hw, eS13⟩ := hw
      rw [eS13] at hP
      by_cases q13 : ¬ S 12 2 ≤ 0
      · have hw : r13 = 1 := hw.trans (if_pos q13)
        subst hw
        refine lv_if_ne (tgt := 22) hx hb dX5_broken_16 (by decide) (fun _ => ?_) (fun hc => absurd hc (by decide))
        refine lv_aload_n hx hb dX5_broken_22 rfl (lv_at hl 0 rfl) ?_
        refine lv_aload_n hx hb dX5_broken_23 rfl (lv_at hl 0 rfl) ?_
        refine x_get (v := .ref (ad 32)) hx hb hts hinX5 hown hK hP 0 (by decide) rfl rfl 4 (by decide) (hts _ (List.mem_of_getElem? (i := 1) rfl)) rfl dX5_broken_24 ?_
        refine lv_iload_n hx hb dX5_broken_27 rfl (lv_at hl 1 rfl) ?_
        refine x_calli (x_runV (As := [.ref (ad 32), .int wn]) (rest := []) hF (c5_ofBreak hI S 32 (Or.inl rfl) N hN hN5 C hC hC4 Y hY hY6 wn ) (cwV 2 hts gX5_broken_X5_ofBreak rfl rfl rfl (by decide +kernel) ⟨Nat.le_of_ble_eq_true rfl, Nat.le_of_ble_eq_true rfl⟩) hK hP (by decide) rfl rfl rfl hl.1 rfl (Nat.le_of_ble_eq_true rfl) dX5_broken_28 ⟨Nat.zero_le _, Nat.zero_le _⟩) hS hAd (fun r28 S28 H locs hw hP _ hS => ?_)
        obtain ⟨er28, eS28⟩ := hw
        rw [eS28] at hP
        refine x_iret hx hb hr hlocks hP hS dX5_broken_31 ?_
        subst er28
        exact ⟨by first | (simp [c1, c6, q13]; done) | grind, rfl⟩
      · have hw : r13 = 0 := hw.trans (if_neg q13)
        subst hw
        refine lv_if_ne (tgt := 22) hx hb dX5_broken_16 (by decide) (fun hc => absurd (by decide) hc) (fun _ => ?_)
        refine lv_bipush (v := (-3)) hx hb dX5_broken_19 (by decide +kernel) ?_
        refine x_iret hx hb hr hlocks hP hS dX5_broken_21 ?_
        skip
        exact ⟨by first | (simp [c1, c6, q13]; done) | grind, rfl⟩
    · refine lv_bipush (v := (-2)) hx hb dX5_broken_9 (by decide +kernel) ?_
      refine x_iret hx hb hr hlocks hP hS dX5_broken_11 ?_
      skip
      exact ⟨by first | (simp [c1, c6]; done) | grind, rfl⟩

set_option maxHeartbeats 4000000 in
set_option maxRecDepth 100000 in
theorem c5_sonTells (hI : xI 42 ad) (S : xSt) (j : Nat) (hj : j < 5) : xMi l yX5_sonTells wsX5_sonTells ({ frames := 1, cells := 0, slots := 0, locals := 21 }) (dC, dI) vwCl (tyl cI cZ cS cG) (cLy cI cZ cS cG ad) 42 ad [.ref (ad 0), .int (nI j)] S (fun r S' => r = S 20 j ∧ S' = su S 0 7 (31 * S 0 7 + 1)) := by
  refine xM_of (cc := cX5_sonTells) (nL := 2) (ret := (some .int)) (by decide) rfl (Nat.le_of_ble_eq_true rfl) ?_
  intro p e s m below meth c ls B hl hK hP
  obtain ⟨hx, hb, hml, hown, hts, hr, hlocks⟩ := B
  have hl : lv_has ls 2 [(0, .ref (ad 0)), (1, .int (nI j))] := hl
  have hS : va_S (xA 42 ad) s.heap s.heap [] := va_S.rf
  have hAd : ∀ k, k < 42 → xA 42 ad (ad k) := xA_in
  have hinX4 : ∀ w ∈ wsX40, w ∈ wsX5_sonTells := fun _ h => List.mem_cons_of_mem _ (List.mem_append_right _ h)
  have hinX5 : ∀ w ∈ wsX50, w ∈ wsX5_sonTells := fun _ h => List.mem_cons_of_mem _ (List.mem_append_left _ (List.mem_append_right _ h))
  have hF : CallFix p m c cX5_sonTells 2 s _ wsX5_sonTells RX5 := ⟨hx, hb, hml, hown, hts⟩
  refine lv_aload_n hx hb dX5_sonTells_0 rfl (lv_at hl 0 rfl) ?_
  refine lv_iconst (v := 1) hx hb dX5_sonTells_1 (by decide +kernel) ?_
  refine x_callv (x_runV (As := [.int 1]) (rest := []) hF (c5_leaveTrace hI S 1 ) (cwV 1 hts gX5_sonTells_X5_leaveTrace rfl rfl rfl (by decide +kernel) ⟨Nat.le_of_ble_eq_true rfl, Nat.le_of_ble_eq_true rfl⟩) hK hP (by decide) rfl rfl rfl hl.1 rfl (Nat.le_of_ble_eq_true rfl) dX5_sonTells_2 ⟨Nat.zero_le _, Nat.zero_le _⟩) hS hAd (fun S2 H locs hw hP _ hS => ?_)
  rw [hw] at hP
  refine lv_aload_n hx hb dX5_sonTells_5 rfl (lv_at hl 0 rfl) ?_
  refine x_get (v := .ref (ad 12)) hx hb hts hinX5 hown hK hP 0 (by decide) rfl rfl 2 (by decide) (hts _ (List.mem_of_getElem? (i := 1) rfl)) rfl dX5_sonTells_6 ?_
  refine x_get (v := .ref (ad 20)) hx hb hts hinX4 hown hK hP 12 (by decide) rfl rfl 6 (by decide) (hts _ (List.mem_of_getElem? (i := 2) rfl)) rfl dX5_sonTells_9 ?_
  refine lv_iload_n hx hb dX5_sonTells_12 rfl (lv_at hl 1 rfl) ?_
  refine x_iald (v := S 20 j) hx hb hK hP 20 0 (by decide) rfl rfl j rfl (by omega) (by decide) rfl dX5_sonTells_13 ?_
  refine x_iret hx hb hr hlocks hP hS dX5_sonTells_14 ?_
  exact ⟨rfl, rfl⟩

set_option maxHeartbeats 4000000 in
set_option maxRecDepth 100000 in
theorem c5_heirTells (hI : xI 42 ad) (S : xSt) (j : Nat) (hj : j < 5) : xMi l yX5_heirTells wsX5_heirTells ({ frames := 2, cells := 0, slots := 0, locals := 42 }) (dC, dI) vwCl (tyl cI cZ cS cG) (cLy cI cZ cS cG ad) 42 ad [.ref (ad 0), .int (nI j)] S (fun r S' => r = S 20 j + 100 ∧ S' = su S 0 7 (31 * (31 * S 0 7 + 2) + 1)) := by
  refine xM_of (cc := cX5_heirTells) (nL := 2) (ret := (some .int)) (by decide) rfl (Nat.le_of_ble_eq_true rfl) ?_
  intro p e s m below meth c ls B hl hK hP
  obtain ⟨hx, hb, hml, hown, hts, hr, hlocks⟩ := B
  have hl : lv_has ls 2 [(0, .ref (ad 0)), (1, .int (nI j))] := hl
  have hS : va_S (xA 42 ad) s.heap s.heap [] := va_S.rf
  have hAd : ∀ k, k < 42 → xA 42 ad (ad k) := xA_in
  have hF : CallFix p m c cX5_heirTells 2 s _ wsX5_heirTells RX5 := ⟨hx, hb, hml, hown, hts⟩
  refine lv_aload_n hx hb dX5_heirTells_0 rfl (lv_at hl 0 rfl) ?_
  refine lv_iconst (v := 2) hx hb dX5_heirTells_1 (by decide +kernel) ?_
  refine x_callv (x_runV (As := [.int 2]) (rest := []) hF (c5_leaveTrace hI S 2 ) (cwV 1 hts gX5_heirTells_X5_leaveTrace rfl rfl rfl (by decide +kernel) ⟨Nat.le_of_ble_eq_true rfl, Nat.le_of_ble_eq_true rfl⟩) hK hP (by decide) rfl rfl rfl hl.1 rfl (Nat.le_of_ble_eq_true rfl) dX5_heirTells_2 ⟨Nat.zero_le _, Nat.zero_le _⟩) hS hAd (fun S2 H locs hw hP _ hS => ?_)
  rw [hw] at hP
  refine lv_aload_n hx hb dX5_heirTells_5 rfl (lv_at hl 0 rfl) ?_
  refine lv_iload_n hx hb dX5_heirTells_6 rfl (lv_at hl 1 rfl) ?_
  refine x_calli (x_runV (As := [.int (nI j)]) (rest := []) hF (c5_sonTells hI (su S 0 7 (31 * (S 0 7) + 2)) j (by omega) ) (cwV 1 hts gX5_heirTells_X5_sonTells rfl rfl rfl (by decide +kernel) ⟨Nat.le_of_ble_eq_true rfl, Nat.le_of_ble_eq_true rfl⟩) hK hP (by decide) rfl rfl rfl hl.1 rfl (Nat.le_of_ble_eq_true rfl) dX5_heirTells_7 ⟨Nat.zero_le _, Nat.zero_le _⟩) hS hAd (fun r7 S7 H locs hw hP _ hS => ?_)
  obtain ⟨er7, eS7⟩ := hw
  rw [eS7] at hP
  refine lv_bipush (v := 100) hx hb dX5_heirTells_10 (by decide +kernel) ?_
  refine lv_iadd hx hb dX5_heirTells_12 ?_
  refine x_iret hx hb hr hlocks hP hS dX5_heirTells_13 ?_
  subst er7
  exact ⟨rfl, su_su _ _ _ _ _⟩

set_option maxHeartbeats 4000000 in
set_option maxRecDepth 100000 in
theorem c5_pageTells (hI : xI 42 ad) (S : xSt) (j : Nat) (hj : j < 5) : xMi l yX5_pageTells wsX5_pageTells ({ frames := 3, cells := 0, slots := 0, locals := 63 }) (dC, dI) vwCl (tyl cI cZ cS cG) (cLy cI cZ cS cG ad) 42 ad [.ref (ad 0), .int (nI j)] S (fun r S' => r = S 20 j + 100 + S 20 j ∧ S' = su S 0 7 (31 * (31 * (31 * (31 * S 0 7 + 3) + 2) + 1) + 1)) := by
  refine xM_of (cc := cX5_pageTells) (nL := 3) (ret := (some .int)) (by decide) rfl (Nat.le_of_ble_eq_true rfl) ?_
  intro p e s m below meth c ls B hl hK hP
  obtain ⟨hx, hb, hml, hown, hts, hr, hlocks⟩ := B
  have hl : lv_has ls 3 [(0, .ref (ad 0)), (1, .int (nI j))] := hl
  have hS : va_S (xA 42 ad) s.heap s.heap [] := va_S.rf
  have hAd : ∀ k, k < 42 → xA 42 ad (ad k) := xA_in
  have hF : CallFix p m c cX5_pageTells 3 s _ wsX5_pageTells RX5 := ⟨hx, hb, hml, hown, hts⟩
  refine lv_aload_n hx hb dX5_pageTells_0 rfl (lv_at hl 0 rfl) ?_
  refine lv_iconst (v := 3) hx hb dX5_pageTells_1 (by decide +kernel) ?_
  refine x_callv (x_runV (As := [.int 3]) (rest := []) hF (c5_leaveTrace hI S 3 ) (cwV 1 hts gX5_pageTells_X5_leaveTrace rfl rfl rfl (by decide +kernel) ⟨Nat.le_of_ble_eq_true rfl, Nat.le_of_ble_eq_true rfl⟩) hK hP (by decide) rfl rfl rfl hl.1 rfl (Nat.le_of_ble_eq_true rfl) dX5_pageTells_2 ⟨Nat.zero_le _, Nat.zero_le _⟩) hS hAd (fun S2 H locs hw hP _ hS => ?_)
  rw [hw] at hP
  refine lv_aload_n hx hb dX5_pageTells_5 rfl (lv_at hl 0 rfl) ?_
  refine lv_iload_n hx hb dX5_pageTells_6 rfl (lv_at hl 1 rfl) ?_
  refine x_calli (x_runV (As := [.int (nI j)]) (rest := []) hF (c5_heirTells hI (su S 0 7 (31 * (S 0 7) + 3)) j (by omega) ) (cwV 1 hts gX5_pageTells_X5_heirTells rfl rfl rfl (by decide +kernel) ⟨Nat.le_of_ble_eq_true rfl, Nat.le_of_ble_eq_true rfl⟩) hK hP (by decide) rfl rfl rfl hl.1 rfl (Nat.le_of_ble_eq_true rfl) dX5_pageTells_7 ⟨Nat.zero_le _, Nat.zero_le _⟩) hS hAd (fun r7 S7 H locs hw hP _ hS => ?_)
  obtain ⟨er7, eS7⟩ := hw
  rw [eS7] at hP
  refine lv_istore_n (lv' := [(2, .int r7), (0, .ref (ad 0)), (1, .int (nI j))]) hx hb dX5_pageTells_10 rfl hl (by decide) rfl (fun ls hl => ?_)
  refine lv_iload_n hx hb dX5_pageTells_11 rfl (lv_at hl 0 rfl) ?_
  refine lv_aload_n hx hb dX5_pageTells_12 rfl (lv_at hl 1 rfl) ?_
  refine lv_iload_n hx hb dX5_pageTells_13 rfl (lv_at hl 2 rfl) ?_
  refine x_calli (x_runV (As := [.int (nI j)]) (rest := [.int r7]) hF (c5_sonTells hI (su (su S 0 7 (31 * (S 0 7) + 3)) 0 7 (31 * (31 * (31 * (S 0 7) + 3) + 2) + 1)) j (by omega) ) (cwV 1 hts gX5_pageTells_X5_sonTells rfl rfl rfl (by decide +kernel) ⟨Nat.le_of_ble_eq_true rfl, Nat.le_of_ble_eq_true rfl⟩) hK hP (by decide) rfl rfl rfl hl.1 rfl (Nat.le_of_ble_eq_true rfl) dX5_pageTells_14 ⟨Nat.zero_le _, Nat.zero_le _⟩) hS hAd (fun r14 S14 H locs hw hP _ hS => ?_)
  obtain ⟨er14, eS14⟩ := hw
  rw [eS14] at hP
  refine lv_iadd hx hb dX5_pageTells_17 ?_
  refine x_iret hx hb hr hlocks hP hS dX5_pageTells_18 ?_
  subst er7; subst er14
  exact ⟨rfl, by rw [su_su, su_su]; rfl⟩

set_option maxHeartbeats 4000000 in
set_option maxRecDepth 100000 in
theorem c5_tell (hI : xI 42 ad) (S : xSt) (N : Nat) (hN : S 12 2 = nI N) (hN5 : N ≤ 5) (sn : Int32) : xMi l yX5_tell wsX5_tell ({ frames := 4, cells := 0, slots := 0, locals := 85 }) (dC, dI) vwCl (tyl cI cZ cS cG) (cLy cI cZ cS cG ad) 42 ad [.ref (ad 0), .int sn] S (fun r S' => r = (if inR sn (S 12 2) then (if S 18 (nN sn) = 1 then S 20 (nN sn) + 100 else if S 18 (nN sn) = 2 then S 20 (nN sn) + 100 + S 20 (nN sn) else S 20 (nN sn)) else -1) ∧ S' = (if inR sn (S 12 2) then su S 0 7 (if S 18 (nN sn) = 1 then 31 * (31 * S 0 7 + 2) + 1 else if S 18 (nN sn) = 2 then 31 * (31 * (31 * (31 * S 0 7 + 3) + 2) + 1) + 1 else 31 * S 0 7 + 1) else S)) := by
  refine xM_of (cc := cX5_tell) (nL := 2) (ret := (some .int)) (by decide) rfl (Nat.le_of_ble_eq_true rfl) ?_
  intro p e s m below meth c ls B hl hK hP
  obtain ⟨hx, hb, hml, hown, hts, hr, hlocks⟩ := B
  have hl : lv_has ls 2 [(0, .ref (ad 0)), (1, .int sn)] := hl
  have hS : va_S (xA 42 ad) s.heap s.heap [] := va_S.rf
  have hAd : ∀ k, k < 42 → xA 42 ad (ad k) := xA_in
  have hinX4 : ∀ w ∈ wsX40, w ∈ wsX5_tell := fun _ h => List.mem_cons_of_mem _ (List.mem_append_right _ h)
  have hinX5 : ∀ w ∈ wsX50, w ∈ wsX5_tell := fun _ h => List.mem_cons_of_mem _ (List.mem_append_left _ (List.mem_append_right _ h))
  have hF : CallFix p m c cX5_tell 2 s _ wsX5_tell RX5 := ⟨hx, hb, hml, hown, hts⟩
  refine lv_aload_n hx hb dX5_tell_0 rfl (lv_at hl 0 rfl) ?_
  refine lv_iload_n hx hb dX5_tell_1 rfl (lv_at hl 1 rfl) ?_
  refine x_calli (x_runV (As := [.int sn]) (rest := []) hF (c5_isSon hI S sn ) (cwV 1 hts gX5_tell_X5_isSon rfl rfl rfl (by decide +kernel) ⟨Nat.le_of_ble_eq_true rfl, Nat.le_of_ble_eq_true rfl⟩) hK hP (by decide) rfl rfl rfl hl.1 rfl (Nat.le_of_ble_eq_true rfl) dX5_tell_2 ⟨Nat.zero_le _, Nat.zero_le _⟩) hS hAd (fun r2 S2 H locs hw hP _ hS => ?_)
  obtain ⟨hw, eS2⟩ := hw
  rw [eS2] at hP
  by_cases q2 : inR sn (S 12 2) = true
  · have hw : r2 = 1 := hw.trans (if_pos q2)
    subst hw
    obtain ⟨j2, hj2, rfl⟩ : ∃ j, j < N ∧ sn = nI j := inR_ex (by rw [← hN]; exact q2) (by omega)
    have en2 : nN (nI j2) = j2 := nN_nI (by omega)
    refine lv_if_ne (tgt := 10) hx hb dX5_tell_5 (by decide) (fun _ => ?_) (fun hc => absurd hc (by decide))
    refine lv_aload_n hx hb dX5_tell_10 rfl (lv_at hl 0 rfl) ?_
    refine x_get (v := .ref (ad 12)) hx hb hts hinX5 hown hK hP 0 (by decide) rfl rfl 2 (by decide) (hts _ (List.mem_of_getElem? (i := 1) rfl)) rfl dX5_tell_11 ?_
    refine x_get (v := .ref (ad 18)) hx hb hts hinX4 hown hK hP 12 (by decide) rfl rfl 4 (by decide) (hts _ (List.mem_of_getElem? (i := 2) rfl)) rfl dX5_tell_14 ?_
    refine lv_iload_n hx hb dX5_tell_17 rfl (lv_at hl 1 rfl) ?_
    refine x_iald (v := S 18 j2) hx hb hK hP 18 0 (by decide) rfl rfl j2 rfl (by omega) (by decide) rfl dX5_tell_18 ?_
    by_cases z19_1 : S 18 j2 = 1
    · refine W.eq (g2 := F0 m 19 ls (.int 1 :: [])) (by rw [z19_1]) ?_
      refine lv_lookup (tgt := 50) (off := 31) hx hb dX5_tell_19 (by decide +kernel) (by decide +kernel) (by decide) ?_
      refine lv_aload_n hx hb dX5_tell_50 rfl (lv_at hl 0 rfl) ?_
      refine lv_iload_n hx hb dX5_tell_51 rfl (lv_at hl 1 rfl) ?_
      refine x_calli (x_runV (As := [.int (nI j2)]) (rest := []) hF (c5_heirTells hI S j2 (by omega) ) (cwV 1 hts gX5_tell_X5_heirTells rfl rfl rfl (by decide +kernel) ⟨Nat.le_of_ble_eq_true rfl, Nat.le_of_ble_eq_true rfl⟩) hK hP (by decide) rfl rfl rfl hl.1 rfl (Nat.le_of_ble_eq_true rfl) dX5_tell_52 ⟨Nat.zero_le _, Nat.zero_le _⟩) hS hAd (fun r52 S52 H locs hw hP _ hS => ?_)
      obtain ⟨er52, eS52⟩ := hw
      rw [eS52] at hP
      refine x_iret hx hb hr hlocks hP hS dX5_tell_55 ?_
      subst er52
      exact ⟨by first | (simp [q2, en2, z19_1]; done) | grind, by first | (simp [q2, en2, z19_1]; done) | grind⟩
    · skip
      by_cases z19_2 : S 18 j2 = 2
      · refine W.eq (g2 := F0 m 19 ls (.int 2 :: [])) (by rw [z19_2]) ?_
        refine lv_lookup (tgt := 44) (off := 25) hx hb dX5_tell_19 (by decide +kernel) (by decide +kernel) (by decide) ?_
        refine lv_aload_n hx hb dX5_tell_44 rfl (lv_at hl 0 rfl) ?_
        refine lv_iload_n hx hb dX5_tell_45 rfl (lv_at hl 1 rfl) ?_
        refine x_calli (x_runV (As := [.int (nI j2)]) (rest := []) hF (c5_pageTells hI S j2 (by omega) ) (cwV 1 hts gX5_tell_X5_pageTells rfl rfl rfl (by decide +kernel) ⟨Nat.le_of_ble_eq_true rfl, Nat.le_of_ble_eq_true rfl⟩) hK hP (by decide) rfl rfl rfl hl.1 rfl (Nat.le_of_ble_eq_true rfl) dX5_tell_46 ⟨Nat.zero_le _, Nat.zero_le _⟩) hS hAd (fun r46 S46 H locs hw hP _ hS => ?_)
        obtain ⟨er46, eS46⟩ := hw
        rw [eS46] at hP
        refine x_iret hx hb hr hlocks hP hS dX5_tell_49 ?_
        subst er46
        exact ⟨by first | (simp [q2, en2, z19_1, z19_2]; done) | grind, by first | (simp [q2, en2, z19_1, z19_2]; done) | grind⟩
      · skip
        refine lv_lookup (tgt := 56) (off := 37) hx hb dX5_tell_19 (by decide +kernel) (outL1_2 z19_1 z19_2) (by decide) ?_
        refine lv_aload_n hx hb dX5_tell_56 rfl (lv_at hl 0 rfl) ?_
        refine lv_iload_n hx hb dX5_tell_57 rfl (lv_at hl 1 rfl) ?_
        refine x_calli (x_runV (As := [.int (nI j2)]) (rest := []) hF (c5_sonTells hI S j2 (by omega) ) (cwV 1 hts gX5_tell_X5_sonTells rfl rfl rfl (by decide +kernel) ⟨Nat.le_of_ble_eq_true rfl, Nat.le_of_ble_eq_true rfl⟩) hK hP (by decide) rfl rfl rfl hl.1 rfl (Nat.le_of_ble_eq_true rfl) dX5_tell_58 ⟨Nat.zero_le _, Nat.zero_le _⟩) hS hAd (fun r58 S58 H locs hw hP _ hS => ?_)
        obtain ⟨er58, eS58⟩ := hw
        rw [eS58] at hP
        refine x_iret hx hb hr hlocks hP hS dX5_tell_61 ?_
        subst er58
        exact ⟨by first | (simp [q2, en2, z19_1, z19_2]; done) | grind, by first | (simp [q2, en2, z19_1, z19_2]; done) | grind⟩
  · have hw : r2 = 0 := hw.trans (if_neg q2)
    subst hw
    refine lv_if_ne (tgt := 10) hx hb dX5_tell_5 (by decide) (fun hc => absurd (by decide) hc) (fun _ => ?_)
    refine lv_iconst (v := (-1)) hx hb dX5_tell_8 (by decide +kernel) ?_
    refine x_iret hx hb hr hlocks hP hS dX5_tell_9 ?_
    skip
    exact ⟨by first | (simp [q2]; done) | grind, by first | (simp [q2]; done) | grind⟩

set_option maxHeartbeats 4000000 in
set_option maxRecDepth 100000 in
theorem c5_teach (hI : xI 42 ad) (S : xSt) (N : Nat) (hN : S 12 2 = nI N) (hN5 : N ≤ 5) (sn : Int32) : xMi l yX5_teach wsX5_teach ({ frames := 1, cells := 0, slots := 0, locals := 21 }) (dC, dI) vwCl (tyl cI cZ cS cG) (cLy cI cZ cS cG ad) 42 ad [.ref (ad 0), .int sn] S (fun r S' => r = (if inR sn (S 12 2) then (if S 18 (nN sn) = 2 then 50 else sn) else -1) ∧ S' = (if inR sn (S 12 2) then su S 0 7 (31 * S 0 7 + (if S 18 (nN sn) = 2 then 5 else 4)) else S)) := by
  refine xM_of (cc := cX5_teach) (nL := 2) (ret := (some .int)) (by decide) rfl (Nat.le_of_ble_eq_true rfl) ?_
  intro p e s m below meth c ls B hl hK hP
  obtain ⟨hx, hb, hml, hown, hts, hr, hlocks⟩ := B
  have hl : lv_has ls 2 [(0, .ref (ad 0)), (1, .int sn)] := hl
  have hS : va_S (xA 42 ad) s.heap s.heap [] := va_S.rf
  have hAd : ∀ k, k < 42 → xA 42 ad (ad k) := xA_in
  have hinX4 : ∀ w ∈ wsX40, w ∈ wsX5_teach := fun _ h => List.mem_cons_of_mem _ (List.mem_append_right _ h)
  have hinX5 : ∀ w ∈ wsX50, w ∈ wsX5_teach := fun _ h => List.mem_cons_of_mem _ (List.mem_append_left _ (List.mem_append_right _ h))
  have hF : CallFix p m c cX5_teach 2 s _ wsX5_teach RX5 := ⟨hx, hb, hml, hown, hts⟩
  refine lv_aload_n hx hb dX5_teach_0 rfl (lv_at hl 0 rfl) ?_
  refine lv_iload_n hx hb dX5_teach_1 rfl (lv_at hl 1 rfl) ?_
  refine x_calli (x_runV (As := [.int sn]) (rest := []) hF (c5_isSon hI S sn ) (cwV 1 hts gX5_teach_X5_isSon rfl rfl rfl (by decide +kernel) ⟨Nat.le_of_ble_eq_true rfl, Nat.le_of_ble_eq_true rfl⟩) hK hP (by decide) rfl rfl rfl hl.1 rfl (Nat.le_of_ble_eq_true rfl) dX5_teach_2 ⟨Nat.zero_le _, Nat.zero_le _⟩) hS hAd (fun r2 S2 H locs hw hP _ hS => ?_)
  obtain ⟨hw, eS2⟩ := hw
  rw [eS2] at hP
  by_cases q2 : inR sn (S 12 2) = true
  · have hw : r2 = 1 := hw.trans (if_pos q2)
    subst hw
    obtain ⟨j2, hj2, rfl⟩ : ∃ j, j < N ∧ sn = nI j := inR_ex (by rw [← hN]; exact q2) (by omega)
    have en2 : nN (nI j2) = j2 := nN_nI (by omega)
    refine lv_if_ne (tgt := 10) hx hb dX5_teach_5 (by decide) (fun _ => ?_) (fun hc => absurd hc (by decide))
    refine lv_aload_n hx hb dX5_teach_10 rfl (lv_at hl 0 rfl) ?_
    refine x_get (v := .ref (ad 12)) hx hb hts hinX5 hown hK hP 0 (by decide) rfl rfl 2 (by decide) (hts _ (List.mem_of_getElem? (i := 1) rfl)) rfl dX5_teach_11 ?_
    refine x_get (v := .ref (ad 18)) hx hb hts hinX4 hown hK hP 12 (by decide) rfl rfl 4 (by decide) (hts _ (List.mem_of_getElem? (i := 2) rfl)) rfl dX5_teach_14 ?_
    refine lv_iload_n hx hb dX5_teach_17 rfl (lv_at hl 1 rfl) ?_
    refine x_iald (v := S 18 j2) hx hb hK hP 18 0 (by decide) rfl rfl j2 rfl (by omega) (by decide) rfl dX5_teach_18 ?_
    refine lv_iconst (v := 2) hx hb dX5_teach_19 (by decide +kernel) ?_
    refine lv_icmp_ne (tgt := 31) hx hb dX5_teach_20 (by decide) (fun c20 => ?_) (fun c20 => ?_)
    · refine lv_aload_n hx hb dX5_teach_31 rfl (lv_at hl 0 rfl) ?_
      refine lv_iconst (v := 4) hx hb dX5_teach_32 (by decide +kernel) ?_
      refine x_callv (x_runV (As := [.int 4]) (rest := []) hF (c5_leaveTrace hI S 4 ) (cwV 1 hts gX5_teach_X5_leaveTrace rfl rfl rfl (by decide +kernel) ⟨Nat.le_of_ble_eq_true rfl, Nat.le_of_ble_eq_true rfl⟩) hK hP (by decide) rfl rfl rfl hl.1 rfl (Nat.le_of_ble_eq_true rfl) dX5_teach_33 ⟨Nat.zero_le _, Nat.zero_le _⟩) hS hAd (fun S33 H locs hw hP _ hS => ?_)
      rw [hw] at hP
      refine lv_iload_n hx hb dX5_teach_36 rfl (lv_at hl 1 rfl) ?_
      refine x_iret hx hb hr hlocks hP hS dX5_teach_37 ?_
      skip
      exact ⟨by first | (simp [q2, en2, c20]; done) | grind, by first | (simp [q2, en2, c20]; done) | grind⟩
    · refine lv_aload_n hx hb dX5_teach_23 rfl (lv_at hl 0 rfl) ?_
      refine lv_iconst (v := 5) hx hb dX5_teach_24 (by decide +kernel) ?_
      refine x_callv (x_runV (As := [.int 5]) (rest := []) hF (c5_leaveTrace hI S 5 ) (cwV 1 hts gX5_teach_X5_leaveTrace rfl rfl rfl (by decide +kernel) ⟨Nat.le_of_ble_eq_true rfl, Nat.le_of_ble_eq_true rfl⟩) hK hP (by decide) rfl rfl rfl hl.1 rfl (Nat.le_of_ble_eq_true rfl) dX5_teach_25 ⟨Nat.zero_le _, Nat.zero_le _⟩) hS hAd (fun S25 H locs hw hP _ hS => ?_)
      rw [hw] at hP
      refine lv_bipush (v := 50) hx hb dX5_teach_28 (by decide +kernel) ?_
      refine x_iret hx hb hr hlocks hP hS dX5_teach_30 ?_
      skip
      exact ⟨by first | (simp [q2, en2, c20]; done) | grind, by first | (simp [q2, en2, c20]; done) | grind⟩
  · have hw : r2 = 0 := hw.trans (if_neg q2)
    subst hw
    refine lv_if_ne (tgt := 10) hx hb dX5_teach_5 (by decide) (fun hc => absurd (by decide) hc) (fun _ => ?_)
    refine lv_iconst (v := (-1)) hx hb dX5_teach_8 (by decide +kernel) ?_
    refine x_iret hx hb hr hlocks hP hS dX5_teach_9 ?_
    skip
    exact ⟨by first | (simp [q2]; done) | grind, by first | (simp [q2]; done) | grind⟩

set_option maxHeartbeats 4000000 in
set_option maxRecDepth 100000 in
theorem c5_as (hI : xI 42 ad) (S : xSt) (N : Nat) (hN : S 12 2 = nI N) (hN5 : N ≤ 5) (sn kn : Int32) : xMi l yX5_as wsX5_as ({ frames := 1, cells := 0, slots := 0, locals := 21 }) (dC, dI) vwCl (tyl cI cZ cS cG) (cLy cI cZ cS cG ad) 42 ad [.ref (ad 0), .int sn, .int kn] S (fun r S' => r = (if inR sn (S 12 2) then (if wit kn 0 2 then (if S 18 (nN sn) < kn then -12 else 1) else -2) else -1) ∧ S' = (if inR sn (S 12 2) ∧ wit kn 0 2 = true ∧ S 18 (nN sn) < kn then su S 0 8 2 else su S 0 8 0)) := by
  refine xM_of (cc := cX5_as) (nL := 3) (ret := (some .int)) (by decide) rfl (Nat.le_of_ble_eq_true rfl) ?_
  intro p e s m below meth c ls B hl hK hP
  obtain ⟨hx, hb, hml, hown, hts, hr, hlocks⟩ := B
  have hl : lv_has ls 3 [(0, .ref (ad 0)), (1, .int sn), (2, .int kn)] := hl
  have hS : va_S (xA 42 ad) s.heap s.heap [] := va_S.rf
  have hAd : ∀ k, k < 42 → xA 42 ad (ad k) := xA_in
  have hinX4 : ∀ w ∈ wsX40, w ∈ wsX5_as := fun _ h => List.mem_cons_of_mem _ (List.mem_append_right _ h)
  have hinX5 : ∀ w ∈ wsX50, w ∈ wsX5_as := fun _ h => List.mem_cons_of_mem _ (List.mem_append_left _ (List.mem_append_right _ h))
  have hF : CallFix p m c cX5_as 3 s _ wsX5_as RX5 := ⟨hx, hb, hml, hown, hts⟩
  refine lv_aload_n hx hb dX5_as_0 rfl (lv_at hl 0 rfl) ?_
  refine lv_iconst (v := 0) hx hb dX5_as_1 (by decide +kernel) ?_
  refine x_put hx hb hts hinX5 tyX5 tyX5_ok nmX5 hown hK hI hAd hP hS 0 (by decide) rfl rfl 8 (by decide) (hts _ (List.mem_of_getElem? (i := 1) rfl)) rfl (upd (S 0) 8 0) rfl rfl rfl (Nat.le_of_ble_eq_true rfl) dX5_as_2 (fun H locs hP hS => ?_)
  have hP : va_P (dC, dI) vwCl (xW (cLy cI cZ cS cG ad) 42 ad (su S 0 8 0)) H := hP
  refine lv_aload_n hx hb dX5_as_5 rfl (lv_at hl 0 rfl) ?_
  refine lv_iload_n hx hb dX5_as_6 rfl (lv_at hl 1 rfl) ?_
  refine x_calli (x_runV (As := [.int sn]) (rest := []) hF (c5_isSon hI (su S 0 8 0) sn ) (cwV 1 hts gX5_as_X5_isSon rfl rfl rfl (by decide +kernel) ⟨Nat.le_of_ble_eq_true rfl, Nat.le_of_ble_eq_true rfl⟩) hK hP (by decide) rfl rfl rfl hl.1 rfl (Nat.le_of_ble_eq_true rfl) dX5_as_7 ⟨Nat.zero_le _, Nat.zero_le _⟩) hS hAd (fun r7 S7 H locs hw hP _ hS => ?_)
  obtain ⟨hw, eS7⟩ := hw
  rw [eS7] at hP
  by_cases q7 : inR sn (S 12 2) = true
  · have hw : r7 = 1 := hw.trans (if_pos q7)
    subst hw
    obtain ⟨j7, hj7, rfl⟩ : ∃ j, j < N ∧ sn = nI j := inR_ex (by rw [← hN]; exact q7) (by omega)
    have en7 : nN (nI j7) = j7 := nN_nI (by omega)
    refine lv_if_ne (tgt := 15) hx hb dX5_as_10 (by decide) (fun _ => ?_) (fun hc => absurd hc (by decide))
    refine lv_iload_n hx hb dX5_as_15 rfl (lv_at hl 2 rfl) ?_
    refine lv_if_lt (tgt := 24) hx hb dX5_as_16 (by decide) (fun c16 => ?_) (fun c16 => ?_)
    · have d16 := Int32.not_le.mpr c16
      refine lv_bipush (v := (-2)) hx hb dX5_as_24 (by decide +kernel) ?_
      refine x_iret hx hb hr hlocks hP hS dX5_as_26 ?_
      skip
      exact ⟨by simp [wit, q7, en7, c16, d16], by simp [wit, su_su, q7, en7, c16, d16]⟩
    · have d16 := Int32.not_lt.mp c16
      refine lv_iload_n hx hb dX5_as_19 rfl (lv_at hl 2 rfl) ?_
      refine lv_iconst (v := 2) hx hb dX5_as_20 (by decide +kernel) ?_
      refine lv_icmp_le (tgt := 27) hx hb dX5_as_21 (by decide) (fun c21 => ?_) (fun c21 => ?_)
      · have d21 := Int32.not_lt.mpr c21
        refine lv_iload_n hx hb dX5_as_27 rfl (lv_at hl 2 rfl) ?_
        refine lv_aload_n hx hb dX5_as_28 rfl (lv_at hl 0 rfl) ?_
        refine x_get (v := .ref (ad 12)) hx hb hts hinX5 hown hK hP 0 (by decide) rfl rfl 2 (by decide) (hts _ (List.mem_of_getElem? (i := 2) rfl)) rfl dX5_as_29 ?_
        refine x_get (v := .ref (ad 18)) hx hb hts hinX4 hown hK hP 12 (by decide) rfl rfl 4 (by decide) (hts _ (List.mem_of_getElem? (i := 3) rfl)) rfl dX5_as_32 ?_
        refine lv_iload_n hx hb dX5_as_35 rfl (lv_at hl 1 rfl) ?_
        refine x_iald (v := S 18 j7) hx hb hK hP 18 0 (by decide) rfl rfl j7 rfl (by omega) (by decide) rfl dX5_as_36 ?_
        refine lv_icmp_gt (tgt := 44) hx hb dX5_as_37 (by decide) (fun c37 => ?_) (fun c37 => ?_)
        · have d37 := Int32.not_le.mpr c37
          refine lv_aload_n hx hb dX5_as_44 rfl (lv_at hl 0 rfl) ?_
          refine lv_iconst (v := 2) hx hb dX5_as_45 (by decide +kernel) ?_
          refine x_calli (x_runV (As := [.int 2]) (rest := []) hF (c5_faulted hI (su S 0 8 0) 2 ) (cwV 1 hts gX5_as_X5_faulted rfl rfl rfl (by decide +kernel) ⟨Nat.le_of_ble_eq_true rfl, Nat.le_of_ble_eq_true rfl⟩) hK hP (by decide) rfl rfl rfl hl.1 rfl (Nat.le_of_ble_eq_true rfl) dX5_as_46 ⟨Nat.zero_le _, Nat.zero_le _⟩) hS hAd (fun r46 S46 H locs hw hP _ hS => ?_)
          obtain ⟨er46, eS46⟩ := hw
          rw [eS46] at hP
          refine x_iret hx hb hr hlocks hP hS dX5_as_49 ?_
          subst er46
          exact ⟨by simp [wit, q7, en7, c16, d16, c21, d21, c37, d37], by simp [wit, su_su, q7, en7, c16, d16, c21, d21, c37, d37]⟩
        · have d37 := Int32.not_lt.mp c37
          refine lv_iconst (v := 1) hx hb dX5_as_40 (by decide +kernel) ?_
          refine lv_goto (tgt := 49) hx hb dX5_as_41 (by decide) ?_
          refine x_iret hx hb hr hlocks hP hS dX5_as_49 ?_
          skip
          exact ⟨by simp [wit, q7, en7, c16, d16, c21, d21, c37, d37], by simp [wit, su_su, q7, en7, c16, d16, c21, d21, c37, d37]⟩
      · have d21 := Int32.not_le.mp c21
        refine lv_bipush (v := (-2)) hx hb dX5_as_24 (by decide +kernel) ?_
        refine x_iret hx hb hr hlocks hP hS dX5_as_26 ?_
        skip
        exact ⟨by simp [wit, q7, en7, c16, d16, c21, d21], by simp [wit, su_su, q7, en7, c16, d16, c21, d21]⟩
  · have hw : r7 = 0 := hw.trans (if_neg q7)
    subst hw
    refine lv_if_ne (tgt := 15) hx hb dX5_as_10 (by decide) (fun hc => absurd (by decide) hc) (fun _ => ?_)
    refine lv_iconst (v := (-1)) hx hb dX5_as_13 (by decide +kernel) ?_
    refine x_iret hx hb hr hlocks hP hS dX5_as_14 ?_
    skip
    exact ⟨by simp [wit, q7], by simp [wit, su_su, q7]⟩

set_option maxHeartbeats 4000000 in
set_option maxRecDepth 100000 in
theorem c5_many (hI : xI 42 ad) (S : xSt) (wn : Int32) : xMi l yX5_many wsX5_many ({ frames := 2, cells := 0, slots := 0, locals := 43 }) (dC, dI) vwCl (tyl cI cZ cS cG) (cLy cI cZ cS cG ad) 42 ad [.ref (ad 0), .int wn] S (fun r S' => r = (if wn = 0 then S 12 2 else if wn = 1 then S 12 0 else if wn = 2 then S 12 1 else if wn = 3 then bcI (cSet S 32) else if wn = 4 then S 38 3 else -2) ∧ S' = S) := by
  refine xM_of (cc := cX5_many) (nL := 2) (ret := (some .int)) (by decide) rfl (Nat.le_of_ble_eq_true rfl) ?_
  intro p e s m below meth c ls B hl hK hP
  obtain ⟨hx, hb, hml, hown, hts, hr, hlocks⟩ := B
  have hl : lv_has ls 2 [(0, .ref (ad 0)), (1, .int wn)] := hl
  have hS : va_S (xA 42 ad) s.heap s.heap [] := va_S.rf
  have hAd : ∀ k, k < 42 → xA 42 ad (ad k) := xA_in
  have hinX0 : ∀ w ∈ wsX00, w ∈ wsX5_many := fun _ h => List.mem_cons_of_mem _ (List.mem_append_left _ (List.mem_append_right _ h))
  have hinX4 : ∀ w ∈ wsX40, w ∈ wsX5_many := fun _ h => List.mem_cons_of_mem _ (List.mem_append_left _ (List.mem_append_left _ (List.mem_append_right _ h)))
  have hinX5 : ∀ w ∈ wsX50, w ∈ wsX5_many := fun _ h => List.mem_cons_of_mem _ (List.mem_append_left _ (List.mem_append_left _ (List.mem_append_left _ (List.mem_append_right _ h))))
  have hF : CallFix p m c cX5_many 2 s _ wsX5_many RX5 := ⟨hx, hb, hml, hown, hts⟩
  refine lv_iload_n hx hb dX5_many_0 rfl (lv_at hl 1 rfl) ?_
  by_cases z1_0 : wn = 0
  · refine W.eq (g2 := F0 m 1 ls (.int 0 :: [])) (by rw [z1_0]) ?_
    refine lv_tableIn (tgt := 36) (off := 35) hx hb dX5_many_1 (by decide +kernel) (by decide +kernel) (by decide +kernel) (by decide) ?_
    refine lv_aload_n hx hb dX5_many_36 rfl (lv_at hl 0 rfl) ?_
    refine x_get (v := .ref (ad 12)) hx hb hts hinX5 hown hK hP 0 (by decide) rfl rfl 2 (by decide) (hts _ (List.mem_of_getElem? (i := 1) rfl)) rfl dX5_many_37 ?_
    refine x_get (v := .int (S 12 2)) hx hb hts hinX4 hown hK hP 12 (by decide) rfl rfl 2 (by decide) (hts _ (List.mem_of_getElem? (i := 2) rfl)) rfl dX5_many_40 ?_
    refine x_iret hx hb hr hlocks hP hS dX5_many_43 ?_
    skip
    exact ⟨by first | (simp [z1_0]; done) | grind, rfl⟩
  · skip
    by_cases z1_1 : wn = 1
    · refine W.eq (g2 := F0 m 1 ls (.int 1 :: [])) (by rw [z1_1]) ?_
      refine lv_tableIn (tgt := 44) (off := 43) hx hb dX5_many_1 (by decide +kernel) (by decide +kernel) (by decide +kernel) (by decide) ?_
      refine lv_aload_n hx hb dX5_many_44 rfl (lv_at hl 0 rfl) ?_
      refine x_get (v := .ref (ad 12)) hx hb hts hinX5 hown hK hP 0 (by decide) rfl rfl 2 (by decide) (hts _ (List.mem_of_getElem? (i := 1) rfl)) rfl dX5_many_45 ?_
      refine x_get (v := .int (S 12 0)) hx hb hts hinX4 hown hK hP 12 (by decide) rfl rfl 0 (by decide) (hts _ (List.mem_of_getElem? (i := 3) rfl)) rfl dX5_many_48 ?_
      refine x_iret hx hb hr hlocks hP hS dX5_many_51 ?_
      skip
      exact ⟨by first | (simp [z1_0, z1_1]; done) | grind, rfl⟩
    · skip
      by_cases z1_2 : wn = 2
      · refine W.eq (g2 := F0 m 1 ls (.int 2 :: [])) (by rw [z1_2]) ?_
        refine lv_tableIn (tgt := 52) (off := 51) hx hb dX5_many_1 (by decide +kernel) (by decide +kernel) (by decide +kernel) (by decide) ?_
        refine lv_aload_n hx hb dX5_many_52 rfl (lv_at hl 0 rfl) ?_
        refine x_get (v := .ref (ad 12)) hx hb hts hinX5 hown hK hP 0 (by decide) rfl rfl 2 (by decide) (hts _ (List.mem_of_getElem? (i := 1) rfl)) rfl dX5_many_53 ?_
        refine x_get (v := .int (S 12 1)) hx hb hts hinX4 hown hK hP 12 (by decide) rfl rfl 1 (by decide) (hts _ (List.mem_of_getElem? (i := 4) rfl)) rfl dX5_many_56 ?_
        refine x_iret hx hb hr hlocks hP hS dX5_many_59 ?_
        skip
        exact ⟨by first | (simp [z1_0, z1_1, z1_2]; done) | grind, rfl⟩
      · skip
        by_cases z1_3 : wn = 3
        · refine W.eq (g2 := F0 m 1 ls (.int 3 :: [])) (by rw [z1_3]) ?_
          refine lv_tableIn (tgt := 60) (off := 59) hx hb dX5_many_1 (by decide +kernel) (by decide +kernel) (by decide +kernel) (by decide) ?_
          refine lv_aload_n hx hb dX5_many_60 rfl (lv_at hl 0 rfl) ?_
          refine x_get (v := .ref (ad 32)) hx hb hts hinX5 hown hK hP 0 (by decide) rfl rfl 4 (by decide) (hts _ (List.mem_of_getElem? (i := 5) rfl)) rfl dX5_many_61 ?_
          refine x_calli (x_runV (As := []) (rest := []) hF (c1_setOf hI S 32 (Or.inl rfl) ) (cwV 0 hts gX5_many_X1_setOf rfl rfl rfl (by decide +kernel) ⟨Nat.le_of_ble_eq_true rfl, Nat.le_of_ble_eq_true rfl⟩) hK hP (by decide) rfl rfl rfl hl.1 rfl (Nat.le_of_ble_eq_true rfl) dX5_many_64 ⟨Nat.zero_le _, Nat.zero_le _⟩) hS hAd (fun r64 S64 H locs hw hP _ hS => ?_)
          obtain ⟨er64, eS64⟩ := hw
          rw [eS64] at hP
          refine x_calli (x_runS (As := [.int r64]) (rest := []) hF (cJ_bitCount hI S r64 ) (va_cwS 1 hts gX5_many_J6_bitCount_0f7a4 rfl rfl rfl (by decide +kernel) ⟨Nat.le_of_ble_eq_true rfl, Nat.le_of_ble_eq_true rfl⟩) hK hP rfl hl.1 rfl (Nat.le_of_ble_eq_true rfl) dX5_many_67 ⟨Nat.zero_le _, Nat.zero_le _⟩) hS hAd (fun r67 S67 H locs hw hP _ hS => ?_)
          obtain ⟨er67, eS67⟩ := hw
          rw [eS67] at hP
          refine x_iret hx hb hr hlocks hP hS dX5_many_70 ?_
          subst er64; subst er67
          exact ⟨by first | (simp [z1_0, z1_1, z1_2, z1_3]; done) | grind, rfl⟩
        · skip
          by_cases z1_4 : wn = 4
          · refine W.eq (g2 := F0 m 1 ls (.int 4 :: [])) (by rw [z1_4]) ?_
            refine lv_tableIn (tgt := 71) (off := 70) hx hb dX5_many_1 (by decide +kernel) (by decide +kernel) (by decide +kernel) (by decide) ?_
            refine lv_aload_n hx hb dX5_many_71 rfl (lv_at hl 0 rfl) ?_
            refine x_get (v := .ref (ad 38)) hx hb hts hinX5 hown hK hP 0 (by decide) rfl rfl 6 (by decide) (hts _ (List.mem_of_getElem? (i := 6) rfl)) rfl dX5_many_72 ?_
            refine x_get (v := .int (S 38 3)) hx hb hts hinX0 hown hK hP 38 (by decide) rfl rfl 3 (by decide) (hts _ (List.mem_of_getElem? (i := 7) rfl)) rfl dX5_many_75 ?_
            refine x_iret hx hb hr hlocks hP hS dX5_many_78 ?_
            skip
            exact ⟨by first | (simp [z1_0, z1_1, z1_2, z1_3, z1_4]; done) | grind, rfl⟩
          · skip
            refine lv_tableOut (tgt := 79) hx hb dX5_many_1 (outT0_4 z1_0 z1_1 z1_2 z1_3 z1_4) (by decide) ?_
            refine lv_bipush (v := (-2)) hx hb dX5_many_79 (by decide +kernel) ?_
            refine x_iret hx hb hr hlocks hP hS dX5_many_81 ?_
            skip
            exact ⟨by first | (simp [z1_0, z1_1, z1_2, z1_3, z1_4]; done) | grind, rfl⟩

end C3
