section M10
variable {l : Launch} {dC : Nat → ClassId} {dI : Nat → Nat → Nat} {cI cZ cS cG : ClassId} {ad bd : Nat → Nat}
set_option maxHeartbeats 4000000 in
set_option maxRecDepth 100000 in
theorem c6_treaty_f (hI : xI 18 bd) (S : xSt) (kn ln i n : Int32) (hno : ¬ (wit kn 0 3 = true ∧ wit ln 0 2 = true ∧ agF S (nN kn) ln i n = 0)) : xMi l yX6_treaty wsX6_treaty ({ frames := 4, cells := 0, slots := 0, locals := 91 }) (dC, dI) vwCl (tyl cI cZ cS cG) (mLy cI cZ bd) 18 bd [.ref (bd 0), .int kn, .int ln, .int i, .int n] S (fun r S' => r = (if wit kn 0 3 then (if wit ln 0 2 then -10 - agF S (nN kn) ln i n else -2) else -1) ∧ S' = (if wit kn 0 3 = true ∧ wit ln 0 2 = true then su S 0 0 (agF S (nN kn) ln i n) else su S 0 0 0)) := by
  refine xM_of (cc := cX6_treaty) (nL := 7) (ret := (some .int)) (by decide) rfl (Nat.le_of_ble_eq_true rfl) ?_
  intro p e s m below meth c ls B hl hK hP
  obtain ⟨hx, hb, hml, hown, hts, hr, hlocks⟩ := B
  have hl : lv_has ls 7 [(0, .ref (bd 0)), (1, .int kn), (2, .int ln), (3, .int i), (4, .int n)] := hl
  have hS : va_S (xA 18 bd) s.heap s.heap [] := va_S.rf
  have hAd : ∀ k, k < 18 → xA 18 bd (bd k) := xA_in
  have hinX6 : ∀ w ∈ wsX60, w ∈ wsX6_treaty := fun _ h => List.mem_cons_of_mem _ (List.mem_append_right _ h)
  have hF : CallFix p m c cX6_treaty 7 s _ wsX6_treaty RX6 := ⟨hx, hb, hml, hown, hts⟩
  refine lv_aload_n hx hb dX6_treaty_0 rfl (lv_at hl 0 rfl) ?_
  refine lv_iconst (v := 0) hx hb dX6_treaty_1 (by decide +kernel) ?_
  refine x_put hx hb hts hinX6 tyX6 tyX6_ok nmX6 hown hK hI hAd hP hS 0 (by decide) rfl rfl 0 (by decide) (hts _ (List.mem_of_getElem? (i := 1) rfl)) rfl (upd (S 0) 0 0) rfl rfl rfl (Nat.le_of_ble_eq_true rfl) dX6_treaty_2 (fun H locs hP hS => ?_)
  have hP : va_P (dC, dI) vwCl (xW (mLy cI cZ bd) 18 bd (su S 0 0 0)) H := hP
  refine lv_iload_n hx hb dX6_treaty_5 rfl (lv_at hl 1 rfl) ?_
  refine x_calli (x_runS (As := [.int kn]) (rest := []) hF (c6_isSheet hI (su S 0 0 0) kn ) (va_cwS 1 hts gX6_treaty_X6_isSheet rfl rfl rfl (by decide +kernel) ⟨Nat.le_of_ble_eq_true rfl, Nat.le_of_ble_eq_true rfl⟩) hK hP rfl hl.1 rfl (Nat.le_of_ble_eq_true rfl) dX6_treaty_6 ⟨Nat.zero_le _, Nat.zero_le _⟩) hS hAd (fun r6 S6 H locs hw hP _ hS => ?_)
  obtain ⟨hw, eS6⟩ := hw
  rw [eS6] at hP
  by_cases q6 : wit kn 0 3 = true
  · have hw : r6 = 1 := hw.trans (if_pos q6)
    subst hw
    obtain ⟨j6, hj6, rfl⟩ := wit3_ex q6
    have en6 : nN (nI j6) = j6 := nN_nI (by omega)
    refine lv_if_ne (tgt := 14) hx hb dX6_treaty_9 (by decide) (fun _ => ?_) (fun hc => absurd hc (by decide))
    refine lv_iload_n hx hb dX6_treaty_14 rfl (lv_at hl 2 rfl) ?_
    refine x_calli (x_runS (As := [.int ln]) (rest := []) hF (c6_isSort hI (su S 0 0 0) ln ) (va_cwS 1 hts gX6_treaty_X6_isSort rfl rfl rfl (by decide +kernel) ⟨Nat.le_of_ble_eq_true rfl, Nat.le_of_ble_eq_true rfl⟩) hK hP rfl hl.1 rfl (Nat.le_of_ble_eq_true rfl) dX6_treaty_15 ⟨Nat.zero_le _, Nat.zero_le _⟩) hS hAd (fun r15 S15 H locs hw hP _ hS => ?_)
    obtain ⟨hw, eS15⟩ := hw
    rw [eS15] at hP
    by_cases q15 : wit ln 0 2 = true
    · have hw : r15 = 1 := hw.trans (if_pos q15)
      subst hw
      refine lv_if_ne (tgt := 24) hx hb dX6_treaty_18 (by decide) (fun _ => ?_) (fun hc => absurd hc (by decide))
      refine lv_aload_n hx hb dX6_treaty_24 rfl (lv_at hl 0 rfl) ?_
      refine lv_iload_n hx hb dX6_treaty_25 rfl (lv_at hl 1 rfl) ?_
      refine lv_iload_n hx hb dX6_treaty_26 rfl (lv_at hl 2 rfl) ?_
      refine lv_iload_n hx hb dX6_treaty_27 rfl (lv_at hl 3 rfl) ?_
      refine lv_iload hx hb dX6_treaty_28 (lv_at hl 4 rfl) ?_
      refine x_calli (x_runV (As := [.int (nI j6), .int ln, .int i, .int n]) (rest := []) hF (c6_against hI (su S 0 0 0) j6 hj6 ln i n) (cwV 4 hts gX6_treaty_X6_against rfl rfl rfl (by decide +kernel) ⟨Nat.le_of_ble_eq_true rfl, Nat.le_of_ble_eq_true rfl⟩) hK hP (by decide) rfl rfl rfl hl.1 rfl (Nat.le_of_ble_eq_true rfl) dX6_treaty_30 ⟨Nat.zero_le _, Nat.zero_le _⟩) hS hAd (fun r30 S30 H locs hw hP _ hS => ?_)
      obtain ⟨er30, eS30⟩ := hw
      rw [eS30] at hP
      have er30 : r30 = agF S j6 ln i n := er30
      refine lv_istore (lv' := [(5, .int r30), (0, .ref (bd 0)), (1, .int (nI j6)), (2, .int ln), (3, .int i), (4, .int n)]) hx hb dX6_treaty_33 hl (by decide) rfl (fun ls hl => ?_)
      refine lv_iload hx hb dX6_treaty_35 (lv_at hl 0 rfl) ?_
      refine lv_if_eq (tgt := 47) hx hb dX6_treaty_37 (by decide) (fun c37 => ?_) (fun c37 => ?_)
      · exact absurd ⟨q6, q15, by rw [en6]; subst er30; exact c37⟩ hno
      · refine lv_aload_n hx hb dX6_treaty_40 rfl (lv_at hl 1 rfl) ?_
        refine lv_iload hx hb dX6_treaty_41 (lv_at hl 0 rfl) ?_
        refine x_calli (x_runV (As := [.int r30]) (rest := []) hF (c6_fails hI (su S 0 0 0) r30 ) (cwV 1 hts gX6_treaty_X6_fails rfl rfl rfl (by decide +kernel) ⟨Nat.le_of_ble_eq_true rfl, Nat.le_of_ble_eq_true rfl⟩) hK hP (by decide) rfl rfl rfl hl.1 rfl (Nat.le_of_ble_eq_true rfl) dX6_treaty_43 ⟨Nat.zero_le _, Nat.zero_le _⟩) hS hAd (fun r43 S43 H locs hw hP _ hS => ?_)
        obtain ⟨er43, eS43⟩ := hw
        rw [eS43] at hP
        refine x_iret hx hb hr hlocks hP hS dX6_treaty_46 ?_
        subst er30; subst er43
        exact ⟨by first | (simp [su_su, su_at, q6, en6, q15, c37]; done) | grind, by first | (simp [su_su, su_at, q6, en6, q15, c37]; done) | grind⟩
    · have hw : r15 = 0 := hw.trans (if_neg q15)
      subst hw
      refine lv_if_ne (tgt := 24) hx hb dX6_treaty_18 (by decide) (fun hc => absurd (by decide) hc) (fun _ => ?_)
      refine lv_bipush (v := (-2)) hx hb dX6_treaty_21 (by decide +kernel) ?_
      refine x_iret hx hb hr hlocks hP hS dX6_treaty_23 ?_
      skip
      exact ⟨by first | (simp [su_su, su_at, q6, en6, q15]; done) | grind, by first | (simp [su_su, su_at, q6, en6, q15]; done) | grind⟩
  · have hw : r6 = 0 := hw.trans (if_neg q6)
    subst hw
    refine lv_if_ne (tgt := 14) hx hb dX6_treaty_9 (by decide) (fun hc => absurd (by decide) hc) (fun _ => ?_)
    refine lv_iconst (v := (-1)) hx hb dX6_treaty_12 (by decide +kernel) ?_
    refine x_iret hx hb hr hlocks hP hS dX6_treaty_13 ?_
    skip
    exact ⟨by first | (simp [su_su, su_at, q6]; done) | grind, by first | (simp [su_su, su_at, q6]; done) | grind⟩

set_option maxHeartbeats 4000000 in
set_option maxRecDepth 100000 in
theorem c6_treaty_g (hI : xI 18 bd) (S : xSt) (k0 : Nat) (hk0 : k0 < 4) (ln : Int32) (hln : wit ln 0 2 = true) (a q : Nat) (hag : agF S k0 ln (nI a) (nI q) = 0) (haq : a + q ≤ 60) : xMi l yX6_treaty wsX6_treaty ({ frames := 4, cells := 0, slots := 0, locals := 91 }) (dC, dI) vwCl (tyl cI cZ cS cG) (mLy cI cZ bd) 18 bd [.ref (bd 0), .int (nI k0), .int ln, .int (nI a), .int (nI q)] S (fun r S' => (∃ N U, trOkM (fun u => S 3 (60 * k0 + a + u)) q N (su (su S 0 0 0) 0 15 (nI (60 * k0 + a))) U ∧ r = nI N ∧ takM U N S') ∨ (∃ t, tBad (fun u => S 3 (60 * k0 + a + u)) q t ∧ r = -100 - nI t ∧ frmM (su S 0 0 0) S')) := by
  refine xM_of (cc := cX6_treaty) (nL := 7) (ret := (some .int)) (by decide) rfl (Nat.le_of_ble_eq_true rfl) ?_
  intro p e s m below meth c ls B hl hK hP
  obtain ⟨hx, hb, hml, hown, hts, hr, hlocks⟩ := B
  have hl : lv_has ls 7 [(0, .ref (bd 0)), (1, .int (nI k0)), (2, .int ln), (3, .int (nI a)), (4, .int (nI q))] := hl
  have hS : va_S (xA 18 bd) s.heap s.heap [] := va_S.rf
  have hAd : ∀ k, k < 18 → xA 18 bd (bd k) := xA_in
  have hinX6 : ∀ w ∈ wsX60, w ∈ wsX6_treaty := fun _ h => List.mem_cons_of_mem _ (List.mem_append_right _ h)
  have hF : CallFix p m c cX6_treaty 7 s _ wsX6_treaty RX6 := ⟨hx, hb, hml, hown, hts⟩
  refine lv_aload_n hx hb dX6_treaty_0 rfl (lv_at hl 0 rfl) ?_
  refine lv_iconst (v := 0) hx hb dX6_treaty_1 (by decide +kernel) ?_
  refine x_put hx hb hts hinX6 tyX6 tyX6_ok nmX6 hown hK hI hAd hP hS 0 (by decide) rfl rfl 0 (by decide) (hts _ (List.mem_of_getElem? (i := 1) rfl)) rfl (upd (S 0) 0 0) rfl rfl rfl (Nat.le_of_ble_eq_true rfl) dX6_treaty_2 (fun H locs hP hS => ?_)
  have hP : va_P (dC, dI) vwCl (xW (mLy cI cZ bd) 18 bd (su S 0 0 0)) H := hP
  refine lv_iload_n hx hb dX6_treaty_5 rfl (lv_at hl 1 rfl) ?_
  refine x_calli (x_runS (As := [.int (nI k0)]) (rest := []) hF (c6_isSheet hI (su S 0 0 0) (nI k0) ) (va_cwS 1 hts gX6_treaty_X6_isSheet rfl rfl rfl (by decide +kernel) ⟨Nat.le_of_ble_eq_true rfl, Nat.le_of_ble_eq_true rfl⟩) hK hP rfl hl.1 rfl (Nat.le_of_ble_eq_true rfl) dX6_treaty_6 ⟨Nat.zero_le _, Nat.zero_le _⟩) hS hAd (fun r6 S6 H locs hw hP _ hS => ?_)
  obtain ⟨hw, eS6⟩ := hw
  rw [eS6] at hP
  by_cases q6 : wit (nI k0) 0 3 = true
  · have hw : r6 = 1 := hw.trans (if_pos q6)
    subst hw
    refine lv_if_ne (tgt := 14) hx hb dX6_treaty_9 (by decide) (fun _ => ?_) (fun hc => absurd hc (by decide))
    refine lv_iload_n hx hb dX6_treaty_14 rfl (lv_at hl 2 rfl) ?_
    refine x_calli (x_runS (As := [.int ln]) (rest := []) hF (c6_isSort hI (su S 0 0 0) ln ) (va_cwS 1 hts gX6_treaty_X6_isSort rfl rfl rfl (by decide +kernel) ⟨Nat.le_of_ble_eq_true rfl, Nat.le_of_ble_eq_true rfl⟩) hK hP rfl hl.1 rfl (Nat.le_of_ble_eq_true rfl) dX6_treaty_15 ⟨Nat.zero_le _, Nat.zero_le _⟩) hS hAd (fun r15 S15 H locs hw hP _ hS => ?_)
    obtain ⟨hw, eS15⟩ := hw
    rw [eS15] at hP
    by_cases q15 : wit ln 0 2 = true
    · have hw : r15 = 1 := hw.trans (if_pos q15)
      subst hw
      refine lv_if_ne (tgt := 24) hx hb dX6_treaty_18 (by decide) (fun _ => ?_) (fun hc => absurd hc (by decide))
      refine lv_aload_n hx hb dX6_treaty_24 rfl (lv_at hl 0 rfl) ?_
      refine lv_iload_n hx hb dX6_treaty_25 rfl (lv_at hl 1 rfl) ?_
      refine lv_iload_n hx hb dX6_treaty_26 rfl (lv_at hl 2 rfl) ?_
      refine lv_iload_n hx hb dX6_treaty_27 rfl (lv_at hl 3 rfl) ?_
      refine lv_iload hx hb dX6_treaty_28 (lv_at hl 4 rfl) ?_
      refine x_calli (x_runV (As := [.int (nI k0), .int ln, .int (nI a), .int (nI q)]) (rest := []) hF (c6_against hI (su S 0 0 0) k0 hk0 ln (nI a) (nI q)) (cwV 4 hts gX6_treaty_X6_against rfl rfl rfl (by decide +kernel) ⟨Nat.le_of_ble_eq_true rfl, Nat.le_of_ble_eq_true rfl⟩) hK hP (by decide) rfl rfl rfl hl.1 rfl (Nat.le_of_ble_eq_true rfl) dX6_treaty_30 ⟨Nat.zero_le _, Nat.zero_le _⟩) hS hAd (fun r30 S30 H locs hw hP _ hS => ?_)
      obtain ⟨er30, eS30⟩ := hw
      rw [eS30] at hP
      have er30 : r30 = 0 := er30.trans hag
      subst er30
      refine lv_istore (lv' := [(5, .int 0), (0, .ref (bd 0)), (1, .int (nI k0)), (2, .int ln), (3, .int (nI a)), (4, .int (nI q))]) hx hb dX6_treaty_33 hl (by decide) rfl (fun ls hl => ?_)
      refine lv_iload hx hb dX6_treaty_35 (lv_at hl 0 rfl) ?_
      refine lv_if_eq (tgt := 47) hx hb dX6_treaty_37 (by decide) (fun _ => ?_) (fun hc => absurd (by decide) hc)
      refine lv_bipush (v := 60) hx hb dX6_treaty_47 (by decide +kernel) ?_
      refine lv_iload_n hx hb dX6_treaty_49 rfl (lv_at hl 2 rfl) ?_
      refine lv_imul hx hb dX6_treaty_50 ?_
      refine lv_iload_n hx hb dX6_treaty_51 rfl (lv_at hl 4 rfl) ?_
      refine lv_iadd hx hb dX6_treaty_52 ?_
      refine lv_topi (fun x53 ex53 => ?_)
      obtain rfl : x53 = nI (60 * k0 + a) := by rw [ex53]; exact ix60 _ _
      refine lv_istore (lv' := [(6, .int (nI (60 * k0 + a))), (5, .int 0), (0, .ref (bd 0)), (1, .int (nI k0)), (2, .int ln), (3, .int (nI a)), (4, .int (nI q))]) hx hb dX6_treaty_53 hl (by decide) rfl (fun ls hl => ?_)
      refine lv_aload_n hx hb dX6_treaty_55 rfl (lv_at hl 2 rfl) ?_
      refine lv_iload hx hb dX6_treaty_56 (lv_at hl 0 rfl) ?_
      refine x_put hx hb hts hinX6 tyX6 tyX6_ok nmX6 hown hK hI hAd hP hS 0 (by decide) rfl rfl 15 (by decide) (hts _ (List.mem_of_getElem? (i := 2) rfl)) rfl (upd ((su S 0 0 0) 0) 15 (nI (60 * k0 + a))) rfl rfl rfl (Nat.le_of_ble_eq_true rfl) dX6_treaty_58 (fun H locs hP hS => ?_)
      have hP : va_P (dC, dI) vwCl (xW (mLy cI cZ bd) 18 bd (su (su S 0 0 0) 0 15 (nI (60 * k0 + a)))) H := hP
      refine lv_aload_n hx hb dX6_treaty_61 rfl (lv_at hl 2 rfl) ?_
      refine lv_iload hx hb dX6_treaty_62 (lv_at hl 0 rfl) ?_
      refine lv_iload hx hb dX6_treaty_64 (lv_at hl 6 rfl) ?_
      refine lv_iadd hx hb dX6_treaty_66 ?_
      rw [nI_add]
      refine x_calli (x_runV (As := [.int (nI (60 * k0 + a + q))]) (rest := []) hF (c6_readTreaty hI (su (su S 0 0 0) 0 15 (nI (60 * k0 + a))) (60 * k0 + a) q (by omega) (fun u => S 3 (60 * k0 + a + u)) (fun u _ => rfl) rfl) (cwV 1 hts gX6_treaty_X6_readTreaty rfl rfl rfl (by decide +kernel) ⟨Nat.le_of_ble_eq_true rfl, Nat.le_of_ble_eq_true rfl⟩) hK hP (by decide) rfl rfl rfl hl.1 rfl (Nat.le_of_ble_eq_true rfl) dX6_treaty_67 ⟨Nat.zero_le _, Nat.zero_le _⟩) hS hAd (fun r67 S67 H locs hw hP _ hS => ?_)
      rcases hw with ⟨rfl, N, hTr⟩ | ⟨rfl, t, hB, kp, kf⟩
      · skip
        refine lv_if_ne (tgt := 84) hx hb dX6_treaty_70 (by decide) (fun _ => ?_) (fun hc => absurd hc (by decide))
        refine lv_aload_n hx hb dX6_treaty_84 rfl (lv_at hl 2 rfl) ?_
        refine x_callv (x_runV (As := []) (rest := []) hF (c6_takeTreaty hI S67 N hTr.2.2.2.2.1 hTr.1.2.2.2) (cwV 0 hts gX6_treaty_X6_takeTreaty rfl rfl rfl (by decide +kernel) ⟨Nat.le_of_ble_eq_true rfl, Nat.le_of_ble_eq_true rfl⟩) hK hP (by decide) rfl rfl rfl hl.1 rfl (Nat.le_of_ble_eq_true rfl) dX6_treaty_85 ⟨Nat.zero_le _, Nat.zero_le _⟩) hS hAd (fun S85 H locs hw hP _ hS => ?_)
        have h7 : S85 0 7 = nI N := hw.2.2.1
        refine lv_aload_n hx hb dX6_treaty_88 rfl (lv_at hl 2 rfl) ?_
        refine x_get (v := .int (nI N)) hx hb hts hinX6 hown hK hP 0 (by decide) rfl rfl 7 (by decide) (hts _ (List.mem_of_getElem? (i := 3) rfl)) (congrArg (fun z => some (Value.int z)) h7) dX6_treaty_89 ?_
        refine x_iret hx hb hr hlocks hP hS dX6_treaty_92 ?_
        exact Or.inl ⟨N, S67, hTr, rfl, hw⟩
      · skip
        refine lv_if_ne (tgt := 84) hx hb dX6_treaty_70 (by decide) (fun hc => absurd (by decide) hc) (fun _ => ?_)
        refine lv_bipush (v := (-100)) hx hb dX6_treaty_73 (by decide +kernel) ?_
        refine lv_aload_n hx hb dX6_treaty_75 rfl (lv_at hl 2 rfl) ?_
        refine x_get (v := .int (nI (60 * k0 + a + t))) hx hb hts hinX6 hown hK hP 0 (by decide) rfl rfl 15 (by decide) (hts _ (List.mem_of_getElem? (i := 2) rfl)) (congrArg (fun z => some (Value.int z)) kp) dX6_treaty_76 ?_
        refine lv_iload hx hb dX6_treaty_79 (lv_at hl 0 rfl) ?_
        refine lv_isub hx hb dX6_treaty_81 ?_
        refine lv_isub hx hb dX6_treaty_82 ?_
        refine x_iret hx hb hr hlocks hP hS dX6_treaty_83 ?_
        exact Or.inr ⟨t, hB, by rw [pk_sub (by omega), Nat.add_sub_cancel_left], (frmM.rf.at 15 _ (Or.inl rfl)).tr kf⟩
    · have hw : r15 = 0 := hw.trans (if_neg q15)
      subst hw
      exact absurd (hln) q15
  · have hw : r6 = 0 := hw.trans (if_neg q6)
    subst hw
    exact absurd (wit3_of hk0) q6

end M10
