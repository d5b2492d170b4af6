section M4
variable {l : Launch} {dC : Nat → ClassId} {dI : Nat → Nat → Nat} {cI cZ cS cG : ClassId} {ad bd : Nat → Nat}
set_option maxHeartbeats 4000000 in
set_option maxRecDepth 100000 in
theorem c6_tell (hI : xI 18 bd) (S : xSt) (N : Nat) (hN : S 0 7 = nI N) (hN5 : N ≤ 5) (sn : Int32) : xMi l yX6_tell wsX6_tell ({ frames := 1, cells := 0, slots := 0, locals := 21 }) (dC, dI) vwCl (tyl cI cZ cS cG) (mLy cI cZ bd) 18 bd [.ref (bd 0), .int sn] S (fun r S' => r = (if inR sn (S 0 7) then (if S 5 (nN sn) = 1 then S 7 (nN sn) + 100 else if S 5 (nN sn) = 2 then 2 * S 7 (nN sn) + 100 else S 7 (nN sn)) else -1) ∧ S' = (if inR sn (S 0 7) then su S 0 1 (if S 5 (nN sn) = 1 then 31 * (31 * S 0 1 + 2) + 1 else if S 5 (nN sn) = 2 then 31 * (31 * (31 * (31 * S 0 1 + 3) + 2) + 1) + 1 else 31 * S 0 1 + 1) else S)) := by
  refine xM_of (cc := cX6_tell) (nL := 3) (ret := (some .int)) (by decide) rfl (Nat.le_of_ble_eq_true rfl) ?_
  intro p e s m below meth c ls B hl hK hP
  obtain ⟨hx, hb, hml, hown, hts, hr, hlocks⟩ := B
  have hl : lv_has ls 3 [(0, .ref (bd 0)), (1, .int sn)] := hl
  have hS : va_S (xA 18 bd) s.heap s.heap [] := va_S.rf
  have hAd : ∀ k, k < 18 → xA 18 bd (bd k) := xA_in
  have hinX6 : ∀ w ∈ wsX60, w ∈ wsX6_tell := fun _ h => List.mem_cons_of_mem _ (List.mem_append_right _ h)
  have hF : CallFix p m c cX6_tell 3 s _ wsX6_tell RX6 := ⟨hx, hb, hml, hown, hts⟩
  refine lv_aload_n hx hb dX6_tell_0 rfl (lv_at hl 0 rfl) ?_
  refine lv_iload_n hx hb dX6_tell_1 rfl (lv_at hl 1 rfl) ?_
  refine x_calli (x_runV (As := [.int sn]) (rest := []) hF (c6_isSon hI S sn ) (cwV 1 hts gX6_tell_X6_isSon rfl rfl rfl (by decide +kernel) ⟨Nat.le_of_ble_eq_true rfl, Nat.le_of_ble_eq_true rfl⟩) hK hP (by decide) rfl rfl rfl hl.1 rfl (Nat.le_of_ble_eq_true rfl) dX6_tell_2 ⟨Nat.zero_le _, Nat.zero_le _⟩) hS hAd (fun r2 S2 H locs hw hP _ hS => ?_)
  obtain ⟨hw, eS2⟩ := hw
  rw [eS2] at hP
  by_cases q2 : inR sn (S 0 7) = true
  · have hw : r2 = 1 := hw.trans (if_pos q2)
    subst hw
    obtain ⟨j2, hj2, rfl⟩ : ∃ j, j < N ∧ sn = nI j := inR_ex (by rw [← hN]; exact q2) (by omega)
    have en2 : nN (nI j2) = j2 := nN_nI (by omega)
    refine lv_if_ne (tgt := 10) hx hb dX6_tell_5 (by decide) (fun _ => ?_) (fun hc => absurd hc (by decide))
    refine lv_aload_n hx hb dX6_tell_10 rfl (lv_at hl 0 rfl) ?_
    refine x_get (v := .ref (bd 7)) hx hb hts hinX6 hown hK hP 0 (by decide) rfl rfl 11 (by decide) (hts _ (List.mem_of_getElem? (i := 1) rfl)) rfl dX6_tell_11 ?_
    refine lv_iload_n hx hb dX6_tell_14 rfl (lv_at hl 1 rfl) ?_
    refine x_iald (v := S 7 j2) hx hb hK hP 7 0 (by decide) rfl rfl j2 rfl (by omega) (by decide) rfl dX6_tell_15 ?_
    refine lv_topi (fun x16 ex16 => ?_)
    refine lv_istore_n (lv' := [(2, .int x16), (0, .ref (bd 0)), (1, .int (nI j2))]) hx hb dX6_tell_16 rfl hl (by decide) rfl (fun ls hl => ?_)
    refine lv_aload_n hx hb dX6_tell_17 rfl (lv_at hl 1 rfl) ?_
    refine x_get (v := .ref (bd 5)) hx hb hts hinX6 hown hK hP 0 (by decide) rfl rfl 9 (by decide) (hts _ (List.mem_of_getElem? (i := 2) rfl)) rfl dX6_tell_18 ?_
    refine lv_iload_n hx hb dX6_tell_21 rfl (lv_at hl 2 rfl) ?_
    refine x_iald (v := S 5 j2) hx hb hK hP 5 0 (by decide) rfl rfl j2 rfl (by omega) (by decide) rfl dX6_tell_22 ?_
    by_cases z23_1 : S 5 j2 = 1
    · refine W.eq (g2 := F0 m 23 ls (.int 1 :: [])) (by rw [z23_1]) ?_
      refine lv_lookup (tgt := 48) (off := 25) hx hb dX6_tell_23 (by decide +kernel) (by decide +kernel) (by decide) ?_
      refine lv_aload_n hx hb dX6_tell_48 rfl (lv_at hl 1 rfl) ?_
      refine lv_iconst (v := 2) hx hb dX6_tell_49 (by decide +kernel) ?_
      refine x_callv (x_runV (As := [.int 2]) (rest := []) hF (c6_begins hI S 2 ) (cwV 1 hts gX6_tell_X6_begins rfl rfl rfl (by decide +kernel) ⟨Nat.le_of_ble_eq_true rfl, Nat.le_of_ble_eq_true rfl⟩) hK hP (by decide) rfl rfl rfl hl.1 rfl (Nat.le_of_ble_eq_true rfl) dX6_tell_50 ⟨Nat.zero_le _, Nat.zero_le _⟩) hS hAd (fun S50 H locs hw hP _ hS => ?_)
      rw [hw] at hP
      refine lv_aload_n hx hb dX6_tell_53 rfl (lv_at hl 1 rfl) ?_
      refine lv_iconst (v := 1) hx hb dX6_tell_54 (by decide +kernel) ?_
      refine x_callv (x_runV (As := [.int 1]) (rest := []) hF (c6_begins hI (su S 0 1 (31 * (S 0 1) + 2)) 1 ) (cwV 1 hts gX6_tell_X6_begins rfl rfl rfl (by decide +kernel) ⟨Nat.le_of_ble_eq_true rfl, Nat.le_of_ble_eq_true rfl⟩) hK hP (by decide) rfl rfl rfl hl.1 rfl (Nat.le_of_ble_eq_true rfl) dX6_tell_55 ⟨Nat.zero_le _, Nat.zero_le _⟩) hS hAd (fun S55 H locs hw hP _ hS => ?_)
      rw [hw] at hP
      refine lv_iload_n hx hb dX6_tell_58 rfl (lv_at hl 0 rfl) ?_
      refine lv_bipush (v := 100) hx hb dX6_tell_59 (by decide +kernel) ?_
      refine lv_iadd hx hb dX6_tell_61 ?_
      refine x_iret hx hb hr hlocks hP hS dX6_tell_62 ?_
      subst ex16
      exact ⟨by first | (simp [su_su, su_at, q2, en2, z23_1]; done) | (subst z23_1; simp [su_su, su_at, q2, en2]; done) | grind, by first | (simp [su_su, su_at, q2, en2, z23_1]; done) | (subst z23_1; simp [su_su, su_at, q2, en2]; done) | grind⟩
    · skip
      by_cases z23_2 : S 5 j2 = 2
      · refine W.eq (g2 := F0 m 23 ls (.int 2 :: [])) (by rw [z23_2]) ?_
        refine lv_lookup (tgt := 63) (off := 40) hx hb dX6_tell_23 (by decide +kernel) (by decide +kernel) (by decide) ?_
        refine lv_aload_n hx hb dX6_tell_63 rfl (lv_at hl 1 rfl) ?_
        refine lv_iconst (v := 3) hx hb dX6_tell_64 (by decide +kernel) ?_
        refine x_callv (x_runV (As := [.int 3]) (rest := []) hF (c6_begins hI S 3 ) (cwV 1 hts gX6_tell_X6_begins rfl rfl rfl (by decide +kernel) ⟨Nat.le_of_ble_eq_true rfl, Nat.le_of_ble_eq_true rfl⟩) hK hP (by decide) rfl rfl rfl hl.1 rfl (Nat.le_of_ble_eq_true rfl) dX6_tell_65 ⟨Nat.zero_le _, Nat.zero_le _⟩) hS hAd (fun S65 H locs hw hP _ hS => ?_)
        rw [hw] at hP
        refine lv_aload_n hx hb dX6_tell_68 rfl (lv_at hl 1 rfl) ?_
        refine lv_iconst (v := 2) hx hb dX6_tell_69 (by decide +kernel) ?_
        refine x_callv (x_runV (As := [.int 2]) (rest := []) hF (c6_begins hI (su S 0 1 (31 * (S 0 1) + 3)) 2 ) (cwV 1 hts gX6_tell_X6_begins rfl rfl rfl (by decide +kernel) ⟨Nat.le_of_ble_eq_true rfl, Nat.le_of_ble_eq_true rfl⟩) hK hP (by decide) rfl rfl rfl hl.1 rfl (Nat.le_of_ble_eq_true rfl) dX6_tell_70 ⟨Nat.zero_le _, Nat.zero_le _⟩) hS hAd (fun S70 H locs hw hP _ hS => ?_)
        rw [hw] at hP
        refine lv_aload_n hx hb dX6_tell_73 rfl (lv_at hl 1 rfl) ?_
        refine lv_iconst (v := 1) hx hb dX6_tell_74 (by decide +kernel) ?_
        refine x_callv (x_runV (As := [.int 1]) (rest := []) hF (c6_begins hI (su (su S 0 1 (31 * (S 0 1) + 3)) 0 1 (31 * (31 * (S 0 1) + 3) + 2)) 1 ) (cwV 1 hts gX6_tell_X6_begins rfl rfl rfl (by decide +kernel) ⟨Nat.le_of_ble_eq_true rfl, Nat.le_of_ble_eq_true rfl⟩) hK hP (by decide) rfl rfl rfl hl.1 rfl (Nat.le_of_ble_eq_true rfl) dX6_tell_75 ⟨Nat.zero_le _, Nat.zero_le _⟩) hS hAd (fun S75 H locs hw hP _ hS => ?_)
        rw [hw] at hP
        refine lv_aload_n hx hb dX6_tell_78 rfl (lv_at hl 1 rfl) ?_
        refine lv_iconst (v := 1) hx hb dX6_tell_79 (by decide +kernel) ?_
        refine x_callv (x_runV (As := [.int 1]) (rest := []) hF (c6_begins hI (su (su (su S 0 1 (31 * (S 0 1) + 3)) 0 1 (31 * (31 * (S 0 1) + 3) + 2)) 0 1 (31 * (31 * (31 * (S 0 1) + 3) + 2) + 1)) 1 ) (cwV 1 hts gX6_tell_X6_begins rfl rfl rfl (by decide +kernel) ⟨Nat.le_of_ble_eq_true rfl, Nat.le_of_ble_eq_true rfl⟩) hK hP (by decide) rfl rfl rfl hl.1 rfl (Nat.le_of_ble_eq_true rfl) dX6_tell_80 ⟨Nat.zero_le _, Nat.zero_le _⟩) hS hAd (fun S80 H locs hw hP _ hS => ?_)
        rw [hw] at hP
        refine lv_iconst (v := 2) hx hb dX6_tell_83 (by decide +kernel) ?_
        refine lv_iload_n hx hb dX6_tell_84 rfl (lv_at hl 0 rfl) ?_
        refine lv_imul hx hb dX6_tell_85 ?_
        refine lv_bipush (v := 100) hx hb dX6_tell_86 (by decide +kernel) ?_
        refine lv_iadd hx hb dX6_tell_88 ?_
        refine x_iret hx hb hr hlocks hP hS dX6_tell_89 ?_
        subst ex16
        exact ⟨by first | (simp [su_su, su_at, q2, en2, z23_1, z23_2]; done) | (subst z23_2; simp [su_su, su_at, q2, en2, z23_1]; done) | grind, by first | (simp [su_su, su_at, q2, en2, z23_1, z23_2]; done) | (subst z23_2; simp [su_su, su_at, q2, en2, z23_1]; done) | grind⟩
      · skip
        refine lv_lookup (tgt := 90) (off := 67) hx hb dX6_tell_23 (by decide +kernel) (outL1_2 z23_1 z23_2) (by decide) ?_
        refine lv_aload_n hx hb dX6_tell_90 rfl (lv_at hl 1 rfl) ?_
        refine lv_iconst (v := 1) hx hb dX6_tell_91 (by decide +kernel) ?_
        refine x_callv (x_runV (As := [.int 1]) (rest := []) hF (c6_begins hI S 1 ) (cwV 1 hts gX6_tell_X6_begins rfl rfl rfl (by decide +kernel) ⟨Nat.le_of_ble_eq_true rfl, Nat.le_of_ble_eq_true rfl⟩) hK hP (by decide) rfl rfl rfl hl.1 rfl (Nat.le_of_ble_eq_true rfl) dX6_tell_92 ⟨Nat.zero_le _, Nat.zero_le _⟩) hS hAd (fun S92 H locs hw hP _ hS => ?_)
        rw [hw] at hP
        refine lv_iload_n hx hb dX6_tell_95 rfl (lv_at hl 0 rfl) ?_
        refine x_iret hx hb hr hlocks hP hS dX6_tell_96 ?_
        subst ex16
        exact ⟨by first | (simp [su_su, su_at, q2, en2, z23_1, z23_2]; done) | ( simp [su_su, su_at, q2, en2, z23_1, z23_2]; done) | grind, by first | (simp [su_su, su_at, q2, en2, z23_1, z23_2]; done) | ( simp [su_su, su_at, q2, en2, z23_1, z23_2]; done) | grind⟩
  · have hw : r2 = 0 := hw.trans (if_neg q2)
    subst hw
    refine lv_if_ne (tgt := 10) hx hb dX6_tell_5 (by decide) (fun hc => absurd (by decide) hc) (fun _ => ?_)
    refine lv_iconst (v := (-1)) hx hb dX6_tell_8 (by decide +kernel) ?_
    refine x_iret hx hb hr hlocks hP hS dX6_tell_9 ?_
    skip
    exact ⟨by first | (simp [su_su, su_at, q2]; done) | ( simp [su_su, su_at, q2]; done) | grind, by first | (simp [su_su, su_at, q2]; done) | ( simp [su_su, su_at, q2]; done) | grind⟩

set_option maxHeartbeats 4000000 in
set_option maxRecDepth 100000 in
theorem c6_teach (hI : xI 18 bd) (S : xSt) (N : Nat) (hN : S 0 7 = nI N) (hN5 : N ≤ 5) (sn : Int32) : xMi l yX6_teach wsX6_teach ({ frames := 1, cells := 0, slots := 0, locals := 21 }) (dC, dI) vwCl (tyl cI cZ cS cG) (mLy cI cZ bd) 18 bd [.ref (bd 0), .int sn] S (fun r S' => r = (if inR sn (S 0 7) then (if S 5 (nN sn) = 2 then 50 else sn) else -1) ∧ S' = (if inR sn (S 0 7) then su S 0 1 (31 * S 0 1 + (if S 5 (nN sn) = 2 then 5 else 4)) else S)) := by
  refine xM_of (cc := cX6_teach) (nL := 2) (ret := (some .int)) (by decide) rfl (Nat.le_of_ble_eq_true rfl) ?_
  intro p e s m below meth c ls B hl hK hP
  obtain ⟨hx, hb, hml, hown, hts, hr, hlocks⟩ := B
  have hl : lv_has ls 2 [(0, .ref (bd 0)), (1, .int sn)] := hl
  have hS : va_S (xA 18 bd) s.heap s.heap [] := va_S.rf
  have hAd : ∀ k, k < 18 → xA 18 bd (bd k) := xA_in
  have hinX6 : ∀ w ∈ wsX60, w ∈ wsX6_teach := fun _ h => List.mem_cons_of_mem _ (List.mem_append_right _ h)
  have hF : CallFix p m c cX6_teach 2 s _ wsX6_teach RX6 := ⟨hx, hb, hml, hown, hts⟩
  refine lv_aload_n hx hb dX6_teach_0 rfl (lv_at hl 0 rfl) ?_
  refine lv_iload_n hx hb dX6_teach_1 rfl (lv_at hl 1 rfl) ?_
  refine x_calli (x_runV (As := [.int sn]) (rest := []) hF (c6_isSon hI S sn ) (cwV 1 hts gX6_teach_X6_isSon rfl rfl rfl (by decide +kernel) ⟨Nat.le_of_ble_eq_true rfl, Nat.le_of_ble_eq_true rfl⟩) hK hP (by decide) rfl rfl rfl hl.1 rfl (Nat.le_of_ble_eq_true rfl) dX6_teach_2 ⟨Nat.zero_le _, Nat.zero_le _⟩) hS hAd (fun r2 S2 H locs hw hP _ hS => ?_)
  obtain ⟨hw, eS2⟩ := hw
  rw [eS2] at hP
  by_cases q2 : inR sn (S 0 7) = true
  · have hw : r2 = 1 := hw.trans (if_pos q2)
    subst hw
    obtain ⟨j2, hj2, rfl⟩ : ∃ j, j < N ∧ sn = nI j := inR_ex (by rw [← hN]; exact q2) (by omega)
    have en2 : nN (nI j2) = j2 := nN_nI (by omega)
    refine lv_if_ne (tgt := 10) hx hb dX6_teach_5 (by decide) (fun _ => ?_) (fun hc => absurd hc (by decide))
    refine lv_aload_n hx hb dX6_teach_10 rfl (lv_at hl 0 rfl) ?_
    refine lv_aload_n hx hb dX6_teach_11 rfl (lv_at hl 0 rfl) ?_
    refine x_get (v := .ref (bd 5)) hx hb hts hinX6 hown hK hP 0 (by decide) rfl rfl 9 (by decide) (hts _ (List.mem_of_getElem? (i := 1) rfl)) rfl dX6_teach_12 ?_
    refine lv_iload_n hx hb dX6_teach_15 rfl (lv_at hl 1 rfl) ?_
    refine x_iald (v := S 5 j2) hx hb hK hP 5 0 (by decide) rfl rfl j2 rfl (by omega) (by decide) rfl dX6_teach_16 ?_
    refine lv_iconst (v := 2) hx hb dX6_teach_17 (by decide +kernel) ?_
    refine lv_icmp_ne (tgt := 25) hx hb dX6_teach_18 (by decide) (fun c18 => ?_) (fun c18 => ?_)
    · refine lv_iconst (v := 4) hx hb dX6_teach_25 (by decide +kernel) ?_
      refine x_callv (x_runV (As := [.int 4]) (rest := []) hF (c6_begins hI S 4 ) (cwV 1 hts gX6_teach_X6_begins rfl rfl rfl (by decide +kernel) ⟨Nat.le_of_ble_eq_true rfl, Nat.le_of_ble_eq_true rfl⟩) hK hP (by decide) rfl rfl rfl hl.1 rfl (Nat.le_of_ble_eq_true rfl) dX6_teach_26 ⟨Nat.zero_le _, Nat.zero_le _⟩) hS hAd (fun S26 H locs hw hP _ hS => ?_)
      rw [hw] at hP
      refine lv_aload_n hx hb dX6_teach_29 rfl (lv_at hl 0 rfl) ?_
      refine x_get (v := .ref (bd 5)) hx hb hts hinX6 hown hK hP 0 (by decide) rfl rfl 9 (by decide) (hts _ (List.mem_of_getElem? (i := 1) rfl)) rfl dX6_teach_30 ?_
      refine lv_iload_n hx hb dX6_teach_33 rfl (lv_at hl 1 rfl) ?_
      refine x_iald (v := S 5 j2) hx hb hK hP 5 0 (by decide) rfl rfl j2 rfl (by omega) (by decide) rfl dX6_teach_34 ?_
      refine lv_iconst (v := 2) hx hb dX6_teach_35 (by decide +kernel) ?_
      refine lv_icmp_ne (tgt := 44) hx hb dX6_teach_36 (by decide) (fun c36 => ?_) (fun c36 => ?_)
      · refine lv_iload_n hx hb dX6_teach_44 rfl (lv_at hl 1 rfl) ?_
        refine x_iret hx hb hr hlocks hP hS dX6_teach_45 ?_
        skip
        exact ⟨by first | (simp [su_su, su_at, q2, en2, c18, c36]; done) | ( simp [su_su, su_at, q2, en2, c18, c36]; done) | grind, by first | (simp [su_su, su_at, q2, en2, c18, c36]; done) | ( simp [su_su, su_at, q2, en2, c18, c36]; done) | grind⟩
      · refine lv_bipush (v := 50) hx hb dX6_teach_39 (by decide +kernel) ?_
        refine lv_goto (tgt := 45) hx hb dX6_teach_41 (by decide) ?_
        refine x_iret hx hb hr hlocks hP hS dX6_teach_45 ?_
        skip
        exact ⟨by first | (simp [su_su, su_at, q2, en2, c18, c36]; done) | (subst c36; simp [su_su, su_at, q2, en2, c18]; done) | grind, by first | (simp [su_su, su_at, q2, en2, c18, c36]; done) | (subst c36; simp [su_su, su_at, q2, en2, c18]; done) | grind⟩
    · refine lv_iconst (v := 5) hx hb dX6_teach_21 (by decide +kernel) ?_
      refine lv_goto (tgt := 26) hx hb dX6_teach_22 (by decide) ?_
      refine x_callv (x_runV (As := [.int 5]) (rest := []) hF (c6_begins hI S 5 ) (cwV 1 hts gX6_teach_X6_begins rfl rfl rfl (by decide +kernel) ⟨Nat.le_of_ble_eq_true rfl, Nat.le_of_ble_eq_true rfl⟩) hK hP (by decide) rfl rfl rfl hl.1 rfl (Nat.le_of_ble_eq_true rfl) dX6_teach_26 ⟨Nat.zero_le _, Nat.zero_le _⟩) hS hAd (fun S26 H locs hw hP _ hS => ?_)
      rw [hw] at hP
      refine lv_aload_n hx hb dX6_teach_29 rfl (lv_at hl 0 rfl) ?_
      refine x_get (v := .ref (bd 5)) hx hb hts hinX6 hown hK hP 0 (by decide) rfl rfl 9 (by decide) (hts _ (List.mem_of_getElem? (i := 1) rfl)) rfl dX6_teach_30 ?_
      refine lv_iload_n hx hb dX6_teach_33 rfl (lv_at hl 1 rfl) ?_
      refine x_iald (v := S 5 j2) hx hb hK hP 5 0 (by decide) rfl rfl j2 rfl (by omega) (by decide) rfl dX6_teach_34 ?_
      refine lv_iconst (v := 2) hx hb dX6_teach_35 (by decide +kernel) ?_
      refine lv_icmp_ne (tgt := 44) hx hb dX6_teach_36 (by decide) (fun c36 => ?_) (fun c36 => ?_)
      · refine lv_iload_n hx hb dX6_teach_44 rfl (lv_at hl 1 rfl) ?_
        refine x_iret hx hb hr hlocks hP hS dX6_teach_45 ?_
        skip
        exact ⟨by first | (simp [su_su, su_at, q2, en2, c18, c36]; done) | (subst c18; simp [su_su, su_at, q2, en2, c36]; done) | grind, by first | (simp [su_su, su_at, q2, en2, c18, c36]; done) | (subst c18; simp [su_su, su_at, q2, en2, c36]; done) | grind⟩
      · refine lv_bipush (v := 50) hx hb dX6_teach_39 (by decide +kernel) ?_
        refine lv_goto (tgt := 45) hx hb dX6_teach_41 (by decide) ?_
        refine x_iret hx hb hr hlocks hP hS dX6_teach_45 ?_
        skip
        exact ⟨by first | (simp [su_su, su_at, q2, en2, c18, c36]; done) | (subst c18; subst c36; simp [su_su, su_at, q2, en2]; done) | grind, by first | (simp [su_su, su_at, q2, en2, c18, c36]; done) | (subst c18; subst c36; simp [su_su, su_at, q2, en2]; done) | grind⟩
  · have hw : r2 = 0 := hw.trans (if_neg q2)
    subst hw
    refine lv_if_ne (tgt := 10) hx hb dX6_teach_5 (by decide) (fun hc => absurd (by decide) hc) (fun _ => ?_)
    refine lv_iconst (v := (-1)) hx hb dX6_teach_8 (by decide +kernel) ?_
    refine x_iret hx hb hr hlocks hP hS dX6_teach_9 ?_
    skip
    exact ⟨by first | (simp [su_su, su_at, q2]; done) | ( simp [su_su, su_at, q2]; done) | grind, by first | (simp [su_su, su_at, q2]; done) | ( simp [su_su, su_at, q2]; done) | grind⟩

set_option maxHeartbeats 4000000 in
set_option maxRecDepth 100000 in
theorem c6_as (hI : xI 18 bd) (S : xSt) (N : Nat) (hN : S 0 7 = nI N) (hN5 : N ≤ 5) (sn kn : Int32) : xMi l yX6_as wsX6_as ({ frames := 1, cells := 0, slots := 0, locals := 22 }) (dC, dI) vwCl (tyl cI cZ cS cG) (mLy cI cZ bd) 18 bd [.ref (bd 0), .int sn, .int kn] S (fun r S' => r = (if inR sn (S 0 7) then (if wit kn 0 2 then (if S 5 (nN sn) < kn then -12 else 1) else -2) else -1) ∧ S' = (if inR sn (S 0 7) ∧ wit kn 0 2 = true ∧ S 5 (nN sn) < kn then su S 0 0 2 else su S 0 0 0)) := by
  refine xM_of (cc := cX6_as) (nL := 3) (ret := (some .int)) (by decide) rfl (Nat.le_of_ble_eq_true rfl) ?_
  intro p e s m below meth c ls B hl hK hP
  obtain ⟨hx, hb, hml, hown, hts, hr, hlocks⟩ := B
  have hl : lv_has ls 3 [(0, .ref (bd 0)), (1, .int sn), (2, .int kn)] := hl
  have hS : va_S (xA 18 bd) s.heap s.heap [] := va_S.rf
  have hAd : ∀ k, k < 18 → xA 18 bd (bd k) := xA_in
  have hinX6 : ∀ w ∈ wsX60, w ∈ wsX6_as := fun _ h => List.mem_cons_of_mem _ (List.mem_append_right _ h)
  have hF : CallFix p m c cX6_as 3 s _ wsX6_as RX6 := ⟨hx, hb, hml, hown, hts⟩
  refine lv_aload_n hx hb dX6_as_0 rfl (lv_at hl 0 rfl) ?_
  refine lv_iconst (v := 0) hx hb dX6_as_1 (by decide +kernel) ?_
  refine x_put hx hb hts hinX6 tyX6 tyX6_ok nmX6 hown hK hI hAd hP hS 0 (by decide) rfl rfl 0 (by decide) (hts _ (List.mem_of_getElem? (i := 1) rfl)) rfl (upd (S 0) 0 0) rfl rfl rfl (Nat.le_of_ble_eq_true rfl) dX6_as_2 (fun H locs hP hS => ?_)
  have hP : va_P (dC, dI) vwCl (xW (mLy cI cZ bd) 18 bd (su S 0 0 0)) H := hP
  refine lv_aload_n hx hb dX6_as_5 rfl (lv_at hl 0 rfl) ?_
  refine lv_iload_n hx hb dX6_as_6 rfl (lv_at hl 1 rfl) ?_
  refine x_calli (x_runV (As := [.int sn]) (rest := []) hF (c6_isSon hI (su S 0 0 0) sn ) (cwV 1 hts gX6_as_X6_isSon rfl rfl rfl (by decide +kernel) ⟨Nat.le_of_ble_eq_true rfl, Nat.le_of_ble_eq_true rfl⟩) hK hP (by decide) rfl rfl rfl hl.1 rfl (Nat.le_of_ble_eq_true rfl) dX6_as_7 ⟨Nat.zero_le _, Nat.zero_le _⟩) hS hAd (fun r7 S7 H locs hw hP _ hS => ?_)
  obtain ⟨hw, eS7⟩ := hw
  rw [eS7] at hP
  by_cases q7 : inR sn (S 0 7) = true
  · have hw : r7 = 1 := hw.trans (if_pos q7)
    subst hw
    obtain ⟨j7, hj7, rfl⟩ : ∃ j, j < N ∧ sn = nI j := inR_ex (by rw [← hN]; exact q7) (by omega)
    have en7 : nN (nI j7) = j7 := nN_nI (by omega)
    refine lv_if_ne (tgt := 15) hx hb dX6_as_10 (by decide) (fun _ => ?_) (fun hc => absurd hc (by decide))
    refine lv_iload_n hx hb dX6_as_15 rfl (lv_at hl 2 rfl) ?_
    refine lv_iconst (v := 0) hx hb dX6_as_16 (by decide +kernel) ?_
    refine lv_iconst (v := 2) hx hb dX6_as_17 (by decide +kernel) ?_
    refine x_calli (x_runS (As := [.int kn, .int 0, .int 2]) (rest := []) hF (c6_within hI (su S 0 0 0) kn 0 2 ) (va_cwS 3 hts gX6_as_X6_within rfl rfl rfl (by decide +kernel) ⟨Nat.le_of_ble_eq_true rfl, Nat.le_of_ble_eq_true rfl⟩) hK hP rfl hl.1 rfl (Nat.le_of_ble_eq_true rfl) dX6_as_18 ⟨Nat.zero_le _, Nat.zero_le _⟩) hS hAd (fun r18 S18 H locs hw hP _ hS => ?_)
    obtain ⟨hw, eS18⟩ := hw
    rw [eS18] at hP
    by_cases q18 : wit kn 0 2 = true
    · have hw : r18 = 1 := hw.trans (if_pos q18)
      subst hw
      refine lv_if_ne (tgt := 27) hx hb dX6_as_21 (by decide) (fun _ => ?_) (fun hc => absurd hc (by decide))
      refine lv_aload_n hx hb dX6_as_27 rfl (lv_at hl 0 rfl) ?_
      refine x_get (v := .ref (bd 5)) hx hb hts hinX6 hown hK hP 0 (by decide) rfl rfl 9 (by decide) (hts _ (List.mem_of_getElem? (i := 2) rfl)) rfl dX6_as_28 ?_
      refine lv_iload_n hx hb dX6_as_31 rfl (lv_at hl 1 rfl) ?_
      refine x_iald (v := S 5 j7) hx hb hK hP 5 0 (by decide) rfl rfl j7 rfl (by omega) (by decide) rfl dX6_as_32 ?_
      refine lv_iload_n hx hb dX6_as_33 rfl (lv_at hl 2 rfl) ?_
      refine lv_icmp_lt (tgt := 41) hx hb dX6_as_34 (by decide) (fun c34 => ?_) (fun c34 => ?_)
      · have d34 := Int32.not_le.mpr c34
        refine lv_aload_n hx hb dX6_as_41 rfl (lv_at hl 0 rfl) ?_
        refine lv_iconst (v := 2) hx hb dX6_as_42 (by decide +kernel) ?_
        refine x_calli (x_runV (As := [.int 2]) (rest := []) hF (c6_fails hI (su S 0 0 0) 2 ) (cwV 1 hts gX6_as_X6_fails rfl rfl rfl (by decide +kernel) ⟨Nat.le_of_ble_eq_true rfl, Nat.le_of_ble_eq_true rfl⟩) hK hP (by decide) rfl rfl rfl hl.1 rfl (Nat.le_of_ble_eq_true rfl) dX6_as_43 ⟨Nat.zero_le _, Nat.zero_le _⟩) hS hAd (fun r43 S43 H locs hw hP _ hS => ?_)
        obtain ⟨er43, eS43⟩ := hw
        rw [eS43] at hP
        refine x_iret hx hb hr hlocks hP hS dX6_as_46 ?_
        subst er43
        exact ⟨by first | (simp [su_su, su_at, q7, en7, q18, c34, d34]; done) | ( simp [su_su, su_at, q7, en7, q18, c34, d34]; done) | grind, by first | (simp [su_su, su_at, q7, en7, q18, c34, d34]; done) | ( simp [su_su, su_at, q7, en7, q18, c34, d34]; done) | grind⟩
      · have d34 := Int32.not_lt.mp c34
        refine lv_iconst (v := 1) hx hb dX6_as_37 (by decide +kernel) ?_
        refine lv_goto (tgt := 46) hx hb dX6_as_38 (by decide) ?_
        refine x_iret hx hb hr hlocks hP hS dX6_as_46 ?_
        skip
        exact ⟨by first | (simp [su_su, su_at, q7, en7, q18, c34, d34]; done) | ( simp [su_su, su_at, q7, en7, q18, c34, d34]; done) | grind, by first | (simp [su_su, su_at, q7, en7, q18, c34, d34]; done) | ( simp [su_su, su_at, q7, en7, q18, c34, d34]; done) | grind⟩
    · have hw : r18 = 0 := hw.trans (if_neg q18)
      subst hw
      refine lv_if_ne (tgt := 27) hx hb dX6_as_21 (by decide) (fun hc => absurd (by decide) hc) (fun _ => ?_)
      refine lv_bipush (v := (-2)) hx hb dX6_as_24 (by decide +kernel) ?_
      refine x_iret hx hb hr hlocks hP hS dX6_as_26 ?_
      skip
      exact ⟨by first | (simp [su_su, su_at, q7, en7, q18]; done) | ( simp [su_su, su_at, q7, en7, q18]; done) | grind, by first | (simp [su_su, su_at, q7, en7, q18]; done) | ( simp [su_su, su_at, q7, en7, q18]; done) | grind⟩
  · have hw : r7 = 0 := hw.trans (if_neg q7)
    subst hw
    refine lv_if_ne (tgt := 15) hx hb dX6_as_10 (by decide) (fun hc => absurd (by decide) hc) (fun _ => ?_)
    refine lv_iconst (v := (-1)) hx hb dX6_as_13 (by decide +kernel) ?_
    refine x_iret hx hb hr hlocks hP hS dX6_as_14 ?_
    skip
    exact ⟨by first | (simp [su_su, su_at, q7]; done) | ( simp [su_su, su_at, q7]; done) | grind, by first | (simp [su_su, su_at, q7]; done) | ( simp [su_su, su_at, q7]; done) | grind⟩

set_option maxHeartbeats 4000000 in
set_option maxRecDepth 100000 in
theorem c6_many (hI : xI 18 bd) (S : xSt) (N : Nat) (hN : S 0 7 = nI N) (hN5 : N ≤ 5) (wn : Int32) : xMi l yX6_many wsX6_many ({ frames := 1, cells := 0, slots := 0, locals := 22 }) (dC, dI) vwCl (tyl cI cZ cS cG) (mLy cI cZ bd) 18 bd [.ref (bd 0), .int wn] S (fun r S' => r = (if wn = 0 then S 0 7 else if wn = 1 then S 0 5 else if wn = 2 then S 0 6 else if wn = 3 then pcM (mSent S N) else if wn = 4 then S 0 22 else -2) ∧ S' = S) := by
  refine xM_of (cc := cX6_many) (nL := 2) (ret := (some .int)) (by decide) rfl (Nat.le_of_ble_eq_true rfl) ?_
  intro p e s m below meth c ls B hl hK hP
  obtain ⟨hx, hb, hml, hown, hts, hr, hlocks⟩ := B
  have hl : lv_has ls 2 [(0, .ref (bd 0)), (1, .int wn)] := hl
  have hS : va_S (xA 18 bd) s.heap s.heap [] := va_S.rf
  have hAd : ∀ k, k < 18 → xA 18 bd (bd k) := xA_in
  have hinX6 : ∀ w ∈ wsX60, w ∈ wsX6_many := fun _ h => List.mem_cons_of_mem _ (List.mem_append_right _ h)
  have hF : CallFix p m c cX6_many 2 s _ wsX6_many RX6 := ⟨hx, hb, hml, hown, hts⟩
  refine lv_iload_n hx hb dX6_many_0 rfl (lv_at hl 1 rfl) ?_
  by_cases z1_0 : wn = 0
  · refine W.eq (g2 := F0 m 1 ls (.int 0 :: [])) (by rw [z1_0]) ?_
    refine lv_tableIn (tgt := 36) (off := 35) hx hb dX6_many_1 (by decide +kernel) (by decide +kernel) (by decide +kernel) (by decide) ?_
    refine lv_aload_n hx hb dX6_many_36 rfl (lv_at hl 0 rfl) ?_
    refine x_get (v := .int (S 0 7)) hx hb hts hinX6 hown hK hP 0 (by decide) rfl rfl 7 (by decide) (hts _ (List.mem_of_getElem? (i := 1) rfl)) rfl dX6_many_37 ?_
    refine x_iret hx hb hr hlocks hP hS dX6_many_40 ?_
    skip
    exact ⟨by first | (simp [su_su, su_at, z1_0]; done) | (subst z1_0; simp [su_su, su_at, ]; done) | grind, rfl⟩
  · skip
    by_cases z1_1 : wn = 1
    · refine W.eq (g2 := F0 m 1 ls (.int 1 :: [])) (by rw [z1_1]) ?_
      refine lv_tableIn (tgt := 41) (off := 40) hx hb dX6_many_1 (by decide +kernel) (by decide +kernel) (by decide +kernel) (by decide) ?_
      refine lv_aload_n hx hb dX6_many_41 rfl (lv_at hl 0 rfl) ?_
      refine x_get (v := .int (S 0 5)) hx hb hts hinX6 hown hK hP 0 (by decide) rfl rfl 5 (by decide) (hts _ (List.mem_of_getElem? (i := 2) rfl)) rfl dX6_many_42 ?_
      refine x_iret hx hb hr hlocks hP hS dX6_many_45 ?_
      skip
      exact ⟨by first | (simp [su_su, su_at, z1_0, z1_1]; done) | (subst z1_1; simp [su_su, su_at, z1_0]; done) | grind, rfl⟩
    · skip
      by_cases z1_2 : wn = 2
      · refine W.eq (g2 := F0 m 1 ls (.int 2 :: [])) (by rw [z1_2]) ?_
        refine lv_tableIn (tgt := 46) (off := 45) hx hb dX6_many_1 (by decide +kernel) (by decide +kernel) (by decide +kernel) (by decide) ?_
        refine lv_aload_n hx hb dX6_many_46 rfl (lv_at hl 0 rfl) ?_
        refine x_get (v := .int (S 0 6)) hx hb hts hinX6 hown hK hP 0 (by decide) rfl rfl 6 (by decide) (hts _ (List.mem_of_getElem? (i := 3) rfl)) rfl dX6_many_47 ?_
        refine x_iret hx hb hr hlocks hP hS dX6_many_50 ?_
        skip
        exact ⟨by first | (simp [su_su, su_at, z1_0, z1_1, z1_2]; done) | (subst z1_2; simp [su_su, su_at, z1_0, z1_1]; done) | grind, rfl⟩
      · skip
        by_cases z1_3 : wn = 3
        · refine W.eq (g2 := F0 m 1 ls (.int 3 :: [])) (by rw [z1_3]) ?_
          refine lv_tableIn (tgt := 51) (off := 50) hx hb dX6_many_1 (by decide +kernel) (by decide +kernel) (by decide +kernel) (by decide) ?_
          refine lv_aload_n hx hb dX6_many_51 rfl (lv_at hl 0 rfl) ?_
          refine x_calli (x_runV (As := []) (rest := []) hF (c6_sentSet hI S N hN hN5 ) (cwV 0 hts gX6_many_X6_sentSet rfl rfl rfl (by decide +kernel) ⟨Nat.le_of_ble_eq_true rfl, Nat.le_of_ble_eq_true rfl⟩) hK hP (by decide) rfl rfl rfl hl.1 rfl (Nat.le_of_ble_eq_true rfl) dX6_many_52 ⟨Nat.zero_le _, Nat.zero_le _⟩) hS hAd (fun r52 S52 H locs hw hP _ hS => ?_)
          obtain ⟨er52, eS52⟩ := hw
          rw [eS52] at hP
          obtain ⟨k0, hk0, ek0⟩ := mSent_ex S hN5
          have h32 : 2 ^ N ≤ 2 ^ 5 := Nat.pow_le_pow_right (by decide) hN5
          have er52 := er52.trans ek0
          subst er52
          refine x_calli (x_runS (As := [.int (nI k0)]) (rest := []) hF (c6_size hI S k0 (by omega) ) (va_cwS 1 hts gX6_many_X6_size rfl rfl rfl (by decide +kernel) ⟨Nat.le_of_ble_eq_true rfl, Nat.le_of_ble_eq_true rfl⟩) hK hP rfl hl.1 rfl (Nat.le_of_ble_eq_true rfl) dX6_many_55 ⟨Nat.zero_le _, Nat.zero_le _⟩) hS hAd (fun r55 S55 H locs hw hP _ hS => ?_)
          obtain ⟨er55, eS55⟩ := hw
          rw [eS55] at hP
          refine x_iret hx hb hr hlocks hP hS dX6_many_58 ?_
          subst er55
          exact ⟨by rw [ek0, pcM, nN_nI (by omega)]; simp [z1_0, z1_1, z1_2, z1_3], rfl⟩
        · skip
          by_cases z1_4 : wn = 4
          · refine W.eq (g2 := F0 m 1 ls (.int 4 :: [])) (by rw [z1_4]) ?_
            refine lv_tableIn (tgt := 59) (off := 58) hx hb dX6_many_1 (by decide +kernel) (by decide +kernel) (by decide +kernel) (by decide) ?_
            refine lv_aload_n hx hb dX6_many_59 rfl (lv_at hl 0 rfl) ?_
            refine x_get (v := .int (S 0 22)) hx hb hts hinX6 hown hK hP 0 (by decide) rfl rfl 22 (by decide) (hts _ (List.mem_of_getElem? (i := 4) rfl)) rfl dX6_many_60 ?_
            refine x_iret hx hb hr hlocks hP hS dX6_many_63 ?_
            skip
            exact ⟨by first | (simp [su_su, su_at, z1_0, z1_1, z1_2, z1_3, z1_4]; done) | (subst z1_4; simp [su_su, su_at, z1_0, z1_1, z1_2, z1_3]; done) | grind, rfl⟩
          · skip
            refine lv_tableOut (tgt := 64) hx hb dX6_many_1 (outT0_4 z1_0 z1_1 z1_2 z1_3 z1_4) (by decide) ?_
            refine lv_bipush (v := (-2)) hx hb dX6_many_64 (by decide +kernel) ?_
            refine x_iret hx hb hr hlocks hP hS dX6_many_66 ?_
            skip
            exact ⟨by first | (simp [su_su, su_at, z1_0, z1_1, z1_2, z1_3, z1_4]; done) | ( simp [su_su, su_at, z1_0, z1_1, z1_2, z1_3, z1_4]; done) | grind, rfl⟩

set_option maxHeartbeats 4000000 in
set_option maxRecDepth 100000 in
theorem c6_lose (hI : xI 18 bd) (S : xSt) (kn : Int32) : xMi l yX6_lose wsX6_lose ({ frames := 2, cells := 0, slots := 0, locals := 42 }) (dC, dI) vwCl (tyl cI cZ cS cG) (mLy cI cZ bd) 18 bd [.ref (bd 0), .int kn] S (fun r S' => r = (if wit kn 0 3 then (if S 1 (nN kn) = -9 then 0 else 1) else -1) ∧ S' = (if wit kn 0 3 then su S 1 (nN kn) (-9) else S)) := by
  refine xM_of (cc := cX6_lose) (nL := 3) (ret := (some .int)) (by decide) rfl (Nat.le_of_ble_eq_true rfl) ?_
  intro p e s m below meth c ls B hl hK hP
  obtain ⟨hx, hb, hml, hown, hts, hr, hlocks⟩ := B
  have hl : lv_has ls 3 [(0, .ref (bd 0)), (1, .int kn)] := hl
  have hS : va_S (xA 18 bd) s.heap s.heap [] := va_S.rf
  have hAd : ∀ k, k < 18 → xA 18 bd (bd k) := xA_in
  have hinX6 : ∀ w ∈ wsX60, w ∈ wsX6_lose := fun _ h => List.mem_cons_of_mem _ (List.mem_append_right _ h)
  have hF : CallFix p m c cX6_lose 3 s _ wsX6_lose RX6 := ⟨hx, hb, hml, hown, hts⟩
  refine lv_iload_n hx hb dX6_lose_0 rfl (lv_at hl 1 rfl) ?_
  refine x_calli (x_runS (As := [.int kn]) (rest := []) hF (c6_isSheet hI S kn ) (va_cwS 1 hts gX6_lose_X6_isSheet rfl rfl rfl (by decide +kernel) ⟨Nat.le_of_ble_eq_true rfl, Nat.le_of_ble_eq_true rfl⟩) hK hP rfl hl.1 rfl (Nat.le_of_ble_eq_true rfl) dX6_lose_1 ⟨Nat.zero_le _, Nat.zero_le _⟩) hS hAd (fun r1 S1 H locs hw hP _ hS => ?_)
  obtain ⟨hw, eS1⟩ := hw
  rw [eS1] at hP
  by_cases q1 : wit kn 0 3 = true
  · have hw : r1 = 1 := hw.trans (if_pos q1)
    subst hw
    obtain ⟨j1, hj1, rfl⟩ := wit3_ex q1
    have en1 : nN (nI j1) = j1 := nN_nI (by omega)
    refine lv_if_ne (tgt := 9) hx hb dX6_lose_4 (by decide) (fun _ => ?_) (fun hc => absurd hc (by decide))
    refine lv_aload_n hx hb dX6_lose_9 rfl (lv_at hl 0 rfl) ?_
    refine x_get (v := .ref (bd 1)) hx hb hts hinX6 hown hK hP 0 (by decide) rfl rfl 2 (by decide) (hts _ (List.mem_of_getElem? (i := 1) rfl)) rfl dX6_lose_10 ?_
    refine lv_iload_n hx hb dX6_lose_13 rfl (lv_at hl 1 rfl) ?_
    refine x_iald (v := S 1 j1) hx hb hK hP 1 0 (by decide) rfl rfl j1 rfl (by omega) (by decide) rfl dX6_lose_14 ?_
    refine lv_bipush (v := (-9)) hx hb dX6_lose_15 (by decide +kernel) ?_
    refine lv_icmp_ne (tgt := 24) hx hb dX6_lose_17 (by decide) (fun c17 => ?_) (fun c17 => ?_)
    · refine lv_iconst (v := 1) hx hb dX6_lose_24 (by decide +kernel) ?_
      refine lv_istore_n (lv' := [(2, .int 1), (0, .ref (bd 0)), (1, .int (nI j1))]) hx hb dX6_lose_25 rfl hl (by decide) rfl (fun ls hl => ?_)
      refine lv_aload_n hx hb dX6_lose_26 rfl (lv_at hl 1 rfl) ?_
      refine x_get (v := .ref (bd 1)) hx hb hts hinX6 hown hK hP 0 (by decide) rfl rfl 2 (by decide) (hts _ (List.mem_of_getElem? (i := 1) rfl)) rfl dX6_lose_27 ?_
      refine lv_iload_n hx hb dX6_lose_30 rfl (lv_at hl 2 rfl) ?_
      refine lv_bipush (v := (-9)) hx hb dX6_lose_31 (by decide +kernel) ?_
      refine x_iast hx hb hK hI hAd hP hS 1 0 (by decide) (fun _ => rfl) rfl j1 rfl (by omega) (by decide) dX6_lose_33 (fun H locs hP hS => ?_)
      refine lv_iload_n hx hb dX6_lose_34 rfl (lv_at hl 0 rfl) ?_
      refine x_iret hx hb hr hlocks hP hS dX6_lose_35 ?_
      skip
      exact ⟨by first | (simp [su_su, su_at, q1, en1, c17]; done) | ( simp [su_su, su_at, q1, en1, c17]; done) | grind, by first | (simp [su_su, su_at, q1, en1, c17]; done) | ( simp [su_su, su_at, q1, en1, c17]; done) | grind⟩
    · refine lv_iconst (v := 0) hx hb dX6_lose_20 (by decide +kernel) ?_
      refine lv_goto (tgt := 25) hx hb dX6_lose_21 (by decide) ?_
      refine lv_istore_n (lv' := [(2, .int 0), (0, .ref (bd 0)), (1, .int (nI j1))]) hx hb dX6_lose_25 rfl hl (by decide) rfl (fun ls hl => ?_)
      refine lv_aload_n hx hb dX6_lose_26 rfl (lv_at hl 1 rfl) ?_
      refine x_get (v := .ref (bd 1)) hx hb hts hinX6 hown hK hP 0 (by decide) rfl rfl 2 (by decide) (hts _ (List.mem_of_getElem? (i := 1) rfl)) rfl dX6_lose_27 ?_
      refine lv_iload_n hx hb dX6_lose_30 rfl (lv_at hl 2 rfl) ?_
      refine lv_bipush (v := (-9)) hx hb dX6_lose_31 (by decide +kernel) ?_
      refine x_iast hx hb hK hI hAd hP hS 1 0 (by decide) (fun _ => rfl) rfl j1 rfl (by omega) (by decide) dX6_lose_33 (fun H locs hP hS => ?_)
      refine lv_iload_n hx hb dX6_lose_34 rfl (lv_at hl 0 rfl) ?_
      refine x_iret hx hb hr hlocks hP hS dX6_lose_35 ?_
      skip
      exact ⟨by first | (simp [su_su, su_at, q1, en1, c17]; done) | (subst c17; simp [su_su, su_at, q1, en1]; done) | grind, by first | (simp [su_su, su_at, q1, en1, c17]; done) | (subst c17; simp [su_su, su_at, q1, en1]; done) | grind⟩
  · have hw : r1 = 0 := hw.trans (if_neg q1)
    subst hw
    refine lv_if_ne (tgt := 9) hx hb dX6_lose_4 (by decide) (fun hc => absurd (by decide) hc) (fun _ => ?_)
    refine lv_iconst (v := (-1)) hx hb dX6_lose_7 (by decide +kernel) ?_
    refine x_iret hx hb hr hlocks hP hS dX6_lose_8 ?_
    skip
    exact ⟨by first | (simp [su_su, su_at, q1]; done) | ( simp [su_su, su_at, q1]; done) | grind, by first | (simp [su_su, su_at, q1]; done) | ( simp [su_su, su_at, q1]; done) | grind⟩

set_option maxHeartbeats 4000000 in
set_option maxRecDepth 100000 in
theorem c6_put (hI : xI 18 bd) (S : xSt) (hsl : ∀ k, k < 4 → okN (S 2 k) 61) (kn i v : Int32) : xMi l yX6_put wsX6_put ({ frames := 2, cells := 0, slots := 0, locals := 42 }) (dC, dI) vwCl (tyl cI cZ cS cG) (mLy cI cZ bd) 18 bd [.ref (bd 0), .int kn, .int i, .int v] S (fun r S' => r = (if wit kn 0 3 then (if S 1 (nN kn) = -9 then -11 else if wit i 0 (S 2 (nN kn) - 1) then 1 else -13) else -1) ∧ S' = (if wit kn 0 3 then (if S 1 (nN kn) = -9 then su S 0 0 1 else if wit i 0 (S 2 (nN kn) - 1) then su (su S 0 0 0) 3 (60 * nN kn + nN i) (if S 1 (nN kn) = 0 then v.toInt8.toInt32 else if S 1 (nN kn) = 1 then v.toInt16.toInt32 else v) else su S 0 0 3) else su S 0 0 0)) := by
  refine xM_of (cc := cX6_put) (nL := 4) (ret := (some .int)) (by decide) rfl (Nat.le_of_ble_eq_true rfl) ?_
  intro p e s m below meth c ls B hl hK hP
  obtain ⟨hx, hb, hml, hown, hts, hr, hlocks⟩ := B
  have hl : lv_has ls 4 [(0, .ref (bd 0)), (1, .int kn), (2, .int i), (3, .int v)] := hl
  have hS : va_S (xA 18 bd) s.heap s.heap [] := va_S.rf
  have hAd : ∀ k, k < 18 → xA 18 bd (bd k) := xA_in
  have hinX6 : ∀ w ∈ wsX60, w ∈ wsX6_put := fun _ h => List.mem_cons_of_mem _ (List.mem_append_right _ h)
  have hF : CallFix p m c cX6_put 4 s _ wsX6_put RX6 := ⟨hx, hb, hml, hown, hts⟩
  refine lv_aload_n hx hb dX6_put_0 rfl (lv_at hl 0 rfl) ?_
  refine lv_iconst (v := 0) hx hb dX6_put_1 (by decide +kernel) ?_
  refine x_put hx hb hts hinX6 tyX6 tyX6_ok nmX6 hown hK hI hAd hP hS 0 (by decide) rfl rfl 0 (by decide) (hts _ (List.mem_of_getElem? (i := 1) rfl)) rfl (upd (S 0) 0 0) rfl rfl rfl (Nat.le_of_ble_eq_true rfl) dX6_put_2 (fun H locs hP hS => ?_)
  have hP : va_P (dC, dI) vwCl (xW (mLy cI cZ bd) 18 bd (su S 0 0 0)) H := hP
  refine lv_iload_n hx hb dX6_put_5 rfl (lv_at hl 1 rfl) ?_
  refine x_calli (x_runS (As := [.int kn]) (rest := []) hF (c6_isSheet hI (su S 0 0 0) kn ) (va_cwS 1 hts gX6_put_X6_isSheet rfl rfl rfl (by decide +kernel) ⟨Nat.le_of_ble_eq_true rfl, Nat.le_of_ble_eq_true rfl⟩) hK hP rfl hl.1 rfl (Nat.le_of_ble_eq_true rfl) dX6_put_6 ⟨Nat.zero_le _, Nat.zero_le _⟩) hS hAd (fun r6 S6 H locs hw hP _ hS => ?_)
  obtain ⟨hw, eS6⟩ := hw
  rw [eS6] at hP
  by_cases q6 : wit kn 0 3 = true
  · have hw : r6 = 1 := hw.trans (if_pos q6)
    subst hw
    obtain ⟨j6, hj6, rfl⟩ := wit3_ex q6
    have en6 : nN (nI j6) = j6 := nN_nI (by omega)
    refine lv_if_ne (tgt := 14) hx hb dX6_put_9 (by decide) (fun _ => ?_) (fun hc => absurd hc (by decide))
    refine lv_aload_n hx hb dX6_put_14 rfl (lv_at hl 0 rfl) ?_
    refine x_get (v := .ref (bd 1)) hx hb hts hinX6 hown hK hP 0 (by decide) rfl rfl 2 (by decide) (hts _ (List.mem_of_getElem? (i := 2) rfl)) rfl dX6_put_15 ?_
    refine lv_iload_n hx hb dX6_put_18 rfl (lv_at hl 1 rfl) ?_
    refine x_iald (v := S 1 j6) hx hb hK hP 1 0 (by decide) rfl rfl j6 rfl (by omega) (by decide) rfl dX6_put_19 ?_
    refine lv_bipush (v := (-9)) hx hb dX6_put_20 (by decide +kernel) ?_
    refine lv_icmp_ne (tgt := 31) hx hb dX6_put_22 (by decide) (fun c22 => ?_) (fun c22 => ?_)
    · refine lv_iload_n hx hb dX6_put_31 rfl (lv_at hl 2 rfl) ?_
      refine lv_iconst (v := 0) hx hb dX6_put_32 (by decide +kernel) ?_
      refine lv_aload_n hx hb dX6_put_33 rfl (lv_at hl 0 rfl) ?_
      refine x_get (v := .ref (bd 2)) hx hb hts hinX6 hown hK hP 0 (by decide) rfl rfl 3 (by decide) (hts _ (List.mem_of_getElem? (i := 3) rfl)) rfl dX6_put_34 ?_
      refine lv_iload_n hx hb dX6_put_37 rfl (lv_at hl 1 rfl) ?_
      refine x_iald (v := S 2 j6) hx hb hK hP 2 0 (by decide) rfl rfl j6 rfl (by omega) (by decide) rfl dX6_put_38 ?_
      refine lv_iconst (v := 1) hx hb dX6_put_39 (by decide +kernel) ?_
      refine lv_isub hx hb dX6_put_40 ?_
      refine x_calli (x_runS (As := [.int i, .int 0, .int ((S 2 j6) - 1)]) (rest := []) hF (c6_within hI (su S 0 0 0) i 0 ((S 2 j6) - 1) ) (va_cwS 3 hts gX6_put_X6_within rfl rfl rfl (by decide +kernel) ⟨Nat.le_of_ble_eq_true rfl, Nat.le_of_ble_eq_true rfl⟩) hK hP rfl hl.1 rfl (Nat.le_of_ble_eq_true rfl) dX6_put_41 ⟨Nat.zero_le _, Nat.zero_le _⟩) hS hAd (fun r41 S41 H locs hw hP _ hS => ?_)
      obtain ⟨hw, eS41⟩ := hw
      rw [eS41] at hP
      by_cases q41 : wit i 0 ((S 2 j6) - 1) = true
      · have hw : r41 = 1 := hw.trans (if_pos q41)
        subst hw
        obtain ⟨L, hL61, hL⟩ := hsl j6 hj6
        obtain ⟨a1, ha1, rfl⟩ := witL_ex (L := L) (by rw [← hL]; exact q41) (by omega)
        have g1 : nN (nI a1) = a1 := nN_nI (by omega)
        refine lv_if_ne (tgt := 53) hx hb dX6_put_44 (by decide) (fun _ => ?_) (fun hc => absurd hc (by decide))
        refine lv_aload_n hx hb dX6_put_53 rfl (lv_at hl 0 rfl) ?_
        refine x_get (v := .ref (bd 3)) hx hb hts hinX6 hown hK hP 0 (by decide) rfl rfl 4 (by decide) (hts _ (List.mem_of_getElem? (i := 4) rfl)) rfl dX6_put_54 ?_
        refine lv_bipush (v := 60) hx hb dX6_put_57 (by decide +kernel) ?_
        refine lv_iload_n hx hb dX6_put_59 rfl (lv_at hl 1 rfl) ?_
        refine lv_imul hx hb dX6_put_60 ?_
        refine lv_iload_n hx hb dX6_put_61 rfl (lv_at hl 2 rfl) ?_
        refine lv_iadd hx hb dX6_put_62 ?_
        refine lv_aload_n hx hb dX6_put_63 rfl (lv_at hl 0 rfl) ?_
        refine x_get (v := .ref (bd 1)) hx hb hts hinX6 hown hK hP 0 (by decide) rfl rfl 2 (by decide) (hts _ (List.mem_of_getElem? (i := 2) rfl)) rfl dX6_put_64 ?_
        refine lv_iload_n hx hb dX6_put_67 rfl (lv_at hl 1 rfl) ?_
        refine x_iald (v := S 1 j6) hx hb hK hP 1 0 (by decide) rfl rfl j6 rfl (by omega) (by decide) rfl dX6_put_68 ?_
        refine lv_if_ne (tgt := 77) hx hb dX6_put_69 (by decide) (fun c69 => ?_) (fun c69 => ?_)
        · refine lv_aload_n hx hb dX6_put_77 rfl (lv_at hl 0 rfl) ?_
          refine x_get (v := .ref (bd 1)) hx hb hts hinX6 hown hK hP 0 (by decide) rfl rfl 2 (by decide) (hts _ (List.mem_of_getElem? (i := 2) rfl)) rfl dX6_put_78 ?_
          refine lv_iload_n hx hb dX6_put_81 rfl (lv_at hl 1 rfl) ?_
          refine x_iald (v := S 1 j6) hx hb hK hP 1 0 (by decide) rfl rfl j6 rfl (by omega) (by decide) rfl dX6_put_82 ?_
          refine lv_iconst (v := 1) hx hb dX6_put_83 (by decide +kernel) ?_
          refine lv_icmp_ne (tgt := 92) hx hb dX6_put_84 (by decide) (fun c84 => ?_) (fun c84 => ?_)
          · refine lv_iload_n hx hb dX6_put_92 rfl (lv_at hl 3 rfl) ?_
            refine x_iast hx hb hK hI hAd hP hS 3 0 (by decide) (fun _ => rfl) rfl (60 * j6 + a1) (ix60 _ _) (by omega) (by decide) dX6_put_93 (fun H locs hP hS => ?_)
            refine lv_iconst (v := 1) hx hb dX6_put_94 (by decide +kernel) ?_
            refine x_iret hx hb hr hlocks hP hS dX6_put_95 ?_
            skip
            exact ⟨by first | (simp [su_su, su_at, q6, en6, c22, q41, g1, c69, c84]; done) | ( simp [su_su, su_at, q6, en6, c22, q41, g1, c69, c84]; done) | grind, by first | (simp [su_su, su_at, q6, en6, c22, q41, g1, c69, c84]; done) | ( simp [su_su, su_at, q6, en6, c22, q41, g1, c69, c84]; done) | grind⟩
          · refine lv_iload_n hx hb dX6_put_87 rfl (lv_at hl 3 rfl) ?_
            refine lv_i2s hx hb dX6_put_88 rfl ?_
            refine lv_goto (tgt := 93) hx hb dX6_put_89 (by decide) ?_
            refine x_iast hx hb hK hI hAd hP hS 3 0 (by decide) (fun _ => rfl) rfl (60 * j6 + a1) (ix60 _ _) (by omega) (by decide) dX6_put_93 (fun H locs hP hS => ?_)
            refine lv_iconst (v := 1) hx hb dX6_put_94 (by decide +kernel) ?_
            refine x_iret hx hb hr hlocks hP hS dX6_put_95 ?_
            skip
            exact ⟨by first | (simp [su_su, su_at, q6, en6, c22, q41, g1, c69, c84]; done) | (subst c84; simp [su_su, su_at, q6, en6, c22, q41, g1, c69]; done) | grind, by first | (simp [su_su, su_at, q6, en6, c22, q41, g1, c69, c84]; done) | (subst c84; simp [su_su, su_at, q6, en6, c22, q41, g1, c69]; done) | grind⟩
        · refine lv_iload_n hx hb dX6_put_72 rfl (lv_at hl 3 rfl) ?_
          refine lv_i2b hx hb dX6_put_73 rfl ?_
          refine lv_goto (tgt := 93) hx hb dX6_put_74 (by decide) ?_
          refine x_iast hx hb hK hI hAd hP hS 3 0 (by decide) (fun _ => rfl) rfl (60 * j6 + a1) (ix60 _ _) (by omega) (by decide) dX6_put_93 (fun H locs hP hS => ?_)
          refine lv_iconst (v := 1) hx hb dX6_put_94 (by decide +kernel) ?_
          refine x_iret hx hb hr hlocks hP hS dX6_put_95 ?_
          skip
          exact ⟨by first | (simp [su_su, su_at, q6, en6, c22, q41, g1, c69]; done) | (subst c69; simp [su_su, su_at, q6, en6, c22, q41, g1]; done) | grind, by first | (simp [su_su, su_at, q6, en6, c22, q41, g1, c69]; done) | (subst c69; simp [su_su, su_at, q6, en6, c22, q41, g1]; done) | grind⟩
      · have hw : r41 = 0 := hw.trans (if_neg q41)
        subst hw
        refine lv_if_ne (tgt := 53) hx hb dX6_put_44 (by decide) (fun hc => absurd (by decide) hc) (fun _ => ?_)
        refine lv_aload_n hx hb dX6_put_47 rfl (lv_at hl 0 rfl) ?_
        refine lv_iconst (v := 3) hx hb dX6_put_48 (by decide +kernel) ?_
        refine x_calli (x_runV (As := [.int 3]) (rest := []) hF (c6_fails hI (su S 0 0 0) 3 ) (cwV 1 hts gX6_put_X6_fails rfl rfl rfl (by decide +kernel) ⟨Nat.le_of_ble_eq_true rfl, Nat.le_of_ble_eq_true rfl⟩) hK hP (by decide) rfl rfl rfl hl.1 rfl (Nat.le_of_ble_eq_true rfl) dX6_put_49 ⟨Nat.zero_le _, Nat.zero_le _⟩) hS hAd (fun r49 S49 H locs hw hP _ hS => ?_)
        obtain ⟨er49, eS49⟩ := hw
        rw [eS49] at hP
        refine x_iret hx hb hr hlocks hP hS dX6_put_52 ?_
        subst er49
        exact ⟨by first | (simp [su_su, su_at, q6, en6, c22, q41]; done) | ( simp [su_su, su_at, q6, en6, c22, q41]; done) | grind, by first | (simp [su_su, su_at, q6, en6, c22, q41]; done) | ( simp [su_su, su_at, q6, en6, c22, q41]; done) | grind⟩
    · refine lv_aload_n hx hb dX6_put_25 rfl (lv_at hl 0 rfl) ?_
      refine lv_iconst (v := 1) hx hb dX6_put_26 (by decide +kernel) ?_
      refine x_calli (x_runV (As := [.int 1]) (rest := []) hF (c6_fails hI (su S 0 0 0) 1 ) (cwV 1 hts gX6_put_X6_fails rfl rfl rfl (by decide +kernel) ⟨Nat.le_of_ble_eq_true rfl, Nat.le_of_ble_eq_true rfl⟩) hK hP (by decide) rfl rfl rfl hl.1 rfl (Nat.le_of_ble_eq_true rfl) dX6_put_27 ⟨Nat.zero_le _, Nat.zero_le _⟩) hS hAd (fun r27 S27 H locs hw hP _ hS => ?_)
      obtain ⟨er27, eS27⟩ := hw
      rw [eS27] at hP
      refine x_iret hx hb hr hlocks hP hS dX6_put_30 ?_
      subst er27
      exact ⟨by first | (simp [su_su, su_at, q6, en6, c22]; done) | (subst c22; simp [su_su, su_at, q6, en6]; done) | grind, by first | (simp [su_su, su_at, q6, en6, c22]; done) | (subst c22; simp [su_su, su_at, q6, en6]; done) | grind⟩
  · have hw : r6 = 0 := hw.trans (if_neg q6)
    subst hw
    refine lv_if_ne (tgt := 14) hx hb dX6_put_9 (by decide) (fun hc => absurd (by decide) hc) (fun _ => ?_)
    refine lv_iconst (v := (-1)) hx hb dX6_put_12 (by decide +kernel) ?_
    refine x_iret hx hb hr hlocks hP hS dX6_put_13 ?_
    skip
    exact ⟨by first | (simp [su_su, su_at, q6]; done) | ( simp [su_su, su_at, q6]; done) | grind, by first | (simp [su_su, su_at, q6]; done) | ( simp [su_su, su_at, q6]; done) | grind⟩

set_option maxHeartbeats 4000000 in
set_option maxRecDepth 100000 in
theorem c6_cell (hI : xI 18 bd) (S : xSt) (hsl : ∀ k, k < 4 → okN (S 2 k) 61) (kn i ln : Int32) : xMl l yX6_cell wsX6_cell ({ frames := 2, cells := 0, slots := 0, locals := 42 }) (dC, dI) vwCl (tyl cI cZ cS cG) (mLy cI cZ bd) 18 bd [.ref (bd 0), .int kn, .int i, .int ln] S (fun r S' => r = (if wit kn 0 3 ∧ wit ln 0 2 then (if S 1 (nN kn) = -9 ∨ S 1 (nN kn) = ln then (if S 1 (nN kn) = -9 then -9223372036854775808 else if wit i 0 (S 2 (nN kn) - 1) then (S 3 (60 * nN kn + nN i)).toInt64 else -9223372036854775808) else -9223372036854775808) else -9223372036854775808) ∧ S' = (if wit kn 0 3 ∧ wit ln 0 2 then (if S 1 (nN kn) = -9 ∨ S 1 (nN kn) = ln then (if S 1 (nN kn) = -9 then su S 0 0 1 else if wit i 0 (S 2 (nN kn) - 1) then su S 0 0 0 else su S 0 0 3) else su S 0 0 2) else su S 0 0 0)) := by
  refine xM_of (cc := cX6_cell) (nL := 4) (ret := (some .long)) (by decide) rfl (Nat.le_of_ble_eq_true rfl) ?_
  intro p e s m below meth c ls B hl hK hP
  obtain ⟨hx, hb, hml, hown, hts, hr, hlocks⟩ := B
  have hl : lv_has ls 4 [(0, .ref (bd 0)), (1, .int kn), (2, .int i), (3, .int ln)] := hl
  have hS : va_S (xA 18 bd) s.heap s.heap [] := va_S.rf
  have hAd : ∀ k, k < 18 → xA 18 bd (bd k) := xA_in
  have hinX6 : ∀ w ∈ wsX60, w ∈ wsX6_cell := fun _ h => List.mem_cons_of_mem _ (List.mem_append_right _ h)
  have hF : CallFix p m c cX6_cell 4 s _ wsX6_cell RX6 := ⟨hx, hb, hml, hown, hts⟩
  refine lv_aload_n hx hb dX6_cell_0 rfl (lv_at hl 0 rfl) ?_
  refine lv_iconst (v := 0) hx hb dX6_cell_1 (by decide +kernel) ?_
  refine x_put hx hb hts hinX6 tyX6 tyX6_ok nmX6 hown hK hI hAd hP hS 0 (by decide) rfl rfl 0 (by decide) (hts _ (List.mem_of_getElem? (i := 1) rfl)) rfl (upd (S 0) 0 0) rfl rfl rfl (Nat.le_of_ble_eq_true rfl) dX6_cell_2 (fun H locs hP hS => ?_)
  have hP : va_P (dC, dI) vwCl (xW (mLy cI cZ bd) 18 bd (su S 0 0 0)) H := hP
  refine lv_iload_n hx hb dX6_cell_5 rfl (lv_at hl 1 rfl) ?_
  refine x_calli (x_runS (As := [.int kn]) (rest := []) hF (c6_isSheet hI (su S 0 0 0) kn ) (va_cwS 1 hts gX6_cell_X6_isSheet rfl rfl rfl (by decide +kernel) ⟨Nat.le_of_ble_eq_true rfl, Nat.le_of_ble_eq_true rfl⟩) hK hP rfl hl.1 rfl (Nat.le_of_ble_eq_true rfl) dX6_cell_6 ⟨Nat.zero_le _, Nat.zero_le _⟩) hS hAd (fun r6 S6 H locs hw hP _ hS => ?_)
  obtain ⟨hw, eS6⟩ := hw
  rw [eS6] at hP
  by_cases q6 : wit kn 0 3 = true
  · have hw : r6 = 1 := hw.trans (if_pos q6)
    subst hw
    obtain ⟨j6, hj6, rfl⟩ := wit3_ex q6
    have en6 : nN (nI j6) = j6 := nN_nI (by omega)
    refine lv_if_eq (tgt := 19) hx hb dX6_cell_9 (by decide) (fun hc => absurd hc (by decide)) (fun _ => ?_)
    refine lv_iload_n hx hb dX6_cell_12 rfl (lv_at hl 3 rfl) ?_
    refine x_calli (x_runS (As := [.int ln]) (rest := []) hF (c6_isSort hI (su S 0 0 0) ln ) (va_cwS 1 hts gX6_cell_X6_isSort rfl rfl rfl (by decide +kernel) ⟨Nat.le_of_ble_eq_true rfl, Nat.le_of_ble_eq_true rfl⟩) hK hP rfl hl.1 rfl (Nat.le_of_ble_eq_true rfl) dX6_cell_13 ⟨Nat.zero_le _, Nat.zero_le _⟩) hS hAd (fun r13 S13 H locs hw hP _ hS => ?_)
    obtain ⟨hw, eS13⟩ := hw
    rw [eS13] at hP
    by_cases q13 : wit ln 0 2 = true
    · have hw : r13 = 1 := hw.trans (if_pos q13)
      subst hw
      refine lv_if_ne (tgt := 23) hx hb dX6_cell_16 (by decide) (fun _ => ?_) (fun hc => absurd hc (by decide))
      refine lv_aload_n hx hb dX6_cell_23 rfl (lv_at hl 0 rfl) ?_
      refine x_get (v := .ref (bd 1)) hx hb hts hinX6 hown hK hP 0 (by decide) rfl rfl 2 (by decide) (hts _ (List.mem_of_getElem? (i := 3) rfl)) rfl dX6_cell_24 ?_
      refine lv_iload_n hx hb dX6_cell_27 rfl (lv_at hl 1 rfl) ?_
      refine x_iald (v := S 1 j6) hx hb hK hP 1 0 (by decide) rfl rfl j6 rfl (by omega) (by decide) rfl dX6_cell_28 ?_
      refine lv_bipush (v := (-9)) hx hb dX6_cell_29 (by decide +kernel) ?_
      refine lv_icmp_eq (tgt := 50) hx hb dX6_cell_31 (by decide) (fun c31 => ?_) (fun c31 => ?_)
      · refine lv_aload_n hx hb dX6_cell_50 rfl (lv_at hl 0 rfl) ?_
        refine x_get (v := .ref (bd 1)) hx hb hts hinX6 hown hK hP 0 (by decide) rfl rfl 2 (by decide) (hts _ (List.mem_of_getElem? (i := 3) rfl)) rfl dX6_cell_51 ?_
        refine lv_iload_n hx hb dX6_cell_54 rfl (lv_at hl 1 rfl) ?_
        refine x_iald (v := S 1 j6) hx hb hK hP 1 0 (by decide) rfl rfl j6 rfl (by omega) (by decide) rfl dX6_cell_55 ?_
        refine lv_bipush (v := (-9)) hx hb dX6_cell_56 (by decide +kernel) ?_
        refine lv_icmp_ne (tgt := 67) hx hb dX6_cell_58 (by decide) (fun c58 => ?_) (fun c58 => ?_)
        · refine lv_iload_n hx hb dX6_cell_67 rfl (lv_at hl 2 rfl) ?_
          refine lv_iconst (v := 0) hx hb dX6_cell_68 (by decide +kernel) ?_
          refine lv_aload_n hx hb dX6_cell_69 rfl (lv_at hl 0 rfl) ?_
          refine x_get (v := .ref (bd 2)) hx hb hts hinX6 hown hK hP 0 (by decide) rfl rfl 3 (by decide) (hts _ (List.mem_of_getElem? (i := 4) rfl)) rfl dX6_cell_70 ?_
          refine lv_iload_n hx hb dX6_cell_73 rfl (lv_at hl 1 rfl) ?_
          refine x_iald (v := S 2 j6) hx hb hK hP 2 0 (by decide) rfl rfl j6 rfl (by omega) (by decide) rfl dX6_cell_74 ?_
          refine lv_iconst (v := 1) hx hb dX6_cell_75 (by decide +kernel) ?_
          refine lv_isub hx hb dX6_cell_76 ?_
          refine x_calli (x_runS (As := [.int i, .int 0, .int ((S 2 j6) - 1)]) (rest := []) hF (c6_within hI (su S 0 0 0) i 0 ((S 2 j6) - 1) ) (va_cwS 3 hts gX6_cell_X6_within rfl rfl rfl (by decide +kernel) ⟨Nat.le_of_ble_eq_true rfl, Nat.le_of_ble_eq_true rfl⟩) hK hP rfl hl.1 rfl (Nat.le_of_ble_eq_true rfl) dX6_cell_77 ⟨Nat.zero_le _, Nat.zero_le _⟩) hS hAd (fun r77 S77 H locs hw hP _ hS => ?_)
          obtain ⟨hw, eS77⟩ := hw
          rw [eS77] at hP
          by_cases q77 : wit i 0 ((S 2 j6) - 1) = true
          · have hw : r77 = 1 := hw.trans (if_pos q77)
            subst hw
            obtain ⟨L, hL61, hL⟩ := hsl j6 hj6
            obtain ⟨a1, ha1, rfl⟩ := witL_ex (L := L) (by rw [← hL]; exact q77) (by omega)
            have g1 : nN (nI a1) = a1 := nN_nI (by omega)
            refine lv_if_ne (tgt := 89) hx hb dX6_cell_80 (by decide) (fun _ => ?_) (fun hc => absurd hc (by decide))
            refine lv_aload_n hx hb dX6_cell_89 rfl (lv_at hl 0 rfl) ?_
            refine x_get (v := .ref (bd 3)) hx hb hts hinX6 hown hK hP 0 (by decide) rfl rfl 4 (by decide) (hts _ (List.mem_of_getElem? (i := 5) rfl)) rfl dX6_cell_90 ?_
            refine lv_bipush (v := 60) hx hb dX6_cell_93 (by decide +kernel) ?_
            refine lv_iload_n hx hb dX6_cell_95 rfl (lv_at hl 1 rfl) ?_
            refine lv_imul hx hb dX6_cell_96 ?_
            refine lv_iload_n hx hb dX6_cell_97 rfl (lv_at hl 2 rfl) ?_
            refine lv_iadd hx hb dX6_cell_98 ?_
            refine x_iald (v := S 3 (60 * j6 + a1)) hx hb hK hP 3 0 (by decide) rfl rfl (60 * j6 + a1) (ix60 _ _) (by omega) (by decide) rfl dX6_cell_99 ?_
            refine lv_i2l hx hb dX6_cell_100 rfl ?_
            refine x_lret hx hb hr hlocks hP hS dX6_cell_101 ?_
            skip
            exact ⟨by first | (simp [su_su, su_at, q6, en6, q13, c31, c58, q77, g1]; done) | (subst c31; simp [su_su, su_at, q6, en6, q13, c58, q77, g1]; done) | grind, by first | (simp [su_su, su_at, q6, en6, q13, c31, c58, q77, g1]; done) | (subst c31; simp [su_su, su_at, q6, en6, q13, c58, q77, g1]; done) | grind⟩
          · have hw : r77 = 0 := hw.trans (if_neg q77)
            subst hw
            refine lv_if_ne (tgt := 89) hx hb dX6_cell_80 (by decide) (fun hc => absurd (by decide) hc) (fun _ => ?_)
            refine lv_aload_n hx hb dX6_cell_83 rfl (lv_at hl 0 rfl) ?_
            refine lv_iconst (v := 3) hx hb dX6_cell_84 (by decide +kernel) ?_
            refine x_calll (x_runV (As := [.int 3]) (rest := []) hF (c6_lost hI (su S 0 0 0) 3 ) (cwV 1 hts gX6_cell_X6_lost rfl rfl rfl (by decide +kernel) ⟨Nat.le_of_ble_eq_true rfl, Nat.le_of_ble_eq_true rfl⟩) hK hP (by decide) rfl rfl rfl hl.1 rfl (Nat.le_of_ble_eq_true rfl) dX6_cell_85 ⟨Nat.zero_le _, Nat.zero_le _⟩) hS hAd (fun r85 S85 H locs hw hP _ hS => ?_)
            obtain ⟨er85, eS85⟩ := hw
            rw [eS85] at hP
            refine x_lret hx hb hr hlocks hP hS dX6_cell_88 ?_
            subst er85
            exact ⟨by first | (simp [su_su, su_at, q6, en6, q13, c31, c58, q77]; done) | (subst c31; simp [su_su, su_at, q6, en6, q13, c58, q77]; done) | grind, by first | (simp [su_su, su_at, q6, en6, q13, c31, c58, q77]; done) | (subst c31; simp [su_su, su_at, q6, en6, q13, c58, q77]; done) | grind⟩
        · refine lv_aload_n hx hb dX6_cell_61 rfl (lv_at hl 0 rfl) ?_
          refine lv_iconst (v := 1) hx hb dX6_cell_62 (by decide +kernel) ?_
          refine x_calll (x_runV (As := [.int 1]) (rest := []) hF (c6_lost hI (su S 0 0 0) 1 ) (cwV 1 hts gX6_cell_X6_lost rfl rfl rfl (by decide +kernel) ⟨Nat.le_of_ble_eq_true rfl, Nat.le_of_ble_eq_true rfl⟩) hK hP (by decide) rfl rfl rfl hl.1 rfl (Nat.le_of_ble_eq_true rfl) dX6_cell_63 ⟨Nat.zero_le _, Nat.zero_le _⟩) hS hAd (fun r63 S63 H locs hw hP _ hS => ?_)
          obtain ⟨er63, eS63⟩ := hw
          rw [eS63] at hP
          refine x_lret hx hb hr hlocks hP hS dX6_cell_66 ?_
          subst er63
          exact ⟨by first | (simp [su_su, su_at, q6, en6, q13, c31, c58]; done) | (subst c31; subst c58; simp [su_su, su_at, q6, en6, q13]; done) | grind, by first | (simp [su_su, su_at, q6, en6, q13, c31, c58]; done) | (subst c31; subst c58; simp [su_su, su_at, q6, en6, q13]; done) | grind⟩
      · refine lv_aload_n hx hb dX6_cell_34 rfl (lv_at hl 0 rfl) ?_
        refine x_get (v := .ref (bd 1)) hx hb hts hinX6 hown hK hP 0 (by decide) rfl rfl 2 (by decide) (hts _ (List.mem_of_getElem? (i := 3) rfl)) rfl dX6_cell_35 ?_
        refine lv_iload_n hx hb dX6_cell_38 rfl (lv_at hl 1 rfl) ?_
        refine x_iald (v := S 1 j6) hx hb hK hP 1 0 (by decide) rfl rfl j6 rfl (by omega) (by decide) rfl dX6_cell_39 ?_
        refine lv_iload_n hx hb dX6_cell_40 rfl (lv_at hl 3 rfl) ?_
        refine lv_icmp_eq (tgt := 50) hx hb dX6_cell_41 (by decide) (fun c41 => ?_) (fun c41 => ?_)
        · refine lv_aload_n hx hb dX6_cell_50 rfl (lv_at hl 0 rfl) ?_
          refine x_get (v := .ref (bd 1)) hx hb hts hinX6 hown hK hP 0 (by decide) rfl rfl 2 (by decide) (hts _ (List.mem_of_getElem? (i := 3) rfl)) rfl dX6_cell_51 ?_
          refine lv_iload_n hx hb dX6_cell_54 rfl (lv_at hl 1 rfl) ?_
          refine x_iald (v := S 1 j6) hx hb hK hP 1 0 (by decide) rfl rfl j6 rfl (by omega) (by decide) rfl dX6_cell_55 ?_
          refine lv_bipush (v := (-9)) hx hb dX6_cell_56 (by decide +kernel) ?_
          refine lv_icmp_ne (tgt := 67) hx hb dX6_cell_58 (by decide) (fun c58 => ?_) (fun c58 => ?_)
          · refine lv_iload_n hx hb dX6_cell_67 rfl (lv_at hl 2 rfl) ?_
            refine lv_iconst (v := 0) hx hb dX6_cell_68 (by decide +kernel) ?_
            refine lv_aload_n hx hb dX6_cell_69 rfl (lv_at hl 0 rfl) ?_
            refine x_get (v := .ref (bd 2)) hx hb hts hinX6 hown hK hP 0 (by decide) rfl rfl 3 (by decide) (hts _ (List.mem_of_getElem? (i := 4) rfl)) rfl dX6_cell_70 ?_
            refine lv_iload_n hx hb dX6_cell_73 rfl (lv_at hl 1 rfl) ?_
            refine x_iald (v := S 2 j6) hx hb hK hP 2 0 (by decide) rfl rfl j6 rfl (by omega) (by decide) rfl dX6_cell_74 ?_
            refine lv_iconst (v := 1) hx hb dX6_cell_75 (by decide +kernel) ?_
            refine lv_isub hx hb dX6_cell_76 ?_
            refine x_calli (x_runS (As := [.int i, .int 0, .int ((S 2 j6) - 1)]) (rest := []) hF (c6_within hI (su S 0 0 0) i 0 ((S 2 j6) - 1) ) (va_cwS 3 hts gX6_cell_X6_within rfl rfl rfl (by decide +kernel) ⟨Nat.le_of_ble_eq_true rfl, Nat.le_of_ble_eq_true rfl⟩) hK hP rfl hl.1 rfl (Nat.le_of_ble_eq_true rfl) dX6_cell_77 ⟨Nat.zero_le _, Nat.zero_le _⟩) hS hAd (fun r77 S77 H locs hw hP _ hS => ?_)
            obtain ⟨hw, eS77⟩ := hw
            rw [eS77] at hP
            by_cases q77 : wit i 0 ((S 2 j6) - 1) = true
            · have hw : r77 = 1 := hw.trans (if_pos q77)
              subst hw
              obtain ⟨L, hL61, hL⟩ := hsl j6 hj6
              obtain ⟨a1, ha1, rfl⟩ := witL_ex (L := L) (by rw [← hL]; exact q77) (by omega)
              have g1 : nN (nI a1) = a1 := nN_nI (by omega)
              refine lv_if_ne (tgt := 89) hx hb dX6_cell_80 (by decide) (fun _ => ?_) (fun hc => absurd hc (by decide))
              refine lv_aload_n hx hb dX6_cell_89 rfl (lv_at hl 0 rfl) ?_
              refine x_get (v := .ref (bd 3)) hx hb hts hinX6 hown hK hP 0 (by decide) rfl rfl 4 (by decide) (hts _ (List.mem_of_getElem? (i := 5) rfl)) rfl dX6_cell_90 ?_
              refine lv_bipush (v := 60) hx hb dX6_cell_93 (by decide +kernel) ?_
              refine lv_iload_n hx hb dX6_cell_95 rfl (lv_at hl 1 rfl) ?_
              refine lv_imul hx hb dX6_cell_96 ?_
              refine lv_iload_n hx hb dX6_cell_97 rfl (lv_at hl 2 rfl) ?_
              refine lv_iadd hx hb dX6_cell_98 ?_
              refine x_iald (v := S 3 (60 * j6 + a1)) hx hb hK hP 3 0 (by decide) rfl rfl (60 * j6 + a1) (ix60 _ _) (by omega) (by decide) rfl dX6_cell_99 ?_
              refine lv_i2l hx hb dX6_cell_100 rfl ?_
              refine x_lret hx hb hr hlocks hP hS dX6_cell_101 ?_
              skip
              exact ⟨by first | (simp [su_su, su_at, q6, en6, q13, c31, c41, c58, q77, g1]; done) | (subst c41; simp [su_su, su_at, q6, en6, q13, c31, c58, q77, g1]; done) | grind, by first | (simp [su_su, su_at, q6, en6, q13, c31, c41, c58, q77, g1]; done) | (subst c41; simp [su_su, su_at, q6, en6, q13, c31, c58, q77, g1]; done) | grind⟩
            · have hw : r77 = 0 := hw.trans (if_neg q77)
              subst hw
              refine lv_if_ne (tgt := 89) hx hb dX6_cell_80 (by decide) (fun hc => absurd (by decide) hc) (fun _ => ?_)
              refine lv_aload_n hx hb dX6_cell_83 rfl (lv_at hl 0 rfl) ?_
              refine lv_iconst (v := 3) hx hb dX6_cell_84 (by decide +kernel) ?_
              refine x_calll (x_runV (As := [.int 3]) (rest := []) hF (c6_lost hI (su S 0 0 0) 3 ) (cwV 1 hts gX6_cell_X6_lost rfl rfl rfl (by decide +kernel) ⟨Nat.le_of_ble_eq_true rfl, Nat.le_of_ble_eq_true rfl⟩) hK hP (by decide) rfl rfl rfl hl.1 rfl (Nat.le_of_ble_eq_true rfl) dX6_cell_85 ⟨Nat.zero_le _, Nat.zero_le _⟩) hS hAd (fun r85 S85 H locs hw hP _ hS => ?_)
              obtain ⟨er85, eS85⟩ := hw
              rw [eS85] at hP
              refine x_lret hx hb hr hlocks hP hS dX6_cell_88 ?_
              subst er85
              exact ⟨by first | (simp [su_su, su_at, q6, en6, q13, c31, c41, c58, q77]; done) | (subst c41; simp [su_su, su_at, q6, en6, q13, c31, c58, q77]; done) | grind, by first | (simp [su_su, su_at, q6, en6, q13, c31, c41, c58, q77]; done) | (subst c41; simp [su_su, su_at, q6, en6, q13, c31, c58, q77]; done) | grind⟩
          · refine lv_aload_n hx hb dX6_cell_61 rfl (lv_at hl 0 rfl) ?_
            refine lv_iconst (v := 1) hx hb dX6_cell_62 (by decide +kernel) ?_
            refine x_calll (x_runV (As := [.int 1]) (rest := []) hF (c6_lost hI (su S 0 0 0) 1 ) (cwV 1 hts gX6_cell_X6_lost rfl rfl rfl (by decide +kernel) ⟨Nat.le_of_ble_eq_true rfl, Nat.le_of_ble_eq_true rfl⟩) hK hP (by decide) rfl rfl rfl hl.1 rfl (Nat.le_of_ble_eq_true rfl) dX6_cell_63 ⟨Nat.zero_le _, Nat.zero_le _⟩) hS hAd (fun r63 S63 H locs hw hP _ hS => ?_)
            obtain ⟨er63, eS63⟩ := hw
            rw [eS63] at hP
            refine x_lret hx hb hr hlocks hP hS dX6_cell_66 ?_
            subst er63
            exact ⟨by first | (simp [su_su, su_at, q6, en6, q13, c31, c41, c58]; done) | (subst c41; subst c58; simp [su_su, su_at, q6, en6, q13, c31]; done) | grind, by first | (simp [su_su, su_at, q6, en6, q13, c31, c41, c58]; done) | (subst c41; subst c58; simp [su_su, su_at, q6, en6, q13, c31]; done) | grind⟩
        · refine lv_aload_n hx hb dX6_cell_44 rfl (lv_at hl 0 rfl) ?_
          refine lv_iconst (v := 2) hx hb dX6_cell_45 (by decide +kernel) ?_
          refine x_calll (x_runV (As := [.int 2]) (rest := []) hF (c6_lost hI (su S 0 0 0) 2 ) (cwV 1 hts gX6_cell_X6_lost rfl rfl rfl (by decide +kernel) ⟨Nat.le_of_ble_eq_true rfl, Nat.le_of_ble_eq_true rfl⟩) hK hP (by decide) rfl rfl rfl hl.1 rfl (Nat.le_of_ble_eq_true rfl) dX6_cell_46 ⟨Nat.zero_le _, Nat.zero_le _⟩) hS hAd (fun r46 S46 H locs hw hP _ hS => ?_)
          obtain ⟨er46, eS46⟩ := hw
          rw [eS46] at hP
          refine x_lret hx hb hr hlocks hP hS dX6_cell_49 ?_
          subst er46
          exact ⟨by first | (simp [su_su, su_at, q6, en6, q13, c31, c41]; done) | ( simp [su_su, su_at, q6, en6, q13, c31, c41]; done) | grind, by first | (simp [su_su, su_at, q6, en6, q13, c31, c41]; done) | ( simp [su_su, su_at, q6, en6, q13, c31, c41]; done) | grind⟩
    · have hw : r13 = 0 := hw.trans (if_neg q13)
      subst hw
      refine lv_if_ne (tgt := 23) hx hb dX6_cell_16 (by decide) (fun hc => absurd (by decide) hc) (fun _ => ?_)
      refine lv_ldc2 (v := (-9223372036854775808)) hx hb hown (hts _ (List.mem_of_getElem? (i := 2) rfl)) dX6_cell_19 ?_
      refine x_lret hx hb hr hlocks hP hS dX6_cell_22 ?_
      skip
      exact ⟨by first | (simp [su_su, su_at, q6, en6, q13]; done) | ( simp [su_su, su_at, q6, en6, q13]; done) | grind, by first | (simp [su_su, su_at, q6, en6, q13]; done) | ( simp [su_su, su_at, q6, en6, q13]; done) | grind⟩
  · have hw : r6 = 0 := hw.trans (if_neg q6)
    subst hw
    refine lv_if_eq (tgt := 19) hx hb dX6_cell_9 (by decide) (fun _ => ?_) (fun hc => absurd (by decide) hc)
    refine lv_ldc2 (v := (-9223372036854775808)) hx hb hown (hts _ (List.mem_of_getElem? (i := 2) rfl)) dX6_cell_19 ?_
    refine x_lret hx hb hr hlocks hP hS dX6_cell_22 ?_
    skip
    exact ⟨by first | (simp [su_su, su_at, q6]; done) | ( simp [su_su, su_at, q6]; done) | grind, by first | (simp [su_su, su_at, q6]; done) | ( simp [su_su, su_at, q6]; done) | grind⟩

set_option maxHeartbeats 4000000 in
set_option maxRecDepth 100000 in
theorem c6_against (hI : xI 18 bd) (S : xSt) (k : Nat) (hk : k < 4) (ln i n : Int32) : xMi l yX6_against wsX6_against ({ frames := 0, cells := 0, slots := 0, locals := 0 }) (dC, dI) vwCl (tyl cI cZ cS cG) (mLy cI cZ bd) 18 bd [.ref (bd 0), .int (nI k), .int ln, .int i, .int n] S (fun r S' => r = (if ¬ S 1 k = -9 ∧ ¬ S 1 k = ln then 2 else if S 1 k = -9 then 1 else if n < 0 then 4 else if hCs i n (S 2 k) = true then 0 else 3) ∧ S' = S) := by
  refine xM_of (cc := cX6_against) (nL := 5) (ret := (some .int)) (by decide) rfl (Nat.le_of_ble_eq_true rfl) ?_
  intro p e s m below meth c ls B hl hK hP
  obtain ⟨hx, hb, hml, hown, hts, hr, hlocks⟩ := B
  have hl : lv_has ls 5 [(0, .ref (bd 0)), (1, .int (nI k)), (2, .int ln), (3, .int i), (4, .int n)] := hl
  have hS : va_S (xA 18 bd) s.heap s.heap [] := va_S.rf
  have hAd : ∀ k, k < 18 → xA 18 bd (bd k) := xA_in
  have hinX6 : ∀ w ∈ wsX60, w ∈ wsX6_against := fun _ h => List.mem_cons_of_mem _ (List.mem_append_right _ h)
  have hF : CallFix p m c cX6_against 5 s _ wsX6_against RX6 := ⟨hx, hb, hml, hown, hts⟩
  refine lv_aload_n hx hb dX6_against_0 rfl (lv_at hl 0 rfl) ?_
  refine x_get (v := .ref (bd 1)) hx hb hts hinX6 hown hK hP 0 (by decide) rfl rfl 2 (by decide) (hts _ (List.mem_of_getElem? (i := 1) rfl)) rfl dX6_against_1 ?_
  refine lv_iload_n hx hb dX6_against_4 rfl (lv_at hl 1 rfl) ?_
  refine x_iald (v := S 1 k) hx hb hK hP 1 0 (by decide) rfl rfl k rfl (by omega) (by decide) rfl dX6_against_5 ?_
  refine lv_bipush (v := (-9)) hx hb dX6_against_6 (by decide +kernel) ?_
  refine lv_icmp_eq (tgt := 23) hx hb dX6_against_8 (by decide) (fun c8 => ?_) (fun c8 => ?_)
  · refine lv_aload_n hx hb dX6_against_23 rfl (lv_at hl 0 rfl) ?_
    refine x_get (v := .ref (bd 1)) hx hb hts hinX6 hown hK hP 0 (by decide) rfl rfl 2 (by decide) (hts _ (List.mem_of_getElem? (i := 1) rfl)) rfl dX6_against_24 ?_
    refine lv_iload_n hx hb dX6_against_27 rfl (lv_at hl 1 rfl) ?_
    refine x_iald (v := S 1 k) hx hb hK hP 1 0 (by decide) rfl rfl k rfl (by omega) (by decide) rfl dX6_against_28 ?_
    refine lv_bipush (v := (-9)) hx hb dX6_against_29 (by decide +kernel) ?_
    refine lv_icmp_ne (tgt := 36) hx hb dX6_against_31 (by decide) (fun c31 => ?_) (fun c31 => ?_)
    · refine lv_iload hx hb dX6_against_36 (lv_at hl 4 rfl) ?_
      refine lv_if_ge (tgt := 43) hx hb dX6_against_38 (by decide) (fun c38 => ?_) (fun c38 => ?_)
      · have d38 := Int32.not_lt.mpr c38
        refine lv_iload_n hx hb dX6_against_43 rfl (lv_at hl 3 rfl) ?_
        refine lv_if_lt (tgt := 70) hx hb dX6_against_44 (by decide) (fun c44 => ?_) (fun c44 => ?_)
        · have d44 := Int32.not_le.mpr c44
          refine lv_iconst (v := 3) hx hb dX6_against_70 (by decide +kernel) ?_
          refine lv_goto (tgt := 75) hx hb dX6_against_71 (by decide) ?_
          refine x_iret hx hb hr hlocks hP hS dX6_against_75 ?_
          skip
          exact ⟨by first | (simp [hCs, c8, c31, c38, d38, c44, d44]; done) | (subst c8; simp [hCs, c31, c38, d38, c44, d44]; done) | grind, rfl⟩
        · have d44 := Int32.not_lt.mp c44
          refine lv_iload_n hx hb dX6_against_47 rfl (lv_at hl 3 rfl) ?_
          refine lv_aload_n hx hb dX6_against_48 rfl (lv_at hl 0 rfl) ?_
          refine x_get (v := .ref (bd 2)) hx hb hts hinX6 hown hK hP 0 (by decide) rfl rfl 3 (by decide) (hts _ (List.mem_of_getElem? (i := 2) rfl)) rfl dX6_against_49 ?_
          refine lv_iload_n hx hb dX6_against_52 rfl (lv_at hl 1 rfl) ?_
          refine x_iald (v := S 2 k) hx hb hK hP 2 0 (by decide) rfl rfl k rfl (by omega) (by decide) rfl dX6_against_53 ?_
          refine lv_icmp_gt (tgt := 70) hx hb dX6_against_54 (by decide) (fun c54 => ?_) (fun c54 => ?_)
          · have d54 := Int32.not_le.mpr c54
            refine lv_iconst (v := 3) hx hb dX6_against_70 (by decide +kernel) ?_
            refine lv_goto (tgt := 75) hx hb dX6_against_71 (by decide) ?_
            refine x_iret hx hb hr hlocks hP hS dX6_against_75 ?_
            skip
            exact ⟨by first | (simp [hCs, c8, c31, c38, d38, c44, d44, c54, d54]; done) | (subst c8; simp [hCs, c31, c38, d38, c44, d44, c54, d54]; done) | grind, rfl⟩
          · have d54 := Int32.not_lt.mp c54
            refine lv_iload hx hb dX6_against_57 (lv_at hl 4 rfl) ?_
            refine lv_aload_n hx hb dX6_against_59 rfl (lv_at hl 0 rfl) ?_
            refine x_get (v := .ref (bd 2)) hx hb hts hinX6 hown hK hP 0 (by decide) rfl rfl 3 (by decide) (hts _ (List.mem_of_getElem? (i := 2) rfl)) rfl dX6_against_60 ?_
            refine lv_iload_n hx hb dX6_against_63 rfl (lv_at hl 1 rfl) ?_
            refine x_iald (v := S 2 k) hx hb hK hP 2 0 (by decide) rfl rfl k rfl (by omega) (by decide) rfl dX6_against_64 ?_
            refine lv_iload_n hx hb dX6_against_65 rfl (lv_at hl 3 rfl) ?_
            refine lv_isub hx hb dX6_against_66 ?_
            refine lv_icmp_le (tgt := 74) hx hb dX6_against_67 (by decide) (fun c67 => ?_) (fun c67 => ?_)
            · have d67 := Int32.not_lt.mpr c67
              refine lv_iconst (v := 0) hx hb dX6_against_74 (by decide +kernel) ?_
              refine x_iret hx hb hr hlocks hP hS dX6_against_75 ?_
              skip
              exact ⟨by first | (simp [hCs, c8, c31, c38, d38, c44, d44, c54, d54, c67, d67]; done) | (subst c8; simp [hCs, c31, c38, d38, c44, d44, c54, d54, c67, d67]; done) | grind, rfl⟩
            · have d67 := Int32.not_le.mp c67
              refine lv_iconst (v := 3) hx hb dX6_against_70 (by decide +kernel) ?_
              refine lv_goto (tgt := 75) hx hb dX6_against_71 (by decide) ?_
              refine x_iret hx hb hr hlocks hP hS dX6_against_75 ?_
              skip
              exact ⟨by first | (simp [hCs, c8, c31, c38, d38, c44, d44, c54, d54, c67, d67]; done) | (subst c8; simp [hCs, c31, c38, d38, c44, d44, c54, d54, c67, d67]; done) | grind, rfl⟩
      · have d38 := Int32.not_le.mp c38
        refine lv_iconst (v := 4) hx hb dX6_against_41 (by decide +kernel) ?_
        refine x_iret hx hb hr hlocks hP hS dX6_against_42 ?_
        skip
        exact ⟨by first | (simp [hCs, c8, c31, c38, d38]; done) | (subst c8; simp [hCs, c31, c38, d38]; done) | grind, rfl⟩
    · refine lv_iconst (v := 1) hx hb dX6_against_34 (by decide +kernel) ?_
      refine x_iret hx hb hr hlocks hP hS dX6_against_35 ?_
      skip
      exact ⟨by first | (simp [hCs, c8, c31]; done) | (subst c8; subst c31; simp [hCs, ]; done) | grind, rfl⟩
  · refine lv_aload_n hx hb dX6_against_11 rfl (lv_at hl 0 rfl) ?_
    refine x_get (v := .ref (bd 1)) hx hb hts hinX6 hown hK hP 0 (by decide) rfl rfl 2 (by decide) (hts _ (List.mem_of_getElem? (i := 1) rfl)) rfl dX6_against_12 ?_
    refine lv_iload_n hx hb dX6_against_15 rfl (lv_at hl 1 rfl) ?_
    refine x_iald (v := S 1 k) hx hb hK hP 1 0 (by decide) rfl rfl k rfl (by omega) (by decide) rfl dX6_against_16 ?_
    refine lv_iload_n hx hb dX6_against_17 rfl (lv_at hl 2 rfl) ?_
    refine lv_icmp_eq (tgt := 23) hx hb dX6_against_18 (by decide) (fun c18 => ?_) (fun c18 => ?_)
    · refine lv_aload_n hx hb dX6_against_23 rfl (lv_at hl 0 rfl) ?_
      refine x_get (v := .ref (bd 1)) hx hb hts hinX6 hown hK hP 0 (by decide) rfl rfl 2 (by decide) (hts _ (List.mem_of_getElem? (i := 1) rfl)) rfl dX6_against_24 ?_
      refine lv_iload_n hx hb dX6_against_27 rfl (lv_at hl 1 rfl) ?_
      refine x_iald (v := S 1 k) hx hb hK hP 1 0 (by decide) rfl rfl k rfl (by omega) (by decide) rfl dX6_against_28 ?_
      refine lv_bipush (v := (-9)) hx hb dX6_against_29 (by decide +kernel) ?_
      refine lv_icmp_ne (tgt := 36) hx hb dX6_against_31 (by decide) (fun c31 => ?_) (fun c31 => ?_)
      · refine lv_iload hx hb dX6_against_36 (lv_at hl 4 rfl) ?_
        refine lv_if_ge (tgt := 43) hx hb dX6_against_38 (by decide) (fun c38 => ?_) (fun c38 => ?_)
        · have d38 := Int32.not_lt.mpr c38
          refine lv_iload_n hx hb dX6_against_43 rfl (lv_at hl 3 rfl) ?_
          refine lv_if_lt (tgt := 70) hx hb dX6_against_44 (by decide) (fun c44 => ?_) (fun c44 => ?_)
          · have d44 := Int32.not_le.mpr c44
            refine lv_iconst (v := 3) hx hb dX6_against_70 (by decide +kernel) ?_
            refine lv_goto (tgt := 75) hx hb dX6_against_71 (by decide) ?_
            refine x_iret hx hb hr hlocks hP hS dX6_against_75 ?_
            skip
            exact ⟨by first | (simp [hCs, c8, c18, c31, c38, d38, c44, d44]; done) | (subst c18; simp [hCs, c8, c31, c38, d38, c44, d44]; done) | grind, rfl⟩
          · have d44 := Int32.not_lt.mp c44
            refine lv_iload_n hx hb dX6_against_47 rfl (lv_at hl 3 rfl) ?_
            refine lv_aload_n hx hb dX6_against_48 rfl (lv_at hl 0 rfl) ?_
            refine x_get (v := .ref (bd 2)) hx hb hts hinX6 hown hK hP 0 (by decide) rfl rfl 3 (by decide) (hts _ (List.mem_of_getElem? (i := 2) rfl)) rfl dX6_against_49 ?_
            refine lv_iload_n hx hb dX6_against_52 rfl (lv_at hl 1 rfl) ?_
            refine x_iald (v := S 2 k) hx hb hK hP 2 0 (by decide) rfl rfl k rfl (by omega) (by decide) rfl dX6_against_53 ?_
            refine lv_icmp_gt (tgt := 70) hx hb dX6_against_54 (by decide) (fun c54 => ?_) (fun c54 => ?_)
            · have d54 := Int32.not_le.mpr c54
              refine lv_iconst (v := 3) hx hb dX6_against_70 (by decide +kernel) ?_
              refine lv_goto (tgt := 75) hx hb dX6_against_71 (by decide) ?_
              refine x_iret hx hb hr hlocks hP hS dX6_against_75 ?_
              skip
              exact ⟨by first | (simp [hCs, c8, c18, c31, c38, d38, c44, d44, c54, d54]; done) | (subst c18; simp [hCs, c8, c31, c38, d38, c44, d44, c54, d54]; done) | grind, rfl⟩
            · have d54 := Int32.not_lt.mp c54
              refine lv_iload hx hb dX6_against_57 (lv_at hl 4 rfl) ?_
              refine lv_aload_n hx hb dX6_against_59 rfl (lv_at hl 0 rfl) ?_
              refine x_get (v := .ref (bd 2)) hx hb hts hinX6 hown hK hP 0 (by decide) rfl rfl 3 (by decide) (hts _ (List.mem_of_getElem? (i := 2) rfl)) rfl dX6_against_60 ?_
              refine lv_iload_n hx hb dX6_against_63 rfl (lv_at hl 1 rfl) ?_
              refine x_iald (v := S 2 k) hx hb hK hP 2 0 (by decide) rfl rfl k rfl (by omega) (by decide) rfl dX6_against_64 ?_
              refine lv_iload_n hx hb dX6_against_65 rfl (lv_at hl 3 rfl) ?_
              refine lv_isub hx hb dX6_against_66 ?_
              refine lv_icmp_le (tgt := 74) hx hb dX6_against_67 (by decide) (fun c67 => ?_) (fun c67 => ?_)
              · have d67 := Int32.not_lt.mpr c67
                refine lv_iconst (v := 0) hx hb dX6_against_74 (by decide +kernel) ?_
                refine x_iret hx hb hr hlocks hP hS dX6_against_75 ?_
                skip
                exact ⟨by first | (simp [hCs, c8, c18, c31, c38, d38, c44, d44, c54, d54, c67, d67]; done) | (subst c18; simp [hCs, c8, c31, c38, d38, c44, d44, c54, d54, c67, d67]; done) | grind, rfl⟩
              · have d67 := Int32.not_le.mp c67
                refine lv_iconst (v := 3) hx hb dX6_against_70 (by decide +kernel) ?_
                refine lv_goto (tgt := 75) hx hb dX6_against_71 (by decide) ?_
                refine x_iret hx hb hr hlocks hP hS dX6_against_75 ?_
                skip
                exact ⟨by first | (simp [hCs, c8, c18, c31, c38, d38, c44, d44, c54, d54, c67, d67]; done) | (subst c18; simp [hCs, c8, c31, c38, d38, c44, d44, c54, d54, c67, d67]; done) | grind, rfl⟩
        · have d38 := Int32.not_le.mp c38
          refine lv_iconst (v := 4) hx hb dX6_against_41 (by decide +kernel) ?_
          refine x_iret hx hb hr hlocks hP hS dX6_against_42 ?_
          skip
          exact ⟨by first | (simp [hCs, c8, c18, c31, c38, d38]; done) | (subst c18; simp [hCs, c8, c31, c38, d38]; done) | grind, rfl⟩
      · refine lv_iconst (v := 1) hx hb dX6_against_34 (by decide +kernel) ?_
        refine x_iret hx hb hr hlocks hP hS dX6_against_35 ?_
        skip
        exact ⟨by first | (simp [hCs, c8, c18, c31]; done) | (subst c18; subst c31; simp [hCs, c8]; done) | grind, rfl⟩
    · refine lv_iconst (v := 2) hx hb dX6_against_21 (by decide +kernel) ?_
      refine x_iret hx hb hr hlocks hP hS dX6_against_22 ?_
      skip
      exact ⟨by first | (simp [hCs, c8, c18]; done) | ( simp [hCs, c8, c18]; done) | grind, rfl⟩

set_option maxHeartbeats 4000000 in
set_option maxRecDepth 100000 in
theorem c6_sheet_t (hI : xI 18 bd) (S : xSt) (k0 : Nat) (hk0 : k0 < 4) (ln : Int32) (hln : wit ln 0 2 = true) (n0 : Nat) (hn0 : n0 ≤ 60) : xMi l yX6_sheet wsX6_sheet ({ frames := 2, cells := 0, slots := 0, locals := 42 }) (dC, dI) vwCl (tyl cI cZ cS cG) (mLy cI cZ bd) 18 bd [.ref (bd 0), .int (nI k0), .int ln, .int (nI n0)] S (fun r S' => r = 1 ∧ S' = (sr (su (su (su S 0 0 0) 1 k0 ln) 2 k0 (nI n0)) 3 (fb_put (S 3) (fun _ => 0) (60 * k0) 60))) := by
  refine xM_of (cc := cX6_sheet) (nL := 5) (ret := (some .int)) (by decide) rfl (Nat.le_of_ble_eq_true rfl) ?_
  intro p e s m below meth c ls B hl hK hP
  obtain ⟨hx, hb, hml, hown, hts, hr, hlocks⟩ := B
  have hl : lv_has ls 5 [(0, .ref (bd 0)), (1, .int (nI k0)), (2, .int ln), (3, .int (nI n0))] := hl
  have hS : va_S (xA 18 bd) s.heap s.heap [] := va_S.rf
  have hAd : ∀ k, k < 18 → xA 18 bd (bd k) := xA_in
  have hinX6 : ∀ w ∈ wsX60, w ∈ wsX6_sheet := fun _ h => List.mem_cons_of_mem _ (List.mem_append_right _ h)
  have hF : CallFix p m c cX6_sheet 5 s _ wsX6_sheet RX6 := ⟨hx, hb, hml, hown, hts⟩
  have L57 : ∀ (n : Nat) (i : Nat) (hi : i + n = 60) (H : Heap) (locs : List Loc) (ls : Array Slot), va_P (dC, dI) vwCl (xW (mLy cI cZ bd) 18 bd (sr (su (su (su S 0 0 0) 1 k0 ln) 2 k0 (nI n0)) 3 (fb_put (S 3) (fun _ => 0) (60 * k0) i))) H → va_S (xA 18 bd) s.heap H locs → lv_has ls 5 [(0, .ref (bd 0)), (1, .int (nI k0)), (2, .int ln), (3, .int (nI n0)), (4, .int (nI i))] → W p l e ({ frames := 2, cells := 0, slots := 0, locals := 42 }) s m ([.ref (bd 0), .int (nI k0), .int ln, .int (nI n0)] : List Value).toArray below meth c H locs 0 0 (MQ below (xQi (dC, dI) vwCl (mLy cI cZ bd) 18 bd (fun r S' => r = 1 ∧ S' = (sr (su (su (su S 0 0 0) 1 k0 ln) 2 k0 (nI n0)) 3 (fb_put (S 3) (fun _ => 0) (60 * k0) 60)))) ([.ref (bd 0), .int (nI k0), .int ln, .int (nI n0)] : List Value).toArray s 0 0 (xA 18 bd)) (F0 m 57 ls []) := by
    intro n
    induction n with
    | zero =>
      intro i hi H locs ls hP hS hl
      refine lv_iload hx hb dX6_sheet_57 (lv_at hl 4 rfl) ?_
      refine lv_bipush (v := 60) hx hb dX6_sheet_59 (by decide +kernel) ?_
      refine lv_icmp_ge (tgt := 83) hx hb dX6_sheet_61 (by decide) (fun _ => ?_) (fun hc => absurd (nI_le (a := 60) (by omega) (by omega)) hc)
      refine lv_iconst (v := 1) hx hb dX6_sheet_83 (by decide +kernel) ?_
      refine x_iret hx hb hr hlocks hP hS dX6_sheet_84 ?_
      exact ⟨rfl, by rw [show i = 60 by omega]⟩
    | succ n ih =>
      intro i hi H locs ls hP hS hl
      refine lv_iload hx hb dX6_sheet_57 (lv_at hl 4 rfl) ?_
      refine lv_bipush (v := 60) hx hb dX6_sheet_59 (by decide +kernel) ?_
      refine lv_icmp_ge (tgt := 83) hx hb dX6_sheet_61 (by decide) (fun hc => absurd hc (nI_ge (b := 60) (by omega) (by omega))) (fun _ => ?_)
      refine lv_aload_n hx hb dX6_sheet_64 rfl (lv_at hl 0 rfl) ?_
      refine x_get (v := .ref (bd 3)) hx hb hts hinX6 hown hK hP 0 (by decide) rfl rfl 4 (by decide) (hts _ (List.mem_of_getElem? (i := 4) rfl)) rfl dX6_sheet_65 ?_
      refine lv_bipush (v := 60) hx hb dX6_sheet_68 (by decide +kernel) ?_
      refine lv_iload_n hx hb dX6_sheet_70 rfl (lv_at hl 1 rfl) ?_
      refine lv_imul hx hb dX6_sheet_71 ?_
      refine lv_iload hx hb dX6_sheet_72 (lv_at hl 4 rfl) ?_
      refine lv_iadd hx hb dX6_sheet_74 ?_
      refine lv_iconst (v := 0) hx hb dX6_sheet_75 (by decide +kernel) ?_
      refine x_iast hx hb hK hI hAd hP hS 3 0 (by decide) (fun _ => rfl) rfl (60 * k0 + i) (ix60 _ _) (by omega) (by decide) dX6_sheet_76 (fun H locs hP hS => ?_)
      refine lv_iinc (v := nI (i + 1)) (lv' := [(4, .int (nI (i + 1))), (0, .ref (bd 0)), (1, .int (nI k0)), (2, .int ln), (3, .int (nI n0))]) hx hb dX6_sheet_77 hl (k := 4) rfl (nI_1 _) (by decide) rfl (fun ls hl => ?_)
      refine lv_goto (tgt := 57) hx hb dX6_sheet_80 (by decide) ?_
      have eST : (su (sr (su (su (su S 0 0 0) 1 k0 ln) 2 k0 (nI n0)) 3 (fb_put (S 3) (fun _ => 0) (60 * k0) i)) 3 (60 * k0 + i) 0) = (sr (su (su (su S 0 0 0) 1 k0 ln) 2 k0 (nI n0)) 3 (fb_put (S 3) (fun _ => 0) (60 * k0) (i + 1))) := by rw [su, sr_self, fb_put_succ, sr_sr]
      rw [eST] at hP
      exact ih (i + 1) (by omega) H locs ls hP hS (lv_sub hl [1, 2, 3, 4, 0] rfl)
  refine lv_aload_n hx hb dX6_sheet_0 rfl (lv_at hl 0 rfl) ?_
  refine lv_iconst (v := 0) hx hb dX6_sheet_1 (by decide +kernel) ?_
  refine x_put hx hb hts hinX6 tyX6 tyX6_ok nmX6 hown hK hI hAd hP hS 0 (by decide) rfl rfl 0 (by decide) (hts _ (List.mem_of_getElem? (i := 1) rfl)) rfl (upd (S 0) 0 0) rfl rfl rfl (Nat.le_of_ble_eq_true rfl) dX6_sheet_2 (fun H locs hP hS => ?_)
  have hP : va_P (dC, dI) vwCl (xW (mLy cI cZ bd) 18 bd (su S 0 0 0)) H := hP
  refine lv_iload_n hx hb dX6_sheet_5 rfl (lv_at hl 1 rfl) ?_
  refine x_calli (x_runS (As := [.int (nI k0)]) (rest := []) hF (c6_isSheet hI (su S 0 0 0) (nI k0) ) (va_cwS 1 hts gX6_sheet_X6_isSheet rfl rfl rfl (by decide +kernel) ⟨Nat.le_of_ble_eq_true rfl, Nat.le_of_ble_eq_true rfl⟩) hK hP rfl hl.1 rfl (Nat.le_of_ble_eq_true rfl) dX6_sheet_6 ⟨Nat.zero_le _, Nat.zero_le _⟩) hS hAd (fun r6 S6 H locs hw hP _ hS => ?_)
  obtain ⟨hw, eS6⟩ := hw
  rw [eS6] at hP
  by_cases q6 : wit (nI k0) 0 3 = true
  · have hw : r6 = 1 := hw.trans (if_pos q6)
    subst hw
    refine lv_if_ne (tgt := 14) hx hb dX6_sheet_9 (by decide) (fun _ => ?_) (fun hc => absurd hc (by decide))
    refine lv_iload_n hx hb dX6_sheet_14 rfl (lv_at hl 2 rfl) ?_
    refine x_calli (x_runS (As := [.int ln]) (rest := []) hF (c6_isSort hI (su S 0 0 0) ln ) (va_cwS 1 hts gX6_sheet_X6_isSort rfl rfl rfl (by decide +kernel) ⟨Nat.le_of_ble_eq_true rfl, Nat.le_of_ble_eq_true rfl⟩) hK hP rfl hl.1 rfl (Nat.le_of_ble_eq_true rfl) dX6_sheet_15 ⟨Nat.zero_le _, Nat.zero_le _⟩) hS hAd (fun r15 S15 H locs hw hP _ hS => ?_)
    obtain ⟨hw, eS15⟩ := hw
    rw [eS15] at hP
    by_cases q15 : wit ln 0 2 = true
    · have hw : r15 = 1 := hw.trans (if_pos q15)
      subst hw
      refine lv_if_eq (tgt := 27) hx hb dX6_sheet_18 (by decide) (fun hc => absurd hc (by decide)) (fun _ => ?_)
      refine lv_iload_n hx hb dX6_sheet_21 rfl (lv_at hl 3 rfl) ?_
      refine lv_bipush (v := 60) hx hb dX6_sheet_22 (by decide +kernel) ?_
      refine lv_icmp_le (tgt := 30) hx hb dX6_sheet_24 (by decide) (fun _ => ?_) (fun hc => absurd (nI_le (b := 60) (by omega) (by decide)) hc)
      refine lv_iload_n hx hb dX6_sheet_30 rfl (lv_at hl 3 rfl) ?_
      refine lv_if_ge (tgt := 40) hx hb dX6_sheet_31 (by decide) (fun _ => ?_) (fun hc => absurd (nI_pos' (by omega)) hc)
      refine lv_aload_n hx hb dX6_sheet_40 rfl (lv_at hl 0 rfl) ?_
      refine x_get (v := .ref (bd 1)) hx hb hts hinX6 hown hK hP 0 (by decide) rfl rfl 2 (by decide) (hts _ (List.mem_of_getElem? (i := 2) rfl)) rfl dX6_sheet_41 ?_
      refine lv_iload_n hx hb dX6_sheet_44 rfl (lv_at hl 1 rfl) ?_
      refine lv_iload_n hx hb dX6_sheet_45 rfl (lv_at hl 2 rfl) ?_
      refine x_iast hx hb hK hI hAd hP hS 1 0 (by decide) (fun _ => rfl) rfl k0 rfl (by omega) (by decide) dX6_sheet_46 (fun H locs hP hS => ?_)
      refine lv_aload_n hx hb dX6_sheet_47 rfl (lv_at hl 0 rfl) ?_
      refine x_get (v := .ref (bd 2)) hx hb hts hinX6 hown hK hP 0 (by decide) rfl rfl 3 (by decide) (hts _ (List.mem_of_getElem? (i := 3) rfl)) rfl dX6_sheet_48 ?_
      refine lv_iload_n hx hb dX6_sheet_51 rfl (lv_at hl 1 rfl) ?_
      refine lv_iload_n hx hb dX6_sheet_52 rfl (lv_at hl 3 rfl) ?_
      refine x_iast hx hb hK hI hAd hP hS 2 0 (by decide) (fun _ => rfl) rfl k0 rfl (by omega) (by decide) dX6_sheet_53 (fun H locs hP hS => ?_)
      refine lv_iconst (v := 0) hx hb dX6_sheet_54 (by decide +kernel) ?_
      refine lv_istore (lv' := [(4, .int 0), (0, .ref (bd 0)), (1, .int (nI k0)), (2, .int ln), (3, .int (nI n0))]) hx hb dX6_sheet_55 hl (by decide) rfl (fun ls hl => ?_)
      have hP : va_P (dC, dI) vwCl (xW (mLy cI cZ bd) 18 bd (sr (su (su (su S 0 0 0) 1 k0 ln) 2 k0 (nI n0)) 3 (fb_put (S 3) (fun _ => 0) (60 * k0) 0))) H := by rw [fb_put_0, sr_same' (show S 3 = (su (su (su S 0 0 0) 1 k0 ln) 2 k0 (nI n0)) 3 from rfl)]; exact hP
      exact L57 60 0 rfl _ _ ls hP hS (lv_sub hl [1, 2, 3, 4, 0] rfl)
    · have hw : r15 = 0 := hw.trans (if_neg q15)
      subst hw
      exact absurd (hln) q15
  · have hw : r6 = 0 := hw.trans (if_neg q6)
    subst hw
    exact absurd (wit3_of hk0) q6

set_option maxHeartbeats 4000000 in
set_option maxRecDepth 100000 in
theorem c6_sheet_f (hI : xI 18 bd) (S : xSt) (kn ln n : Int32) (hno : ¬ wit kn 0 3 = true ∨ ¬ (wit ln 0 2 = true ∧ ¬ 60 < n) ∨ n < 0) : xMi l yX6_sheet wsX6_sheet ({ frames := 2, cells := 0, slots := 0, locals := 42 }) (dC, dI) vwCl (tyl cI cZ cS cG) (mLy cI cZ bd) 18 bd [.ref (bd 0), .int kn, .int ln, .int n] S (fun r S' => r = (if wit kn 0 3 then (if wit ln 0 2 ∧ ¬ 60 < n then -14 else -2) else -1) ∧ S' = (if wit kn 0 3 then (if wit ln 0 2 ∧ ¬ 60 < n then su S 0 0 4 else su S 0 0 0) else su S 0 0 0)) := by
  refine xM_of (cc := cX6_sheet) (nL := 5) (ret := (some .int)) (by decide) rfl (Nat.le_of_ble_eq_true rfl) ?_
  intro p e s m below meth c ls B hl hK hP
  obtain ⟨hx, hb, hml, hown, hts, hr, hlocks⟩ := B
  have hl : lv_has ls 5 [(0, .ref (bd 0)), (1, .int kn), (2, .int ln), (3, .int n)] := hl
  have hS : va_S (xA 18 bd) s.heap s.heap [] := va_S.rf
  have hAd : ∀ k, k < 18 → xA 18 bd (bd k) := xA_in
  have hinX6 : ∀ w ∈ wsX60, w ∈ wsX6_sheet := fun _ h => List.mem_cons_of_mem _ (List.mem_append_right _ h)
  have hF : CallFix p m c cX6_sheet 5 s _ wsX6_sheet RX6 := ⟨hx, hb, hml, hown, hts⟩
  refine lv_aload_n hx hb dX6_sheet_0 rfl (lv_at hl 0 rfl) ?_
  refine lv_iconst (v := 0) hx hb dX6_sheet_1 (by decide +kernel) ?_
  refine x_put hx hb hts hinX6 tyX6 tyX6_ok nmX6 hown hK hI hAd hP hS 0 (by decide) rfl rfl 0 (by decide) (hts _ (List.mem_of_getElem? (i := 1) rfl)) rfl (upd (S 0) 0 0) rfl rfl rfl (Nat.le_of_ble_eq_true rfl) dX6_sheet_2 (fun H locs hP hS => ?_)
  have hP : va_P (dC, dI) vwCl (xW (mLy cI cZ bd) 18 bd (su S 0 0 0)) H := hP
  refine lv_iload_n hx hb dX6_sheet_5 rfl (lv_at hl 1 rfl) ?_
  refine x_calli (x_runS (As := [.int kn]) (rest := []) hF (c6_isSheet hI (su S 0 0 0) kn ) (va_cwS 1 hts gX6_sheet_X6_isSheet rfl rfl rfl (by decide +kernel) ⟨Nat.le_of_ble_eq_true rfl, Nat.le_of_ble_eq_true rfl⟩) hK hP rfl hl.1 rfl (Nat.le_of_ble_eq_true rfl) dX6_sheet_6 ⟨Nat.zero_le _, Nat.zero_le _⟩) hS hAd (fun r6 S6 H locs hw hP _ hS => ?_)
  obtain ⟨hw, eS6⟩ := hw
  rw [eS6] at hP
  by_cases q6 : wit kn 0 3 = true
  · have hw : r6 = 1 := hw.trans (if_pos q6)
    subst hw
    refine lv_if_ne (tgt := 14) hx hb dX6_sheet_9 (by decide) (fun _ => ?_) (fun hc => absurd hc (by decide))
    refine lv_iload_n hx hb dX6_sheet_14 rfl (lv_at hl 2 rfl) ?_
    refine x_calli (x_runS (As := [.int ln]) (rest := []) hF (c6_isSort hI (su S 0 0 0) ln ) (va_cwS 1 hts gX6_sheet_X6_isSort rfl rfl rfl (by decide +kernel) ⟨Nat.le_of_ble_eq_true rfl, Nat.le_of_ble_eq_true rfl⟩) hK hP rfl hl.1 rfl (Nat.le_of_ble_eq_true rfl) dX6_sheet_15 ⟨Nat.zero_le _, Nat.zero_le _⟩) hS hAd (fun r15 S15 H locs hw hP _ hS => ?_)
    obtain ⟨hw, eS15⟩ := hw
    rw [eS15] at hP
    by_cases q15 : wit ln 0 2 = true
    · have hw : r15 = 1 := hw.trans (if_pos q15)
      subst hw
      refine lv_if_eq (tgt := 27) hx hb dX6_sheet_18 (by decide) (fun hc => absurd hc (by decide)) (fun _ => ?_)
      refine lv_iload_n hx hb dX6_sheet_21 rfl (lv_at hl 3 rfl) ?_
      refine lv_bipush (v := 60) hx hb dX6_sheet_22 (by decide +kernel) ?_
      refine lv_icmp_le (tgt := 30) hx hb dX6_sheet_24 (by decide) (fun c24 => ?_) (fun c24 => ?_)
      · have d24 := Int32.not_lt.mpr c24
        refine lv_iload_n hx hb dX6_sheet_30 rfl (lv_at hl 3 rfl) ?_
        refine lv_if_ge (tgt := 40) hx hb dX6_sheet_31 (by decide) (fun c31 => ?_) (fun c31 => ?_)
        · have d31 := Int32.not_lt.mpr c31
          exact absurd hno (by simp [q6, q15, c24, d24, c31, d31])
        · have d31 := Int32.not_le.mp c31
          refine lv_aload_n hx hb dX6_sheet_34 rfl (lv_at hl 0 rfl) ?_
          refine lv_iconst (v := 4) hx hb dX6_sheet_35 (by decide +kernel) ?_
          refine x_calli (x_runV (As := [.int 4]) (rest := []) hF (c6_fails hI (su S 0 0 0) 4 ) (cwV 1 hts gX6_sheet_X6_fails rfl rfl rfl (by decide +kernel) ⟨Nat.le_of_ble_eq_true rfl, Nat.le_of_ble_eq_true rfl⟩) hK hP (by decide) rfl rfl rfl hl.1 rfl (Nat.le_of_ble_eq_true rfl) dX6_sheet_36 ⟨Nat.zero_le _, Nat.zero_le _⟩) hS hAd (fun r36 S36 H locs hw hP _ hS => ?_)
          obtain ⟨er36, eS36⟩ := hw
          rw [eS36] at hP
          refine x_iret hx hb hr hlocks hP hS dX6_sheet_39 ?_
          subst er36
          exact ⟨by first | (simp [su_su, su_at, q6, q15, c24, d24, c31, d31]; done) | ( simp [su_su, su_at, q6, q15, c24, d24, c31, d31]; done) | grind, by first | (simp [su_su, su_at, q6, q15, c24, d24, c31, d31]; done) | ( simp [su_su, su_at, q6, q15, c24, d24, c31, d31]; done) | grind⟩
      · have d24 := Int32.not_le.mp c24
        refine lv_bipush (v := (-2)) hx hb dX6_sheet_27 (by decide +kernel) ?_
        refine x_iret hx hb hr hlocks hP hS dX6_sheet_29 ?_
        skip
        exact ⟨by first | (simp [su_su, su_at, q6, q15, c24, d24]; done) | ( simp [su_su, su_at, q6, q15, c24, d24]; done) | grind, by first | (simp [su_su, su_at, q6, q15, c24, d24]; done) | ( simp [su_su, su_at, q6, q15, c24, d24]; done) | grind⟩
    · have hw : r15 = 0 := hw.trans (if_neg q15)
      subst hw
      refine lv_if_eq (tgt := 27) hx hb dX6_sheet_18 (by decide) (fun _ => ?_) (fun hc => absurd (by decide) hc)
      refine lv_bipush (v := (-2)) hx hb dX6_sheet_27 (by decide +kernel) ?_
      refine x_iret hx hb hr hlocks hP hS dX6_sheet_29 ?_
      skip
      exact ⟨by first | (simp [su_su, su_at, q6, q15]; done) | ( simp [su_su, su_at, q6, q15]; done) | grind, by first | (simp [su_su, su_at, q6, q15]; done) | ( simp [su_su, su_at, q6, q15]; done) | grind⟩
  · have hw : r6 = 0 := hw.trans (if_neg q6)
    subst hw
    refine lv_if_ne (tgt := 14) hx hb dX6_sheet_9 (by decide) (fun hc => absurd (by decide) hc) (fun _ => ?_)
    refine lv_iconst (v := (-1)) hx hb dX6_sheet_12 (by decide +kernel) ?_
    refine x_iret hx hb hr hlocks hP hS dX6_sheet_13 ?_
    skip
    exact ⟨by first | (simp [su_su, su_at, q6]; done) | ( simp [su_su, su_at, q6]; done) | grind, by first | (simp [su_su, su_at, q6]; done) | ( simp [su_su, su_at, q6]; done) | grind⟩

set_option maxHeartbeats 4000000 in
set_option maxRecDepth 100000 in
theorem c6_reading (hI : xI 18 bd) (S : xSt) (R : Nat) (hR : S 0 22 = nI R) (hR8 : R ≤ 8) (cn yn wn : Int32) (hw01 : wn = 0 ∨ wn = 1) : xMi l yX6_reading wsX6_reading ({ frames := 1, cells := 0, slots := 0, locals := 21 }) (dC, dI) vwCl (tyl cI cZ cS cG) (mLy cI cZ bd) 18 bd [.ref (bd 0), .int cn, .int yn, .int wn] S (fun r S' => r = (if inR cn (S 0 5) then (if inR yn (S 0 6) then (if nI R = 8 then -4 else nI R) else -2) else -1) ∧ S' = (if inR cn (S 0 5) ∧ inR yn (S 0 6) ∧ ¬ nI R = 8 then su (su (su (su S 14 R cn) 15 R yn) 16 R wn) 0 22 (nI R + 1) else S)) := by
  refine xM_of (cc := cX6_reading) (nL := 4) (ret := (some .int)) (by decide) rfl (Nat.le_of_ble_eq_true rfl) ?_
  intro p e s m below meth c ls B hl hK hP
  obtain ⟨hx, hb, hml, hown, hts, hr, hlocks⟩ := B
  have hl : lv_has ls 4 [(0, .ref (bd 0)), (1, .int cn), (2, .int yn), (3, .int wn)] := hl
  have hS : va_S (xA 18 bd) s.heap s.heap [] := va_S.rf
  have hAd : ∀ k, k < 18 → xA 18 bd (bd k) := xA_in
  have hinX6 : ∀ w ∈ wsX60, w ∈ wsX6_reading := fun _ h => List.mem_cons_of_mem _ (List.mem_append_right _ h)
  have hF : CallFix p m c cX6_reading 4 s _ wsX6_reading RX6 := ⟨hx, hb, hml, hown, hts⟩
  refine lv_aload_n hx hb dX6_reading_0 rfl (lv_at hl 0 rfl) ?_
  refine lv_iload_n hx hb dX6_reading_1 rfl (lv_at hl 1 rfl) ?_
  refine x_calli (x_runV (As := [.int cn]) (rest := []) hF (c6_isCourt hI S cn ) (cwV 1 hts gX6_reading_X6_isCourt rfl rfl rfl (by decide +kernel) ⟨Nat.le_of_ble_eq_true rfl, Nat.le_of_ble_eq_true rfl⟩) hK hP (by decide) rfl rfl rfl hl.1 rfl (Nat.le_of_ble_eq_true rfl) dX6_reading_2 ⟨Nat.zero_le _, Nat.zero_le _⟩) hS hAd (fun r2 S2 H locs hw hP _ hS => ?_)
  obtain ⟨hw, eS2⟩ := hw
  rw [eS2] at hP
  by_cases q2 : inR cn (S 0 5) = true
  · have hw : r2 = 1 := hw.trans (if_pos q2)
    subst hw
    refine lv_if_ne (tgt := 10) hx hb dX6_reading_5 (by decide) (fun _ => ?_) (fun hc => absurd hc (by decide))
    refine lv_aload_n hx hb dX6_reading_10 rfl (lv_at hl 0 rfl) ?_
    refine lv_iload_n hx hb dX6_reading_11 rfl (lv_at hl 2 rfl) ?_
    refine x_calli (x_runV (As := [.int yn]) (rest := []) hF (c6_isYear hI S yn ) (cwV 1 hts gX6_reading_X6_isYear rfl rfl rfl (by decide +kernel) ⟨Nat.le_of_ble_eq_true rfl, Nat.le_of_ble_eq_true rfl⟩) hK hP (by decide) rfl rfl rfl hl.1 rfl (Nat.le_of_ble_eq_true rfl) dX6_reading_12 ⟨Nat.zero_le _, Nat.zero_le _⟩) hS hAd (fun r12 S12 H locs hw hP _ hS => ?_)
    obtain ⟨hw, eS12⟩ := hw
    rw [eS12] at hP
    by_cases q12 : inR yn (S 0 6) = true
    · have hw : r12 = 1 := hw.trans (if_pos q12)
      subst hw
      refine lv_if_ne (tgt := 21) hx hb dX6_reading_15 (by decide) (fun _ => ?_) (fun hc => absurd hc (by decide))
      refine lv_aload_n hx hb dX6_reading_21 rfl (lv_at hl 0 rfl) ?_
      refine x_get (v := .int (nI R)) hx hb hts hinX6 hown hK hP 0 (by decide) rfl rfl 22 (by decide) (hts _ (List.mem_of_getElem? (i := 1) rfl)) (congrArg (fun z => some (Value.int z)) hR) dX6_reading_22 ?_
      refine lv_bipush (v := 8) hx hb dX6_reading_25 (by decide +kernel) ?_
      refine lv_icmp_ne (tgt := 33) hx hb dX6_reading_27 (by decide) (fun c27 => ?_) (fun c27 => ?_)
      · refine lv_aload_n hx hb dX6_reading_33 rfl (lv_at hl 0 rfl) ?_
        refine x_get (v := .ref (bd 14)) hx hb hts hinX6 hown hK hP 0 (by decide) rfl rfl 23 (by decide) (hts _ (List.mem_of_getElem? (i := 2) rfl)) rfl dX6_reading_34 ?_
        refine lv_aload_n hx hb dX6_reading_37 rfl (lv_at hl 0 rfl) ?_
        refine x_get (v := .int (nI R)) hx hb hts hinX6 hown hK hP 0 (by decide) rfl rfl 22 (by decide) (hts _ (List.mem_of_getElem? (i := 1) rfl)) (congrArg (fun z => some (Value.int z)) hR) dX6_reading_38 ?_
        refine lv_iload_n hx hb dX6_reading_41 rfl (lv_at hl 1 rfl) ?_
        refine x_iast hx hb hK hI hAd hP hS 14 0 (by decide) (fun _ => rfl) rfl R rfl (by rcases Nat.lt_or_ge R 8 with q | q; exact q; exact absurd (show nI R = 8 by rw [show R = 8 by omega]; rfl) c27) (by decide) dX6_reading_42 (fun H locs hP hS => ?_)
        refine lv_aload_n hx hb dX6_reading_43 rfl (lv_at hl 0 rfl) ?_
        refine x_get (v := .ref (bd 15)) hx hb hts hinX6 hown hK hP 0 (by decide) rfl rfl 24 (by decide) (hts _ (List.mem_of_getElem? (i := 3) rfl)) rfl dX6_reading_44 ?_
        refine lv_aload_n hx hb dX6_reading_47 rfl (lv_at hl 0 rfl) ?_
        refine x_get (v := .int (nI R)) hx hb hts hinX6 hown hK hP 0 (by decide) rfl rfl 22 (by decide) (hts _ (List.mem_of_getElem? (i := 1) rfl)) (congrArg (fun z => some (Value.int z)) hR) dX6_reading_48 ?_
        refine lv_iload_n hx hb dX6_reading_51 rfl (lv_at hl 2 rfl) ?_
        refine x_iast hx hb hK hI hAd hP hS 15 0 (by decide) (fun _ => rfl) rfl R rfl (by rcases Nat.lt_or_ge R 8 with q | q; exact q; exact absurd (show nI R = 8 by rw [show R = 8 by omega]; rfl) c27) (by decide) dX6_reading_52 (fun H locs hP hS => ?_)
        refine lv_aload_n hx hb dX6_reading_53 rfl (lv_at hl 0 rfl) ?_
        refine x_get (v := .ref (bd 16)) hx hb hts hinX6 hown hK hP 0 (by decide) rfl rfl 25 (by decide) (hts _ (List.mem_of_getElem? (i := 4) rfl)) rfl dX6_reading_54 ?_
        refine lv_aload_n hx hb dX6_reading_57 rfl (lv_at hl 0 rfl) ?_
        refine x_get (v := .int (nI R)) hx hb hts hinX6 hown hK hP 0 (by decide) rfl rfl 22 (by decide) (hts _ (List.mem_of_getElem? (i := 1) rfl)) (congrArg (fun z => some (Value.int z)) hR) dX6_reading_58 ?_
        refine lv_iload_n hx hb dX6_reading_61 rfl (lv_at hl 3 rfl) ?_
        refine x_zast hx hb hK hI hAd hP hS 16 1 (by decide) (fun _ => rfl) rfl (by rcases hw01 with rfl | rfl <;> decide +kernel) R rfl (by rcases Nat.lt_or_ge R 8 with q | q; exact q; exact absurd (show nI R = 8 by rw [show R = 8 by omega]; rfl) c27) (by decide) dX6_reading_62 (fun H locs hP hS => ?_)
        refine lv_aload_n hx hb dX6_reading_63 rfl (lv_at hl 0 rfl) ?_
        refine lv_dup hx hb dX6_reading_64 rfl ?_
        refine x_get (v := .int (nI R)) hx hb hts hinX6 hown hK hP 0 (by decide) rfl rfl 22 (by decide) (hts _ (List.mem_of_getElem? (i := 1) rfl)) (congrArg (fun z => some (Value.int z)) hR) dX6_reading_65 ?_
        refine lv_iconst (v := 1) hx hb dX6_reading_68 (by decide +kernel) ?_
        refine lv_iadd hx hb dX6_reading_69 ?_
        refine x_put hx hb hts hinX6 tyX6 tyX6_ok nmX6 hown hK hI hAd hP hS 0 (by decide) rfl rfl 22 (by decide) (hts _ (List.mem_of_getElem? (i := 1) rfl)) rfl (upd ((su (su (su S 14 R cn) 15 R yn) 16 R wn) 0) 22 ((nI R) + 1)) rfl rfl rfl (Nat.le_of_ble_eq_true rfl) dX6_reading_70 (fun H locs hP hS => ?_)
        have hP : va_P (dC, dI) vwCl (xW (mLy cI cZ bd) 18 bd (su (su (su (su S 14 R cn) 15 R yn) 16 R wn) 0 22 ((nI R) + 1))) H := hP
        refine lv_aload_n hx hb dX6_reading_73 rfl (lv_at hl 0 rfl) ?_
        refine x_get (v := .int ((nI R) + 1)) hx hb hts hinX6 hown hK hP 0 (by decide) rfl rfl 22 (by decide) (hts _ (List.mem_of_getElem? (i := 1) rfl)) rfl dX6_reading_74 ?_
        refine lv_iconst (v := 1) hx hb dX6_reading_77 (by decide +kernel) ?_
        refine lv_isub hx hb dX6_reading_78 ?_
        refine x_iret hx hb hr hlocks hP hS dX6_reading_79 ?_
        skip
        exact ⟨by rw [show nI R + 1 - 1 = nI R by rw [nI_1, nI_pred]]; simp [q2, q12, c27], by simp [q2, q12, c27]⟩
      · refine lv_bipush (v := (-4)) hx hb dX6_reading_30 (by decide +kernel) ?_
        refine x_iret hx hb hr hlocks hP hS dX6_reading_32 ?_
        skip
        exact ⟨by first | (simp [q2, q12, c27]; done) | grind, by first | (simp [q2, q12, c27]; done) | grind⟩
    · have hw : r12 = 0 := hw.trans (if_neg q12)
      subst hw
      refine lv_if_ne (tgt := 21) hx hb dX6_reading_15 (by decide) (fun hc => absurd (by decide) hc) (fun _ => ?_)
      refine lv_bipush (v := (-2)) hx hb dX6_reading_18 (by decide +kernel) ?_
      refine x_iret hx hb hr hlocks hP hS dX6_reading_20 ?_
      skip
      exact ⟨by first | (simp [q2, q12]; done) | grind, by first | (simp [q2, q12]; done) | grind⟩
  · have hw : r2 = 0 := hw.trans (if_neg q2)
    subst hw
    refine lv_if_ne (tgt := 10) hx hb dX6_reading_5 (by decide) (fun hc => absurd (by decide) hc) (fun _ => ?_)
    refine lv_iconst (v := (-1)) hx hb dX6_reading_8 (by decide +kernel) ?_
    refine x_iret hx hb hr hlocks hP hS dX6_reading_9 ?_
    skip
    exact ⟨by first | (simp [q2]; done) | grind, by first | (simp [q2]; done) | grind⟩

set_option maxHeartbeats 4000000 in
set_option maxRecDepth 100000 in
theorem c6_back (hI : xI 18 bd) (S : xSt) (kn : Int32) : xMi l yX6_back wsX6_back ({ frames := 1, cells := 0, slots := 0, locals := 22 }) (dC, dI) vwCl (tyl cI cZ cS cG) (mLy cI cZ bd) 18 bd [.ref (bd 0), .int kn] S (fun r S' => r = (if wit kn 0 (S 0 22) then S 0 22 - kn else -2) ∧ S' = (if wit kn 0 (S 0 22) then su S 0 22 (S 0 22 - kn) else S)) := by
  refine xM_of (cc := cX6_back) (nL := 2) (ret := (some .int)) (by decide) rfl (Nat.le_of_ble_eq_true rfl) ?_
  intro p e s m below meth c ls B hl hK hP
  obtain ⟨hx, hb, hml, hown, hts, hr, hlocks⟩ := B
  have hl : lv_has ls 2 [(0, .ref (bd 0)), (1, .int kn)] := hl
  have hS : va_S (xA 18 bd) s.heap s.heap [] := va_S.rf
  have hAd : ∀ k, k < 18 → xA 18 bd (bd k) := xA_in
  have hinX6 : ∀ w ∈ wsX60, w ∈ wsX6_back := fun _ h => List.mem_cons_of_mem _ (List.mem_append_right _ h)
  have hF : CallFix p m c cX6_back 2 s _ wsX6_back RX6 := ⟨hx, hb, hml, hown, hts⟩
  refine lv_iload_n hx hb dX6_back_0 rfl (lv_at hl 1 rfl) ?_
  refine lv_iconst (v := 0) hx hb dX6_back_1 (by decide +kernel) ?_
  refine lv_aload_n hx hb dX6_back_2 rfl (lv_at hl 0 rfl) ?_
  refine x_get (v := .int (S 0 22)) hx hb hts hinX6 hown hK hP 0 (by decide) rfl rfl 22 (by decide) (hts _ (List.mem_of_getElem? (i := 1) rfl)) rfl dX6_back_3 ?_
  refine x_calli (x_runS (As := [.int kn, .int 0, .int (S 0 22)]) (rest := []) hF (c6_within hI S kn 0 (S 0 22) ) (va_cwS 3 hts gX6_back_X6_within rfl rfl rfl (by decide +kernel) ⟨Nat.le_of_ble_eq_true rfl, Nat.le_of_ble_eq_true rfl⟩) hK hP rfl hl.1 rfl (Nat.le_of_ble_eq_true rfl) dX6_back_6 ⟨Nat.zero_le _, Nat.zero_le _⟩) hS hAd (fun r6 S6 H locs hw hP _ hS => ?_)
  obtain ⟨hw, eS6⟩ := hw
  rw [eS6] at hP
  by_cases q6 : wit kn 0 (S 0 22) = true
  · have hw : r6 = 1 := hw.trans (if_pos q6)
    subst hw
    refine lv_if_ne (tgt := 15) hx hb dX6_back_9 (by decide) (fun _ => ?_) (fun hc => absurd hc (by decide))
    refine lv_aload_n hx hb dX6_back_15 rfl (lv_at hl 0 rfl) ?_
    refine lv_dup hx hb dX6_back_16 rfl ?_
    refine x_get (v := .int (S 0 22)) hx hb hts hinX6 hown hK hP 0 (by decide) rfl rfl 22 (by decide) (hts _ (List.mem_of_getElem? (i := 1) rfl)) rfl dX6_back_17 ?_
    refine lv_iload_n hx hb dX6_back_20 rfl (lv_at hl 1 rfl) ?_
    refine lv_isub hx hb dX6_back_21 ?_
    refine x_put hx hb hts hinX6 tyX6 tyX6_ok nmX6 hown hK hI hAd hP hS 0 (by decide) rfl rfl 22 (by decide) (hts _ (List.mem_of_getElem? (i := 1) rfl)) rfl (upd (S 0) 22 ((S 0 22) - kn)) rfl rfl rfl (Nat.le_of_ble_eq_true rfl) dX6_back_22 (fun H locs hP hS => ?_)
    have hP : va_P (dC, dI) vwCl (xW (mLy cI cZ bd) 18 bd (su S 0 22 ((S 0 22) - kn))) H := hP
    refine lv_aload_n hx hb dX6_back_25 rfl (lv_at hl 0 rfl) ?_
    refine x_get (v := .int ((S 0 22) - kn)) hx hb hts hinX6 hown hK hP 0 (by decide) rfl rfl 22 (by decide) (hts _ (List.mem_of_getElem? (i := 1) rfl)) rfl dX6_back_26 ?_
    refine x_iret hx hb hr hlocks hP hS dX6_back_29 ?_
    skip
    exact ⟨by first | (simp [su_su, su_at, q6]; done) | ( simp [su_su, su_at, q6]; done) | grind, by first | (simp [su_su, su_at, q6]; done) | ( simp [su_su, su_at, q6]; done) | grind⟩
  · have hw : r6 = 0 := hw.trans (if_neg q6)
    subst hw
    refine lv_if_ne (tgt := 15) hx hb dX6_back_9 (by decide) (fun hc => absurd (by decide) hc) (fun _ => ?_)
    refine lv_bipush (v := (-2)) hx hb dX6_back_12 (by decide +kernel) ?_
    refine x_iret hx hb hr hlocks hP hS dX6_back_14 ?_
    skip
    exact ⟨by first | (simp [su_su, su_at, q6]; done) | ( simp [su_su, su_at, q6]; done) | grind, by first | (simp [su_su, su_at, q6]; done) | ( simp [su_su, su_at, q6]; done) | grind⟩

end M4
