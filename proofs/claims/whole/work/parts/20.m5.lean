section M5
variable {l : Launch} {dC : Nat → ClassId} {dI : Nat → Nat → Nat} {cI cZ cS cG : ClassId} {ad bd : Nat → Nat}
set_option maxHeartbeats 4000000 in
set_option maxRecDepth 100000 in
theorem c6_worths_t (hI : xI 18 bd) (S : xSt) (N : Nat) (hN : S 0 7 = nI N) (hN5 : N ≤ 5) (R : Nat) (hR : S 0 22 = nI R) (hR8 : R ≤ 8) (hrd : ∀ q, q < R → okN (S 14 q) 4 ∧ okN (S 15 q) 6) (j : Nat) (hj : j < N) : xMi l yX6_worths wsX6_worths ({ frames := 4, cells := 0, slots := 0, locals := 91 }) (dC, dI) vwCl (tyl cI cZ cS cG) (mLy cI cZ bd) 18 bd [.ref (bd 0), .int (nI j)] S (fun r S' => r = orL (fun v => if mSo (su (sr S 13 (askF S N)) 7 j (nI v)) N R = true then (1 : Int32) <<< (nI v &&& 31) else 0) 10 0 0 ∧ ∃ g, S' = sr S 13 g) := by
  refine xM_of (cc := cX6_worths) (nL := 5) (ret := (some .int)) (by decide) rfl (Nat.le_of_ble_eq_true rfl) ?_
  intro p e s m below meth c ls B hl hK hP
  obtain ⟨hx, hb, hml, hown, hts, hr, hlocks⟩ := B
  have hl : lv_has ls 5 [(0, .ref (bd 0)), (1, .int (nI j))] := hl
  have hS : va_S (xA 18 bd) s.heap s.heap [] := va_S.rf
  have hAd : ∀ k, k < 18 → xA 18 bd (bd k) := xA_in
  have hinX6 : ∀ w ∈ wsX60, w ∈ wsX6_worths := fun _ h => List.mem_cons_of_mem _ (List.mem_append_right _ h)
  have hF : CallFix p m c cX6_worths 5 s _ wsX6_worths RX6 := ⟨hx, hb, hml, hown, hts⟩
  have L22 : ∀ (n : Nat) (i : Nat) (a : Int32) (x : Int32) (g : Nat → Int32) (hi : i + n = 10) (hg : ∀ s, N ≤ s → g s = S 13 s) (hv : orL (fun v => if mSo (su (sr S 13 (askF S N)) 7 j (nI v)) N R = true then (1 : Int32) <<< (nI v &&& 31) else 0) 10 0 0 = orL (fun v => if mSo (su (sr S 13 (askF S N)) 7 j (nI v)) N R = true then (1 : Int32) <<< (nI v &&& 31) else 0) n i a) (H : Heap) (locs : List Loc) (ls : Array Slot), va_P (dC, dI) vwCl (xW (mLy cI cZ bd) 18 bd (su (sr S 13 g) 7 j x)) H → va_S (xA 18 bd) s.heap H locs → lv_has ls 5 [(0, .ref (bd 0)), (1, .int (nI j)), (2, .int (S 7 j)), (3, .int a), (4, .int (nI i))] → W p l e ({ frames := 4, cells := 0, slots := 0, locals := 91 }) s m ([.ref (bd 0), .int (nI j)] : List Value).toArray below meth c H locs 0 0 (MQ below (xQi (dC, dI) vwCl (mLy cI cZ bd) 18 bd (fun r S' => r = orL (fun v => if mSo (su (sr S 13 (askF S N)) 7 j (nI v)) N R = true then (1 : Int32) <<< (nI v &&& 31) else 0) 10 0 0 ∧ ∃ g, S' = sr S 13 g)) ([.ref (bd 0), .int (nI j)] : List Value).toArray s 0 0 (xA 18 bd)) (F0 m 22 ls []) := by
    intro n
    induction n with
    | zero =>
      intro i a x g hi hg hv H locs ls hP hS hl
      refine lv_iload hx hb dX6_worths_22 (lv_at hl 4 rfl) ?_
      refine lv_bipush (v := 9) hx hb dX6_worths_24 (by decide +kernel) ?_
      refine lv_icmp_gt (tgt := 61) hx hb dX6_worths_26 (by decide) (fun _ => ?_) (fun hc => absurd (nI_lt (a := 9) (by omega) (by omega)) hc)
      refine lv_aload_n hx hb dX6_worths_61 rfl (lv_at hl 0 rfl) ?_
      refine x_get (v := .ref (bd 7)) hx hb hts hinX6 hown hK hP 0 (by decide) rfl rfl 11 (by decide) (hts _ (List.mem_of_getElem? (i := 1) rfl)) rfl dX6_worths_62 ?_
      refine lv_iload_n hx hb dX6_worths_65 rfl (lv_at hl 1 rfl) ?_
      refine lv_iload_n hx hb dX6_worths_66 rfl (lv_at hl 2 rfl) ?_
      refine x_iast hx hb hK hI hAd hP hS 7 0 (by decide) (fun _ => rfl) rfl j rfl (by omega) (by decide) dX6_worths_67 (fun H locs hP hS => ?_)
      rw [su_su, show su (sr S 13 g) 7 j (S 7 j) = sr S 13 g from su_same (sr S 13 g) 7 j] at hP
      refine lv_iload_n hx hb dX6_worths_68 rfl (lv_at hl 3 rfl) ?_
      refine x_iret hx hb hr hlocks hP hS dX6_worths_69 ?_
      exact ⟨hv.symm, _, rfl⟩
    | succ n ih =>
      intro i a x g hi hg hv H locs ls hP hS hl
      refine lv_iload hx hb dX6_worths_22 (lv_at hl 4 rfl) ?_
      refine lv_bipush (v := 9) hx hb dX6_worths_24 (by decide +kernel) ?_
      refine lv_icmp_gt (tgt := 61) hx hb dX6_worths_26 (by decide) (fun hc => absurd hc (nI_nlt (a := 9) (by omega) (by omega))) (fun _ => ?_)
      refine lv_aload_n hx hb dX6_worths_29 rfl (lv_at hl 0 rfl) ?_
      refine x_get (v := .ref (bd 7)) hx hb hts hinX6 hown hK hP 0 (by decide) rfl rfl 11 (by decide) (hts _ (List.mem_of_getElem? (i := 1) rfl)) rfl dX6_worths_30 ?_
      refine lv_iload_n hx hb dX6_worths_33 rfl (lv_at hl 1 rfl) ?_
      refine lv_iload hx hb dX6_worths_34 (lv_at hl 4 rfl) ?_
      refine x_iast hx hb hK hI hAd hP hS 7 0 (by decide) (fun _ => rfl) rfl j rfl (by omega) (by decide) dX6_worths_36 (fun H locs hP hS => ?_)
      rw [su_su] at hP
      refine lv_iload_n hx hb dX6_worths_37 rfl (lv_at hl 3 rfl) ?_
      refine lv_aload_n hx hb dX6_worths_38 rfl (lv_at hl 0 rfl) ?_
      refine x_calli (x_runV (As := []) (rest := [.int a]) hF (c6_areSo hI (su (sr S 13 g) 7 j (nI i)) N hN hN5 R hR hR8 hrd) (cwV 0 hts gX6_worths_X6_areSo rfl rfl rfl (by decide +kernel) ⟨Nat.le_of_ble_eq_true rfl, Nat.le_of_ble_eq_true rfl⟩) hK hP (by decide) rfl rfl rfl hl.1 rfl (Nat.le_of_ble_eq_true rfl) dX6_worths_39 ⟨Nat.zero_le _, Nat.zero_le _⟩) hS hAd (fun r39 S39 H locs hw hP _ hS => ?_)
      obtain ⟨hw, eS39⟩ := hw
      have eA : askF (su (sr S 13 g) 7 j (nI i)) N = askF S N := askF_eq rfl rfl hg
      have eB : sr (su (sr S 13 g) 7 j (nI i)) 13 (askF S N) = su (sr S 13 (askF S N)) 7 j (nI i) := by rw [sr_su (by decide), sr_sr]
      rw [eA, eB] at eS39 hw
      rw [eS39] at hP
      by_cases q39 : mSo (su (sr S 13 (askF S N)) 7 j (nI i)) N R = true
      · have hw : r39 = 1 := hw.trans (if_pos q39)
        subst hw
        refine lv_if_eq (tgt := 52) hx hb dX6_worths_42 (by decide) (fun hc => absurd hc (by decide)) (fun _ => ?_)
        refine lv_iconst (v := 1) hx hb dX6_worths_45 (by decide +kernel) ?_
        refine lv_iload hx hb dX6_worths_46 (lv_at hl 4 rfl) ?_
        refine lv_ishl hx hb dX6_worths_48 ?_
        refine lv_goto (tgt := 53) hx hb dX6_worths_49 (by decide) ?_
        refine lv_ior hx hb dX6_worths_53 ?_
        refine lv_topi (fun x54 ex54 => ?_)
        refine lv_istore_n (lv' := [(3, .int x54), (0, .ref (bd 0)), (1, .int (nI j)), (2, .int (S 7 j)), (4, .int (nI i))]) hx hb dX6_worths_54 rfl hl (by decide) rfl (fun ls hl => ?_)
        refine lv_iinc (v := nI (i + 1)) (lv' := [(4, .int (nI (i + 1))), (3, .int x54), (0, .ref (bd 0)), (1, .int (nI j)), (2, .int (S 7 j))]) hx hb dX6_worths_55 hl (k := 4) rfl (nI_1 _) (by decide) rfl (fun ls hl => ?_)
        refine lv_goto (tgt := 22) hx hb dX6_worths_58 (by decide) ?_
        exact ih (i + 1) x54 (nI i) (askF S N) (by omega) (fun s hs => askF_out hs) (hv.trans (congrArg (orL (fun v => if mSo (su (sr S 13 (askF S N)) 7 j (nI v)) N R = true then (1 : Int32) <<< (nI v &&& 31) else 0) n (i + 1)) (show a ||| (fun v => if mSo (su (sr S 13 (askF S N)) 7 j (nI v)) N R = true then (1 : Int32) <<< (nI v &&& 31) else 0) i = x54 from by subst ex54; simp [q39]))) H locs ls hP hS (lv_sub hl [2, 3, 4, 1, 0] rfl)
      · have hw : r39 = 0 := hw.trans (if_neg q39)
        subst hw
        refine lv_if_eq (tgt := 52) hx hb dX6_worths_42 (by decide) (fun _ => ?_) (fun hc => absurd (by decide) hc)
        refine lv_iconst (v := 0) hx hb dX6_worths_52 (by decide +kernel) ?_
        refine lv_ior hx hb dX6_worths_53 ?_
        refine lv_topi (fun x54 ex54 => ?_)
        refine lv_istore_n (lv' := [(3, .int x54), (0, .ref (bd 0)), (1, .int (nI j)), (2, .int (S 7 j)), (4, .int (nI i))]) hx hb dX6_worths_54 rfl hl (by decide) rfl (fun ls hl => ?_)
        refine lv_iinc (v := nI (i + 1)) (lv' := [(4, .int (nI (i + 1))), (3, .int x54), (0, .ref (bd 0)), (1, .int (nI j)), (2, .int (S 7 j))]) hx hb dX6_worths_55 hl (k := 4) rfl (nI_1 _) (by decide) rfl (fun ls hl => ?_)
        refine lv_goto (tgt := 22) hx hb dX6_worths_58 (by decide) ?_
        exact ih (i + 1) x54 (nI i) (askF S N) (by omega) (fun s hs => askF_out hs) (hv.trans (congrArg (orL (fun v => if mSo (su (sr S 13 (askF S N)) 7 j (nI v)) N R = true then (1 : Int32) <<< (nI v &&& 31) else 0) n (i + 1)) (show a ||| (fun v => if mSo (su (sr S 13 (askF S N)) 7 j (nI v)) N R = true then (1 : Int32) <<< (nI v &&& 31) else 0) i = x54 from by subst ex54; simp [q39]))) H locs ls hP hS (lv_sub hl [2, 3, 4, 1, 0] rfl)
  refine lv_aload_n hx hb dX6_worths_0 rfl (lv_at hl 0 rfl) ?_
  refine lv_iload_n hx hb dX6_worths_1 rfl (lv_at hl 1 rfl) ?_
  refine x_calli (x_runV (As := [.int (nI j)]) (rest := []) hF (c6_isSon hI S (nI j) ) (cwV 1 hts gX6_worths_X6_isSon rfl rfl rfl (by decide +kernel) ⟨Nat.le_of_ble_eq_true rfl, Nat.le_of_ble_eq_true rfl⟩) hK hP (by decide) rfl rfl rfl hl.1 rfl (Nat.le_of_ble_eq_true rfl) dX6_worths_2 ⟨Nat.zero_le _, Nat.zero_le _⟩) hS hAd (fun r2 S2 H locs hw hP _ hS => ?_)
  obtain ⟨hw, eS2⟩ := hw
  rw [eS2] at hP
  by_cases q2 : inR (nI j) (S 0 7) = true
  · have hw : r2 = 1 := hw.trans (if_pos q2)
    subst hw
    refine lv_if_ne (tgt := 10) hx hb dX6_worths_5 (by decide) (fun _ => ?_) (fun hc => absurd hc (by decide))
    refine lv_aload_n hx hb dX6_worths_10 rfl (lv_at hl 0 rfl) ?_
    refine x_get (v := .ref (bd 7)) hx hb hts hinX6 hown hK hP 0 (by decide) rfl rfl 11 (by decide) (hts _ (List.mem_of_getElem? (i := 1) rfl)) rfl dX6_worths_11 ?_
    refine lv_iload_n hx hb dX6_worths_14 rfl (lv_at hl 1 rfl) ?_
    refine x_iald (v := S 7 j) hx hb hK hP 7 0 (by decide) rfl rfl j rfl (by omega) (by decide) rfl dX6_worths_15 ?_
    refine lv_topi (fun x16 ex16 => ?_)
    subst ex16
    refine lv_istore_n (lv' := [(2, .int (S 7 j)), (0, .ref (bd 0)), (1, .int (nI j))]) hx hb dX6_worths_16 rfl hl (by decide) rfl (fun ls hl => ?_)
    refine lv_iconst (v := 0) hx hb dX6_worths_17 (by decide +kernel) ?_
    refine lv_istore_n (lv' := [(3, .int 0), (2, .int (S 7 j)), (0, .ref (bd 0)), (1, .int (nI j))]) hx hb dX6_worths_18 rfl hl (by decide) rfl (fun ls hl => ?_)
    refine lv_iconst (v := 0) hx hb dX6_worths_19 (by decide +kernel) ?_
    refine lv_istore (lv' := [(4, .int 0), (3, .int 0), (2, .int (S 7 j)), (0, .ref (bd 0)), (1, .int (nI j))]) hx hb dX6_worths_20 hl (by decide) rfl (fun ls hl => ?_)
    have hP : va_P (dC, dI) vwCl (xW (mLy cI cZ bd) 18 bd (su (sr S 13 (S 13)) 7 j (S 7 j))) H := by rw [sr_same, su_same]; exact hP
    exact L22 10 0 0 (S 7 j) (S 13) (Nat.zero_add _) (fun _ _ => rfl) rfl _ _ ls hP hS (lv_sub hl [3, 4, 2, 1, 0] rfl)
  · have hw : r2 = 0 := hw.trans (if_neg q2)
    subst hw
    exact absurd (by rw [hN]; exact inR_nI hj (by omega)) q2

set_option maxHeartbeats 4000000 in
set_option maxRecDepth 100000 in
theorem c6_worths_f (hI : xI 18 bd) (S : xSt) (sn : Int32) (hno : ¬ inR sn (S 0 7) = true) : xMi l yX6_worths wsX6_worths ({ frames := 4, cells := 0, slots := 0, locals := 91 }) (dC, dI) vwCl (tyl cI cZ cS cG) (mLy cI cZ bd) 18 bd [.ref (bd 0), .int sn] S (fun r S' => r = -1 ∧ S' = S) := by
  refine xM_of (cc := cX6_worths) (nL := 5) (ret := (some .int)) (by decide) rfl (Nat.le_of_ble_eq_true rfl) ?_
  intro p e s m below meth c ls B hl hK hP
  obtain ⟨hx, hb, hml, hown, hts, hr, hlocks⟩ := B
  have hl : lv_has ls 5 [(0, .ref (bd 0)), (1, .int sn)] := hl
  have hS : va_S (xA 18 bd) s.heap s.heap [] := va_S.rf
  have hAd : ∀ k, k < 18 → xA 18 bd (bd k) := xA_in
  have hF : CallFix p m c cX6_worths 5 s _ wsX6_worths RX6 := ⟨hx, hb, hml, hown, hts⟩
  refine lv_aload_n hx hb dX6_worths_0 rfl (lv_at hl 0 rfl) ?_
  refine lv_iload_n hx hb dX6_worths_1 rfl (lv_at hl 1 rfl) ?_
  refine x_calli (x_runV (As := [.int sn]) (rest := []) hF (c6_isSon hI S sn ) (cwV 1 hts gX6_worths_X6_isSon rfl rfl rfl (by decide +kernel) ⟨Nat.le_of_ble_eq_true rfl, Nat.le_of_ble_eq_true rfl⟩) hK hP (by decide) rfl rfl rfl hl.1 rfl (Nat.le_of_ble_eq_true rfl) dX6_worths_2 ⟨Nat.zero_le _, Nat.zero_le _⟩) hS hAd (fun r2 S2 H locs hw hP _ hS => ?_)
  obtain ⟨hw, eS2⟩ := hw
  rw [eS2] at hP
  by_cases q2 : inR sn (S 0 7) = true
  · have hw : r2 = 1 := hw.trans (if_pos q2)
    subst hw
    exact absurd q2 hno
  · have hw : r2 = 0 := hw.trans (if_neg q2)
    subst hw
    refine lv_if_ne (tgt := 10) hx hb dX6_worths_5 (by decide) (fun hc => absurd (by decide) hc) (fun _ => ?_)
    refine lv_iconst (v := (-1)) hx hb dX6_worths_8 (by decide +kernel) ?_
    refine x_iret hx hb hr hlocks hP hS dX6_worths_9 ?_
    exact ⟨rfl, rfl⟩

set_option maxHeartbeats 4000000 in
set_option maxRecDepth 100000 in
theorem c6_kinds_t (hI : xI 18 bd) (S : xSt) (N : Nat) (hN : S 0 7 = nI N) (hN5 : N ≤ 5) (R : Nat) (hR : S 0 22 = nI R) (hR8 : R ≤ 8) (hrd : ∀ q, q < R → okN (S 14 q) 4 ∧ okN (S 15 q) 6) (j : Nat) (hj : j < N) : xMi l yX6_kinds wsX6_kinds ({ frames := 4, cells := 0, slots := 0, locals := 91 }) (dC, dI) vwCl (tyl cI cZ cS cG) (mLy cI cZ bd) 18 bd [.ref (bd 0), .int (nI j)] S (fun r S' => r = orL (fun v => if mSo (su (sr S 13 (askF S N)) 5 j (nI v)) N R = true then (1 : Int32) <<< (nI v &&& 31) else 0) 3 0 0 ∧ ∃ g, S' = sr S 13 g) := by
  refine xM_of (cc := cX6_kinds) (nL := 5) (ret := (some .int)) (by decide) rfl (Nat.le_of_ble_eq_true rfl) ?_
  intro p e s m below meth c ls B hl hK hP
  obtain ⟨hx, hb, hml, hown, hts, hr, hlocks⟩ := B
  have hl : lv_has ls 5 [(0, .ref (bd 0)), (1, .int (nI j))] := hl
  have hS : va_S (xA 18 bd) s.heap s.heap [] := va_S.rf
  have hAd : ∀ k, k < 18 → xA 18 bd (bd k) := xA_in
  have hinX6 : ∀ w ∈ wsX60, w ∈ wsX6_kinds := fun _ h => List.mem_cons_of_mem _ (List.mem_append_right _ h)
  have hF : CallFix p m c cX6_kinds 5 s _ wsX6_kinds RX6 := ⟨hx, hb, hml, hown, hts⟩
  have L22 : ∀ (n : Nat) (i : Nat) (a : Int32) (x : Int32) (g : Nat → Int32) (hi : i + n = 3) (hg : ∀ s, N ≤ s → g s = S 13 s) (hv : orL (fun v => if mSo (su (sr S 13 (askF S N)) 5 j (nI v)) N R = true then (1 : Int32) <<< (nI v &&& 31) else 0) 3 0 0 = orL (fun v => if mSo (su (sr S 13 (askF S N)) 5 j (nI v)) N R = true then (1 : Int32) <<< (nI v &&& 31) else 0) n i a) (H : Heap) (locs : List Loc) (ls : Array Slot), va_P (dC, dI) vwCl (xW (mLy cI cZ bd) 18 bd (su (sr S 13 g) 5 j x)) H → va_S (xA 18 bd) s.heap H locs → lv_has ls 5 [(0, .ref (bd 0)), (1, .int (nI j)), (2, .int (S 5 j)), (3, .int a), (4, .int (nI i))] → W p l e ({ frames := 4, cells := 0, slots := 0, locals := 91 }) s m ([.ref (bd 0), .int (nI j)] : List Value).toArray below meth c H locs 0 0 (MQ below (xQi (dC, dI) vwCl (mLy cI cZ bd) 18 bd (fun r S' => r = orL (fun v => if mSo (su (sr S 13 (askF S N)) 5 j (nI v)) N R = true then (1 : Int32) <<< (nI v &&& 31) else 0) 3 0 0 ∧ ∃ g, S' = sr S 13 g)) ([.ref (bd 0), .int (nI j)] : List Value).toArray s 0 0 (xA 18 bd)) (F0 m 22 ls []) := by
    intro n
    induction n with
    | zero =>
      intro i a x g hi hg hv H locs ls hP hS hl
      refine lv_iload hx hb dX6_kinds_22 (lv_at hl 4 rfl) ?_
      refine lv_iconst (v := 3) hx hb dX6_kinds_24 (by decide +kernel) ?_
      refine lv_icmp_ge (tgt := 60) hx hb dX6_kinds_25 (by decide) (fun _ => ?_) (fun hc => absurd (nI_le (a := 3) (by omega) (by omega)) hc)
      refine lv_aload_n hx hb dX6_kinds_60 rfl (lv_at hl 0 rfl) ?_
      refine x_get (v := .ref (bd 5)) hx hb hts hinX6 hown hK hP 0 (by decide) rfl rfl 9 (by decide) (hts _ (List.mem_of_getElem? (i := 1) rfl)) rfl dX6_kinds_61 ?_
      refine lv_iload_n hx hb dX6_kinds_64 rfl (lv_at hl 1 rfl) ?_
      refine lv_iload_n hx hb dX6_kinds_65 rfl (lv_at hl 2 rfl) ?_
      refine x_iast hx hb hK hI hAd hP hS 5 0 (by decide) (fun _ => rfl) rfl j rfl (by omega) (by decide) dX6_kinds_66 (fun H locs hP hS => ?_)
      rw [su_su, show su (sr S 13 g) 5 j (S 5 j) = sr S 13 g from su_same (sr S 13 g) 5 j] at hP
      refine lv_iload_n hx hb dX6_kinds_67 rfl (lv_at hl 3 rfl) ?_
      refine x_iret hx hb hr hlocks hP hS dX6_kinds_68 ?_
      exact ⟨hv.symm, _, rfl⟩
    | succ n ih =>
      intro i a x g hi hg hv H locs ls hP hS hl
      refine lv_iload hx hb dX6_kinds_22 (lv_at hl 4 rfl) ?_
      refine lv_iconst (v := 3) hx hb dX6_kinds_24 (by decide +kernel) ?_
      refine lv_icmp_ge (tgt := 60) hx hb dX6_kinds_25 (by decide) (fun hc => absurd hc (nI_ge (b := 3) (by omega) (by omega))) (fun _ => ?_)
      refine lv_aload_n hx hb dX6_kinds_28 rfl (lv_at hl 0 rfl) ?_
      refine x_get (v := .ref (bd 5)) hx hb hts hinX6 hown hK hP 0 (by decide) rfl rfl 9 (by decide) (hts _ (List.mem_of_getElem? (i := 1) rfl)) rfl dX6_kinds_29 ?_
      refine lv_iload_n hx hb dX6_kinds_32 rfl (lv_at hl 1 rfl) ?_
      refine lv_iload hx hb dX6_kinds_33 (lv_at hl 4 rfl) ?_
      refine x_iast hx hb hK hI hAd hP hS 5 0 (by decide) (fun _ => rfl) rfl j rfl (by omega) (by decide) dX6_kinds_35 (fun H locs hP hS => ?_)
      rw [su_su] at hP
      refine lv_iload_n hx hb dX6_kinds_36 rfl (lv_at hl 3 rfl) ?_
      refine lv_aload_n hx hb dX6_kinds_37 rfl (lv_at hl 0 rfl) ?_
      refine x_calli (x_runV (As := []) (rest := [.int a]) hF (c6_areSo hI (su (sr S 13 g) 5 j (nI i)) N hN hN5 R hR hR8 hrd) (cwV 0 hts gX6_kinds_X6_areSo rfl rfl rfl (by decide +kernel) ⟨Nat.le_of_ble_eq_true rfl, Nat.le_of_ble_eq_true rfl⟩) hK hP (by decide) rfl rfl rfl hl.1 rfl (Nat.le_of_ble_eq_true rfl) dX6_kinds_38 ⟨Nat.zero_le _, Nat.zero_le _⟩) hS hAd (fun r38 S38 H locs hw hP _ hS => ?_)
      obtain ⟨hw, eS38⟩ := hw
      have eA : askF (su (sr S 13 g) 5 j (nI i)) N = askF S N := askF_eq rfl rfl hg
      have eB : sr (su (sr S 13 g) 5 j (nI i)) 13 (askF S N) = su (sr S 13 (askF S N)) 5 j (nI i) := by rw [sr_su (by decide), sr_sr]
      rw [eA, eB] at eS38 hw
      rw [eS38] at hP
      by_cases q38 : mSo (su (sr S 13 (askF S N)) 5 j (nI i)) N R = true
      · have hw : r38 = 1 := hw.trans (if_pos q38)
        subst hw
        refine lv_if_eq (tgt := 51) hx hb dX6_kinds_41 (by decide) (fun hc => absurd hc (by decide)) (fun _ => ?_)
        refine lv_iconst (v := 1) hx hb dX6_kinds_44 (by decide +kernel) ?_
        refine lv_iload hx hb dX6_kinds_45 (lv_at hl 4 rfl) ?_
        refine lv_ishl hx hb dX6_kinds_47 ?_
        refine lv_goto (tgt := 52) hx hb dX6_kinds_48 (by decide) ?_
        refine lv_ior hx hb dX6_kinds_52 ?_
        refine lv_topi (fun x53 ex53 => ?_)
        refine lv_istore_n (lv' := [(3, .int x53), (0, .ref (bd 0)), (1, .int (nI j)), (2, .int (S 5 j)), (4, .int (nI i))]) hx hb dX6_kinds_53 rfl hl (by decide) rfl (fun ls hl => ?_)
        refine lv_iinc (v := nI (i + 1)) (lv' := [(4, .int (nI (i + 1))), (3, .int x53), (0, .ref (bd 0)), (1, .int (nI j)), (2, .int (S 5 j))]) hx hb dX6_kinds_54 hl (k := 4) rfl (nI_1 _) (by decide) rfl (fun ls hl => ?_)
        refine lv_goto (tgt := 22) hx hb dX6_kinds_57 (by decide) ?_
        exact ih (i + 1) x53 (nI i) (askF S N) (by omega) (fun s hs => askF_out hs) (hv.trans (congrArg (orL (fun v => if mSo (su (sr S 13 (askF S N)) 5 j (nI v)) N R = true then (1 : Int32) <<< (nI v &&& 31) else 0) n (i + 1)) (show a ||| (fun v => if mSo (su (sr S 13 (askF S N)) 5 j (nI v)) N R = true then (1 : Int32) <<< (nI v &&& 31) else 0) i = x53 from by subst ex53; simp [q38]))) H locs ls hP hS (lv_sub hl [2, 3, 4, 1, 0] rfl)
      · have hw : r38 = 0 := hw.trans (if_neg q38)
        subst hw
        refine lv_if_eq (tgt := 51) hx hb dX6_kinds_41 (by decide) (fun _ => ?_) (fun hc => absurd (by decide) hc)
        refine lv_iconst (v := 0) hx hb dX6_kinds_51 (by decide +kernel) ?_
        refine lv_ior hx hb dX6_kinds_52 ?_
        refine lv_topi (fun x53 ex53 => ?_)
        refine lv_istore_n (lv' := [(3, .int x53), (0, .ref (bd 0)), (1, .int (nI j)), (2, .int (S 5 j)), (4, .int (nI i))]) hx hb dX6_kinds_53 rfl hl (by decide) rfl (fun ls hl => ?_)
        refine lv_iinc (v := nI (i + 1)) (lv' := [(4, .int (nI (i + 1))), (3, .int x53), (0, .ref (bd 0)), (1, .int (nI j)), (2, .int (S 5 j))]) hx hb dX6_kinds_54 hl (k := 4) rfl (nI_1 _) (by decide) rfl (fun ls hl => ?_)
        refine lv_goto (tgt := 22) hx hb dX6_kinds_57 (by decide) ?_
        exact ih (i + 1) x53 (nI i) (askF S N) (by omega) (fun s hs => askF_out hs) (hv.trans (congrArg (orL (fun v => if mSo (su (sr S 13 (askF S N)) 5 j (nI v)) N R = true then (1 : Int32) <<< (nI v &&& 31) else 0) n (i + 1)) (show a ||| (fun v => if mSo (su (sr S 13 (askF S N)) 5 j (nI v)) N R = true then (1 : Int32) <<< (nI v &&& 31) else 0) i = x53 from by subst ex53; simp [q38]))) H locs ls hP hS (lv_sub hl [2, 3, 4, 1, 0] rfl)
  refine lv_aload_n hx hb dX6_kinds_0 rfl (lv_at hl 0 rfl) ?_
  refine lv_iload_n hx hb dX6_kinds_1 rfl (lv_at hl 1 rfl) ?_
  refine x_calli (x_runV (As := [.int (nI j)]) (rest := []) hF (c6_isSon hI S (nI j) ) (cwV 1 hts gX6_kinds_X6_isSon rfl rfl rfl (by decide +kernel) ⟨Nat.le_of_ble_eq_true rfl, Nat.le_of_ble_eq_true rfl⟩) hK hP (by decide) rfl rfl rfl hl.1 rfl (Nat.le_of_ble_eq_true rfl) dX6_kinds_2 ⟨Nat.zero_le _, Nat.zero_le _⟩) hS hAd (fun r2 S2 H locs hw hP _ hS => ?_)
  obtain ⟨hw, eS2⟩ := hw
  rw [eS2] at hP
  by_cases q2 : inR (nI j) (S 0 7) = true
  · have hw : r2 = 1 := hw.trans (if_pos q2)
    subst hw
    refine lv_if_ne (tgt := 10) hx hb dX6_kinds_5 (by decide) (fun _ => ?_) (fun hc => absurd hc (by decide))
    refine lv_aload_n hx hb dX6_kinds_10 rfl (lv_at hl 0 rfl) ?_
    refine x_get (v := .ref (bd 5)) hx hb hts hinX6 hown hK hP 0 (by decide) rfl rfl 9 (by decide) (hts _ (List.mem_of_getElem? (i := 1) rfl)) rfl dX6_kinds_11 ?_
    refine lv_iload_n hx hb dX6_kinds_14 rfl (lv_at hl 1 rfl) ?_
    refine x_iald (v := S 5 j) hx hb hK hP 5 0 (by decide) rfl rfl j rfl (by omega) (by decide) rfl dX6_kinds_15 ?_
    refine lv_topi (fun x16 ex16 => ?_)
    subst ex16
    refine lv_istore_n (lv' := [(2, .int (S 5 j)), (0, .ref (bd 0)), (1, .int (nI j))]) hx hb dX6_kinds_16 rfl hl (by decide) rfl (fun ls hl => ?_)
    refine lv_iconst (v := 0) hx hb dX6_kinds_17 (by decide +kernel) ?_
    refine lv_istore_n (lv' := [(3, .int 0), (2, .int (S 5 j)), (0, .ref (bd 0)), (1, .int (nI j))]) hx hb dX6_kinds_18 rfl hl (by decide) rfl (fun ls hl => ?_)
    refine lv_iconst (v := 0) hx hb dX6_kinds_19 (by decide +kernel) ?_
    refine lv_istore (lv' := [(4, .int 0), (3, .int 0), (2, .int (S 5 j)), (0, .ref (bd 0)), (1, .int (nI j))]) hx hb dX6_kinds_20 hl (by decide) rfl (fun ls hl => ?_)
    have hP : va_P (dC, dI) vwCl (xW (mLy cI cZ bd) 18 bd (su (sr S 13 (S 13)) 5 j (S 5 j))) H := by rw [sr_same, su_same]; exact hP
    exact L22 3 0 0 (S 5 j) (S 13) (Nat.zero_add _) (fun _ _ => rfl) rfl _ _ ls hP hS (lv_sub hl [3, 4, 2, 1, 0] rfl)
  · have hw : r2 = 0 := hw.trans (if_neg q2)
    subst hw
    exact absurd (by rw [hN]; exact inR_nI hj (by omega)) q2

set_option maxHeartbeats 4000000 in
set_option maxRecDepth 100000 in
theorem c6_kinds_f (hI : xI 18 bd) (S : xSt) (sn : Int32) (hno : ¬ inR sn (S 0 7) = true) : xMi l yX6_kinds wsX6_kinds ({ frames := 4, cells := 0, slots := 0, locals := 91 }) (dC, dI) vwCl (tyl cI cZ cS cG) (mLy cI cZ bd) 18 bd [.ref (bd 0), .int sn] S (fun r S' => r = -1 ∧ S' = S) := by
  refine xM_of (cc := cX6_kinds) (nL := 5) (ret := (some .int)) (by decide) rfl (Nat.le_of_ble_eq_true rfl) ?_
  intro p e s m below meth c ls B hl hK hP
  obtain ⟨hx, hb, hml, hown, hts, hr, hlocks⟩ := B
  have hl : lv_has ls 5 [(0, .ref (bd 0)), (1, .int sn)] := hl
  have hS : va_S (xA 18 bd) s.heap s.heap [] := va_S.rf
  have hAd : ∀ k, k < 18 → xA 18 bd (bd k) := xA_in
  have hF : CallFix p m c cX6_kinds 5 s _ wsX6_kinds RX6 := ⟨hx, hb, hml, hown, hts⟩
  refine lv_aload_n hx hb dX6_kinds_0 rfl (lv_at hl 0 rfl) ?_
  refine lv_iload_n hx hb dX6_kinds_1 rfl (lv_at hl 1 rfl) ?_
  refine x_calli (x_runV (As := [.int sn]) (rest := []) hF (c6_isSon hI S sn ) (cwV 1 hts gX6_kinds_X6_isSon rfl rfl rfl (by decide +kernel) ⟨Nat.le_of_ble_eq_true rfl, Nat.le_of_ble_eq_true rfl⟩) hK hP (by decide) rfl rfl rfl hl.1 rfl (Nat.le_of_ble_eq_true rfl) dX6_kinds_2 ⟨Nat.zero_le _, Nat.zero_le _⟩) hS hAd (fun r2 S2 H locs hw hP _ hS => ?_)
  obtain ⟨hw, eS2⟩ := hw
  rw [eS2] at hP
  by_cases q2 : inR sn (S 0 7) = true
  · have hw : r2 = 1 := hw.trans (if_pos q2)
    subst hw
    exact absurd q2 hno
  · have hw : r2 = 0 := hw.trans (if_neg q2)
    subst hw
    refine lv_if_ne (tgt := 10) hx hb dX6_kinds_5 (by decide) (fun hc => absurd (by decide) hc) (fun _ => ?_)
    refine lv_iconst (v := (-1)) hx hb dX6_kinds_8 (by decide +kernel) ?_
    refine x_iret hx hb hr hlocks hP hS dX6_kinds_9 ?_
    exact ⟨rfl, rfl⟩

set_option maxHeartbeats 4000000 in
set_option maxRecDepth 100000 in
theorem c6_fondness_t (hI : xI 18 bd) (S : xSt) (N : Nat) (hN : S 0 7 = nI N) (hN5 : N ≤ 5) (R : Nat) (hR : S 0 22 = nI R) (hR8 : R ≤ 8) (hrd : ∀ q, q < R → okN (S 14 q) 4 ∧ okN (S 15 q) 6) (j : Nat) (hj : j < N) : xMi l yX6_fondness wsX6_fondness ({ frames := 4, cells := 0, slots := 0, locals := 91 }) (dC, dI) vwCl (tyl cI cZ cS cG) (mLy cI cZ bd) 18 bd [.ref (bd 0), .int (nI j)] S (fun r S' => r = orL (fun v => if mSo (su (sr S 13 (askF S N)) 8 j (nI v)) N R = true then (1 : Int32) <<< (nI v &&& 31) else 0) 4 0 0 ∧ ∃ g, S' = sr S 13 g) := by
  refine xM_of (cc := cX6_fondness) (nL := 5) (ret := (some .int)) (by decide) rfl (Nat.le_of_ble_eq_true rfl) ?_
  intro p e s m below meth c ls B hl hK hP
  obtain ⟨hx, hb, hml, hown, hts, hr, hlocks⟩ := B
  have hl : lv_has ls 5 [(0, .ref (bd 0)), (1, .int (nI j))] := hl
  have hS : va_S (xA 18 bd) s.heap s.heap [] := va_S.rf
  have hAd : ∀ k, k < 18 → xA 18 bd (bd k) := xA_in
  have hinX6 : ∀ w ∈ wsX60, w ∈ wsX6_fondness := fun _ h => List.mem_cons_of_mem _ (List.mem_append_right _ h)
  have hF : CallFix p m c cX6_fondness 5 s _ wsX6_fondness RX6 := ⟨hx, hb, hml, hown, hts⟩
  have L22 : ∀ (n : Nat) (i : Nat) (a : Int32) (x : Int32) (g : Nat → Int32) (hi : i + n = 4) (hg : ∀ s, N ≤ s → g s = S 13 s) (hv : orL (fun v => if mSo (su (sr S 13 (askF S N)) 8 j (nI v)) N R = true then (1 : Int32) <<< (nI v &&& 31) else 0) 4 0 0 = orL (fun v => if mSo (su (sr S 13 (askF S N)) 8 j (nI v)) N R = true then (1 : Int32) <<< (nI v &&& 31) else 0) n i a) (H : Heap) (locs : List Loc) (ls : Array Slot), va_P (dC, dI) vwCl (xW (mLy cI cZ bd) 18 bd (su (sr S 13 g) 8 j x)) H → va_S (xA 18 bd) s.heap H locs → lv_has ls 5 [(0, .ref (bd 0)), (1, .int (nI j)), (2, .int (S 8 j)), (3, .int a), (4, .int (nI i))] → W p l e ({ frames := 4, cells := 0, slots := 0, locals := 91 }) s m ([.ref (bd 0), .int (nI j)] : List Value).toArray below meth c H locs 0 0 (MQ below (xQi (dC, dI) vwCl (mLy cI cZ bd) 18 bd (fun r S' => r = orL (fun v => if mSo (su (sr S 13 (askF S N)) 8 j (nI v)) N R = true then (1 : Int32) <<< (nI v &&& 31) else 0) 4 0 0 ∧ ∃ g, S' = sr S 13 g)) ([.ref (bd 0), .int (nI j)] : List Value).toArray s 0 0 (xA 18 bd)) (F0 m 22 ls []) := by
    intro n
    induction n with
    | zero =>
      intro i a x g hi hg hv H locs ls hP hS hl
      refine lv_iload hx hb dX6_fondness_22 (lv_at hl 4 rfl) ?_
      refine lv_iconst (v := 3) hx hb dX6_fondness_24 (by decide +kernel) ?_
      refine lv_icmp_gt (tgt := 60) hx hb dX6_fondness_25 (by decide) (fun _ => ?_) (fun hc => absurd (nI_lt (a := 3) (by omega) (by omega)) hc)
      refine lv_aload_n hx hb dX6_fondness_60 rfl (lv_at hl 0 rfl) ?_
      refine x_get (v := .ref (bd 8)) hx hb hts hinX6 hown hK hP 0 (by decide) rfl rfl 12 (by decide) (hts _ (List.mem_of_getElem? (i := 1) rfl)) rfl dX6_fondness_61 ?_
      refine lv_iload_n hx hb dX6_fondness_64 rfl (lv_at hl 1 rfl) ?_
      refine lv_iload_n hx hb dX6_fondness_65 rfl (lv_at hl 2 rfl) ?_
      refine x_iast hx hb hK hI hAd hP hS 8 0 (by decide) (fun _ => rfl) rfl j rfl (by omega) (by decide) dX6_fondness_66 (fun H locs hP hS => ?_)
      rw [su_su, show su (sr S 13 g) 8 j (S 8 j) = sr S 13 g from su_same (sr S 13 g) 8 j] at hP
      refine lv_iload_n hx hb dX6_fondness_67 rfl (lv_at hl 3 rfl) ?_
      refine x_iret hx hb hr hlocks hP hS dX6_fondness_68 ?_
      exact ⟨hv.symm, _, rfl⟩
    | succ n ih =>
      intro i a x g hi hg hv H locs ls hP hS hl
      refine lv_iload hx hb dX6_fondness_22 (lv_at hl 4 rfl) ?_
      refine lv_iconst (v := 3) hx hb dX6_fondness_24 (by decide +kernel) ?_
      refine lv_icmp_gt (tgt := 60) hx hb dX6_fondness_25 (by decide) (fun hc => absurd hc (nI_nlt (a := 3) (by omega) (by omega))) (fun _ => ?_)
      refine lv_aload_n hx hb dX6_fondness_28 rfl (lv_at hl 0 rfl) ?_
      refine x_get (v := .ref (bd 8)) hx hb hts hinX6 hown hK hP 0 (by decide) rfl rfl 12 (by decide) (hts _ (List.mem_of_getElem? (i := 1) rfl)) rfl dX6_fondness_29 ?_
      refine lv_iload_n hx hb dX6_fondness_32 rfl (lv_at hl 1 rfl) ?_
      refine lv_iload hx hb dX6_fondness_33 (lv_at hl 4 rfl) ?_
      refine x_iast hx hb hK hI hAd hP hS 8 0 (by decide) (fun _ => rfl) rfl j rfl (by omega) (by decide) dX6_fondness_35 (fun H locs hP hS => ?_)
      rw [su_su] at hP
      refine lv_iload_n hx hb dX6_fondness_36 rfl (lv_at hl 3 rfl) ?_
      refine lv_aload_n hx hb dX6_fondness_37 rfl (lv_at hl 0 rfl) ?_
      refine x_calli (x_runV (As := []) (rest := [.int a]) hF (c6_areSo hI (su (sr S 13 g) 8 j (nI i)) N hN hN5 R hR hR8 hrd) (cwV 0 hts gX6_fondness_X6_areSo rfl rfl rfl (by decide +kernel) ⟨Nat.le_of_ble_eq_true rfl, Nat.le_of_ble_eq_true rfl⟩) hK hP (by decide) rfl rfl rfl hl.1 rfl (Nat.le_of_ble_eq_true rfl) dX6_fondness_38 ⟨Nat.zero_le _, Nat.zero_le _⟩) hS hAd (fun r38 S38 H locs hw hP _ hS => ?_)
      obtain ⟨hw, eS38⟩ := hw
      have eA : askF (su (sr S 13 g) 8 j (nI i)) N = askF S N := askF_eq rfl rfl hg
      have eB : sr (su (sr S 13 g) 8 j (nI i)) 13 (askF S N) = su (sr S 13 (askF S N)) 8 j (nI i) := by rw [sr_su (by decide), sr_sr]
      rw [eA, eB] at eS38 hw
      rw [eS38] at hP
      by_cases q38 : mSo (su (sr S 13 (askF S N)) 8 j (nI i)) N R = true
      · have hw : r38 = 1 := hw.trans (if_pos q38)
        subst hw
        refine lv_if_eq (tgt := 51) hx hb dX6_fondness_41 (by decide) (fun hc => absurd hc (by decide)) (fun _ => ?_)
        refine lv_iconst (v := 1) hx hb dX6_fondness_44 (by decide +kernel) ?_
        refine lv_iload hx hb dX6_fondness_45 (lv_at hl 4 rfl) ?_
        refine lv_ishl hx hb dX6_fondness_47 ?_
        refine lv_goto (tgt := 52) hx hb dX6_fondness_48 (by decide) ?_
        refine lv_ior hx hb dX6_fondness_52 ?_
        refine lv_topi (fun x53 ex53 => ?_)
        refine lv_istore_n (lv' := [(3, .int x53), (0, .ref (bd 0)), (1, .int (nI j)), (2, .int (S 8 j)), (4, .int (nI i))]) hx hb dX6_fondness_53 rfl hl (by decide) rfl (fun ls hl => ?_)
        refine lv_iinc (v := nI (i + 1)) (lv' := [(4, .int (nI (i + 1))), (3, .int x53), (0, .ref (bd 0)), (1, .int (nI j)), (2, .int (S 8 j))]) hx hb dX6_fondness_54 hl (k := 4) rfl (nI_1 _) (by decide) rfl (fun ls hl => ?_)
        refine lv_goto (tgt := 22) hx hb dX6_fondness_57 (by decide) ?_
        exact ih (i + 1) x53 (nI i) (askF S N) (by omega) (fun s hs => askF_out hs) (hv.trans (congrArg (orL (fun v => if mSo (su (sr S 13 (askF S N)) 8 j (nI v)) N R = true then (1 : Int32) <<< (nI v &&& 31) else 0) n (i + 1)) (show a ||| (fun v => if mSo (su (sr S 13 (askF S N)) 8 j (nI v)) N R = true then (1 : Int32) <<< (nI v &&& 31) else 0) i = x53 from by subst ex53; simp [q38]))) H locs ls hP hS (lv_sub hl [2, 3, 4, 1, 0] rfl)
      · have hw : r38 = 0 := hw.trans (if_neg q38)
        subst hw
        refine lv_if_eq (tgt := 51) hx hb dX6_fondness_41 (by decide) (fun _ => ?_) (fun hc => absurd (by decide) hc)
        refine lv_iconst (v := 0) hx hb dX6_fondness_51 (by decide +kernel) ?_
        refine lv_ior hx hb dX6_fondness_52 ?_
        refine lv_topi (fun x53 ex53 => ?_)
        refine lv_istore_n (lv' := [(3, .int x53), (0, .ref (bd 0)), (1, .int (nI j)), (2, .int (S 8 j)), (4, .int (nI i))]) hx hb dX6_fondness_53 rfl hl (by decide) rfl (fun ls hl => ?_)
        refine lv_iinc (v := nI (i + 1)) (lv' := [(4, .int (nI (i + 1))), (3, .int x53), (0, .ref (bd 0)), (1, .int (nI j)), (2, .int (S 8 j))]) hx hb dX6_fondness_54 hl (k := 4) rfl (nI_1 _) (by decide) rfl (fun ls hl => ?_)
        refine lv_goto (tgt := 22) hx hb dX6_fondness_57 (by decide) ?_
        exact ih (i + 1) x53 (nI i) (askF S N) (by omega) (fun s hs => askF_out hs) (hv.trans (congrArg (orL (fun v => if mSo (su (sr S 13 (askF S N)) 8 j (nI v)) N R = true then (1 : Int32) <<< (nI v &&& 31) else 0) n (i + 1)) (show a ||| (fun v => if mSo (su (sr S 13 (askF S N)) 8 j (nI v)) N R = true then (1 : Int32) <<< (nI v &&& 31) else 0) i = x53 from by subst ex53; simp [q38]))) H locs ls hP hS (lv_sub hl [2, 3, 4, 1, 0] rfl)
  refine lv_aload_n hx hb dX6_fondness_0 rfl (lv_at hl 0 rfl) ?_
  refine lv_iload_n hx hb dX6_fondness_1 rfl (lv_at hl 1 rfl) ?_
  refine x_calli (x_runV (As := [.int (nI j)]) (rest := []) hF (c6_isSon hI S (nI j) ) (cwV 1 hts gX6_fondness_X6_isSon rfl rfl rfl (by decide +kernel) ⟨Nat.le_of_ble_eq_true rfl, Nat.le_of_ble_eq_true rfl⟩) hK hP (by decide) rfl rfl rfl hl.1 rfl (Nat.le_of_ble_eq_true rfl) dX6_fondness_2 ⟨Nat.zero_le _, Nat.zero_le _⟩) hS hAd (fun r2 S2 H locs hw hP _ hS => ?_)
  obtain ⟨hw, eS2⟩ := hw
  rw [eS2] at hP
  by_cases q2 : inR (nI j) (S 0 7) = true
  · have hw : r2 = 1 := hw.trans (if_pos q2)
    subst hw
    refine lv_if_ne (tgt := 10) hx hb dX6_fondness_5 (by decide) (fun _ => ?_) (fun hc => absurd hc (by decide))
    refine lv_aload_n hx hb dX6_fondness_10 rfl (lv_at hl 0 rfl) ?_
    refine x_get (v := .ref (bd 8)) hx hb hts hinX6 hown hK hP 0 (by decide) rfl rfl 12 (by decide) (hts _ (List.mem_of_getElem? (i := 1) rfl)) rfl dX6_fondness_11 ?_
    refine lv_iload_n hx hb dX6_fondness_14 rfl (lv_at hl 1 rfl) ?_
    refine x_iald (v := S 8 j) hx hb hK hP 8 0 (by decide) rfl rfl j rfl (by omega) (by decide) rfl dX6_fondness_15 ?_
    refine lv_topi (fun x16 ex16 => ?_)
    subst ex16
    refine lv_istore_n (lv' := [(2, .int (S 8 j)), (0, .ref (bd 0)), (1, .int (nI j))]) hx hb dX6_fondness_16 rfl hl (by decide) rfl (fun ls hl => ?_)
    refine lv_iconst (v := 0) hx hb dX6_fondness_17 (by decide +kernel) ?_
    refine lv_istore_n (lv' := [(3, .int 0), (2, .int (S 8 j)), (0, .ref (bd 0)), (1, .int (nI j))]) hx hb dX6_fondness_18 rfl hl (by decide) rfl (fun ls hl => ?_)
    refine lv_iconst (v := 0) hx hb dX6_fondness_19 (by decide +kernel) ?_
    refine lv_istore (lv' := [(4, .int 0), (3, .int 0), (2, .int (S 8 j)), (0, .ref (bd 0)), (1, .int (nI j))]) hx hb dX6_fondness_20 hl (by decide) rfl (fun ls hl => ?_)
    have hP : va_P (dC, dI) vwCl (xW (mLy cI cZ bd) 18 bd (su (sr S 13 (S 13)) 8 j (S 8 j))) H := by rw [sr_same, su_same]; exact hP
    exact L22 4 0 0 (S 8 j) (S 13) (Nat.zero_add _) (fun _ _ => rfl) rfl _ _ ls hP hS (lv_sub hl [3, 4, 2, 1, 0] rfl)
  · have hw : r2 = 0 := hw.trans (if_neg q2)
    subst hw
    exact absurd (by rw [hN]; exact inR_nI hj (by omega)) q2

set_option maxHeartbeats 4000000 in
set_option maxRecDepth 100000 in
theorem c6_fondness_f (hI : xI 18 bd) (S : xSt) (sn : Int32) (hno : ¬ inR sn (S 0 7) = true) : xMi l yX6_fondness wsX6_fondness ({ frames := 4, cells := 0, slots := 0, locals := 91 }) (dC, dI) vwCl (tyl cI cZ cS cG) (mLy cI cZ bd) 18 bd [.ref (bd 0), .int sn] S (fun r S' => r = -1 ∧ S' = S) := by
  refine xM_of (cc := cX6_fondness) (nL := 5) (ret := (some .int)) (by decide) rfl (Nat.le_of_ble_eq_true rfl) ?_
  intro p e s m below meth c ls B hl hK hP
  obtain ⟨hx, hb, hml, hown, hts, hr, hlocks⟩ := B
  have hl : lv_has ls 5 [(0, .ref (bd 0)), (1, .int sn)] := hl
  have hS : va_S (xA 18 bd) s.heap s.heap [] := va_S.rf
  have hAd : ∀ k, k < 18 → xA 18 bd (bd k) := xA_in
  have hF : CallFix p m c cX6_fondness 5 s _ wsX6_fondness RX6 := ⟨hx, hb, hml, hown, hts⟩
  refine lv_aload_n hx hb dX6_fondness_0 rfl (lv_at hl 0 rfl) ?_
  refine lv_iload_n hx hb dX6_fondness_1 rfl (lv_at hl 1 rfl) ?_
  refine x_calli (x_runV (As := [.int sn]) (rest := []) hF (c6_isSon hI S sn ) (cwV 1 hts gX6_fondness_X6_isSon rfl rfl rfl (by decide +kernel) ⟨Nat.le_of_ble_eq_true rfl, Nat.le_of_ble_eq_true rfl⟩) hK hP (by decide) rfl rfl rfl hl.1 rfl (Nat.le_of_ble_eq_true rfl) dX6_fondness_2 ⟨Nat.zero_le _, Nat.zero_le _⟩) hS hAd (fun r2 S2 H locs hw hP _ hS => ?_)
  obtain ⟨hw, eS2⟩ := hw
  rw [eS2] at hP
  by_cases q2 : inR sn (S 0 7) = true
  · have hw : r2 = 1 := hw.trans (if_pos q2)
    subst hw
    exact absurd q2 hno
  · have hw : r2 = 0 := hw.trans (if_neg q2)
    subst hw
    refine lv_if_ne (tgt := 10) hx hb dX6_fondness_5 (by decide) (fun hc => absurd (by decide) hc) (fun _ => ?_)
    refine lv_iconst (v := (-1)) hx hb dX6_fondness_8 (by decide +kernel) ?_
    refine x_iret hx hb hr hlocks hP hS dX6_fondness_9 ?_
    exact ⟨rfl, rfl⟩

set_option maxHeartbeats 4000000 in
set_option maxRecDepth 100000 in
theorem c6_hole (hI : xI 18 bd) (S : xSt) (N : Nat) (hN : S 0 7 = nI N) (hN5 : N ≤ 5) (C : Nat) (hC : S 0 5 = nI C) (hC4 : C ≤ 4) (Y : Nat) (hY : S 0 6 = nI Y) (hY6 : Y ≤ 6) (cn : Int32) : xMi l yX6_hole wsX6_hole ({ frames := 4, cells := 0, slots := 0, locals := 92 }) (dC, dI) vwCl (tyl cI cZ cS cG) (mLy cI cZ bd) 18 bd [.ref (bd 0), .int cn] S (fun r S' => r = (if inR cn (S 0 5) then scan (fun y => mT (sr S 13 (askG S N (1 <<< (S 0 7 &&& 31) - 1))) N (nN cn) y) Y 0 else -1) ∧ (S' = S ∨ ∃ g, S' = sr S 13 g)) := by
  refine xM_of (cc := cX6_hole) (nL := 2) (ret := (some .int)) (by decide) rfl (Nat.le_of_ble_eq_true rfl) ?_
  intro p e s m below meth c ls B hl hK hP
  obtain ⟨hx, hb, hml, hown, hts, hr, hlocks⟩ := B
  have hl : lv_has ls 2 [(0, .ref (bd 0)), (1, .int cn)] := hl
  have hS : va_S (xA 18 bd) s.heap s.heap [] := va_S.rf
  have hAd : ∀ k, k < 18 → xA 18 bd (bd k) := xA_in
  have hinX6 : ∀ w ∈ wsX60, w ∈ wsX6_hole := fun _ h => List.mem_cons_of_mem _ (List.mem_append_right _ h)
  have hF : CallFix p m c cX6_hole 2 s _ wsX6_hole RX6 := ⟨hx, hb, hml, hown, hts⟩
  refine lv_aload_n hx hb dX6_hole_0 rfl (lv_at hl 0 rfl) ?_
  refine lv_iload_n hx hb dX6_hole_1 rfl (lv_at hl 1 rfl) ?_
  refine x_calli (x_runV (As := [.int cn]) (rest := []) hF (c6_isCourt hI S cn ) (cwV 1 hts gX6_hole_X6_isCourt rfl rfl rfl (by decide +kernel) ⟨Nat.le_of_ble_eq_true rfl, Nat.le_of_ble_eq_true rfl⟩) hK hP (by decide) rfl rfl rfl hl.1 rfl (Nat.le_of_ble_eq_true rfl) dX6_hole_2 ⟨Nat.zero_le _, Nat.zero_le _⟩) hS hAd (fun r2 S2 H locs hw hP _ hS => ?_)
  obtain ⟨hw, eS2⟩ := hw
  rw [eS2] at hP
  by_cases q2 : inR cn (S 0 5) = true
  · have hw : r2 = 1 := hw.trans (if_pos q2)
    subst hw
    obtain ⟨j2, hj2, rfl⟩ : ∃ j, j < C ∧ cn = nI j := inR_ex (by rw [← hC]; exact q2) (by omega)
    have en2 : nN (nI j2) = j2 := nN_nI (by omega)
    refine lv_if_ne (tgt := 10) hx hb dX6_hole_5 (by decide) (fun _ => ?_) (fun hc => absurd hc (by decide))
    refine lv_aload_n hx hb dX6_hole_10 rfl (lv_at hl 0 rfl) ?_
    refine lv_iconst (v := 1) hx hb dX6_hole_11 (by decide +kernel) ?_
    refine lv_aload_n hx hb dX6_hole_12 rfl (lv_at hl 0 rfl) ?_
    refine x_get (v := .int (S 0 7)) hx hb hts hinX6 hown hK hP 0 (by decide) rfl rfl 7 (by decide) (hts _ (List.mem_of_getElem? (i := 1) rfl)) rfl dX6_hole_13 ?_
    refine lv_ishl hx hb dX6_hole_16 ?_
    refine lv_iconst (v := 1) hx hb dX6_hole_17 (by decide +kernel) ?_
    refine lv_isub hx hb dX6_hole_18 ?_
    refine x_callv (x_runV (As := [.int ((1 <<< ((S 0 7) &&& 31)) - 1)]) (rest := []) hF (c6_askSet hI S N hN hN5 ((1 <<< ((S 0 7) &&& 31)) - 1) ) (cwV 1 hts gX6_hole_X6_askSet rfl rfl rfl (by decide +kernel) ⟨Nat.le_of_ble_eq_true rfl, Nat.le_of_ble_eq_true rfl⟩) hK hP (by decide) rfl rfl rfl hl.1 rfl (Nat.le_of_ble_eq_true rfl) dX6_hole_19 ⟨Nat.zero_le _, Nat.zero_le _⟩) hS hAd (fun S19 H locs hw hP _ hS => ?_)
    rw [hw] at hP
    refine lv_aload_n hx hb dX6_hole_22 rfl (lv_at hl 0 rfl) ?_
    refine lv_iload_n hx hb dX6_hole_23 rfl (lv_at hl 1 rfl) ?_
    refine x_calli (x_runV (As := [.int (nI j2)]) (rest := []) hF (c6_holeOf hI (sr S 13 (askG S N ((1 <<< ((S 0 7) &&& 31)) - 1))) N hN hN5 Y hY hY6 j2 (by omega) ) (cwV 1 hts gX6_hole_X6_holeOf rfl rfl rfl (by decide +kernel) ⟨Nat.le_of_ble_eq_true rfl, Nat.le_of_ble_eq_true rfl⟩) hK hP (by decide) rfl rfl rfl hl.1 rfl (Nat.le_of_ble_eq_true rfl) dX6_hole_24 ⟨Nat.zero_le _, Nat.zero_le _⟩) hS hAd (fun r24 S24 H locs hw hP _ hS => ?_)
    obtain ⟨er24, eS24⟩ := hw
    rw [eS24] at hP
    refine x_iret hx hb hr hlocks hP hS dX6_hole_27 ?_
    subst er24
    exact ⟨by first | (simp [q2, en2]; done) | grind, by first | exact Or.inl rfl | exact Or.inr ⟨_, rfl⟩⟩
  · have hw : r2 = 0 := hw.trans (if_neg q2)
    subst hw
    refine lv_if_ne (tgt := 10) hx hb dX6_hole_5 (by decide) (fun hc => absurd (by decide) hc) (fun _ => ?_)
    refine lv_iconst (v := (-1)) hx hb dX6_hole_8 (by decide +kernel) ?_
    refine x_iret hx hb hr hlocks hP hS dX6_hole_9 ?_
    skip
    exact ⟨by first | (simp [q2]; done) | grind, by first | exact Or.inl rfl | exact Or.inr ⟨_, rfl⟩⟩

set_option maxHeartbeats 4000000 in
set_option maxRecDepth 100000 in
theorem c6_when_t (hI : xI 18 bd) (S : xSt) (N : Nat) (hN : S 0 7 = nI N) (hN5 : N ≤ 5) (Y : Nat) (hY : S 0 6 = nI Y) (hY6 : Y ≤ 6) (j : Nat) (hj : j < N) (f : Nat) (hf : f < 4) (hfa : S 6 j = nI f) : xMi l yX6_when wsX6_when ({ frames := 4, cells := 0, slots := 0, locals := 92 }) (dC, dI) vwCl (tyl cI cZ cS cG) (mLy cI cZ bd) 18 bd [.ref (bd 0), .int (nI j)] S (fun r S' => r = dsc (fun y => decide (scan (fun z => mT (su (sr S 13 (askG S N (1 <<< (S 0 7 &&& 31) - 1))) 13 j (nI y)) N f z) Y 0 = -9)) (Y + 1) ∧ ∃ g, S' = sr S 13 g) := by
  refine xM_of (cc := cX6_when) (nL := 3) (ret := (some .int)) (by decide) rfl (Nat.le_of_ble_eq_true rfl) ?_
  intro p e s m below meth c ls B hl hK hP
  obtain ⟨hx, hb, hml, hown, hts, hr, hlocks⟩ := B
  have hl : lv_has ls 3 [(0, .ref (bd 0)), (1, .int (nI j))] := hl
  have hS : va_S (xA 18 bd) s.heap s.heap [] := va_S.rf
  have hAd : ∀ k, k < 18 → xA 18 bd (bd k) := xA_in
  have hinX6 : ∀ w ∈ wsX60, w ∈ wsX6_when := fun _ h => List.mem_cons_of_mem _ (List.mem_append_right _ h)
  have hF : CallFix p m c cX6_when 3 s _ wsX6_when RX6 := ⟨hx, hb, hml, hown, hts⟩
  have L27 : ∀ (n : Nat) (x2 : Int32) (x : Int32) (hn : n ≤ Y + 1) (hx2 : x2 = nI n - 1) (hv : dsc (fun y => decide (scan (fun z => mT (su (sr S 13 (askG S N (1 <<< (S 0 7 &&& 31) - 1))) 13 j (nI y)) N f z) Y 0 = -9)) (Y + 1) = dsc (fun y => decide (scan (fun z => mT (su (sr S 13 (askG S N (1 <<< (S 0 7 &&& 31) - 1))) 13 j (nI y)) N f z) Y 0 = -9)) n) (H : Heap) (locs : List Loc) (ls : Array Slot), va_P (dC, dI) vwCl (xW (mLy cI cZ bd) 18 bd (su (sr S 13 (askG S N (1 <<< (S 0 7 &&& 31) - 1))) 13 j x)) H → va_S (xA 18 bd) s.heap H locs → lv_has ls 3 [(0, .ref (bd 0)), (1, .int (nI j)), (2, .int x2)] → W p l e ({ frames := 4, cells := 0, slots := 0, locals := 92 }) s m ([.ref (bd 0), .int (nI j)] : List Value).toArray below meth c H locs 0 0 (MQ below (xQi (dC, dI) vwCl (mLy cI cZ bd) 18 bd (fun r S' => r = dsc (fun y => decide (scan (fun z => mT (su (sr S 13 (askG S N (1 <<< (S 0 7 &&& 31) - 1))) 13 j (nI y)) N f z) Y 0 = -9)) (Y + 1) ∧ ∃ g, S' = sr S 13 g)) ([.ref (bd 0), .int (nI j)] : List Value).toArray s 0 0 (xA 18 bd)) (F0 m 27 ls []) := by
    intro n
    induction n with
    | zero =>
      intro x2 x hn hx2 hv H locs ls hP hS hl
      refine lv_iload_n hx hb dX6_when_27 rfl (lv_at hl 2 rfl) ?_
      refine lv_if_lt (tgt := 61) hx hb dX6_when_28 (by decide) (fun _ => ?_) (fun hc => absurd (by rw [hx2]; decide +kernel) hc)
      refine lv_bipush (v := (-9)) hx hb dX6_when_61 (by decide +kernel) ?_
      refine x_iret hx hb hr hlocks hP hS dX6_when_63 ?_
      exact ⟨hv.symm, _, by rw [su, sr_sr]⟩
    | succ n ih =>
      intro x2 x hn hx2 hv H locs ls hP hS hl
      rw [nI_pred] at hx2
      subst hx2
      refine lv_iload_n hx hb dX6_when_27 rfl (lv_at hl 2 rfl) ?_
      refine lv_if_lt (tgt := 61) hx hb dX6_when_28 (by decide) (fun hc => absurd hc (nI_pos (by omega))) (fun _ => ?_)
      refine lv_aload_n hx hb dX6_when_31 rfl (lv_at hl 0 rfl) ?_
      refine x_get (v := .ref (bd 13)) hx hb hts hinX6 hown hK hP 0 (by decide) rfl rfl 21 (by decide) (hts _ (List.mem_of_getElem? (i := 3) rfl)) rfl dX6_when_32 ?_
      refine lv_iload_n hx hb dX6_when_35 rfl (lv_at hl 1 rfl) ?_
      refine lv_iload_n hx hb dX6_when_36 rfl (lv_at hl 2 rfl) ?_
      refine x_iast hx hb hK hI hAd hP hS 13 0 (by decide) (fun _ => rfl) rfl j rfl (by omega) (by decide) dX6_when_37 (fun H locs hP hS => ?_)
      rw [su_su] at hP
      refine lv_aload_n hx hb dX6_when_38 rfl (lv_at hl 0 rfl) ?_
      refine lv_aload_n hx hb dX6_when_39 rfl (lv_at hl 0 rfl) ?_
      refine x_get (v := .ref (bd 6)) hx hb hts hinX6 hown hK hP 0 (by decide) rfl rfl 10 (by decide) (hts _ (List.mem_of_getElem? (i := 4) rfl)) rfl dX6_when_40 ?_
      refine lv_iload_n hx hb dX6_when_43 rfl (lv_at hl 1 rfl) ?_
      refine x_iald (v := nI f) hx hb hK hP 6 0 (by decide) rfl rfl j rfl (by omega) (by decide) hfa dX6_when_44 ?_
      refine x_calli (x_runV (As := [.int (nI f)]) (rest := []) hF (c6_holeOf hI (su (sr S 13 (askG S N (1 <<< (S 0 7 &&& 31) - 1))) 13 j (nI n)) N hN hN5 Y hY hY6 f (by omega) ) (cwV 1 hts gX6_when_X6_holeOf rfl rfl rfl (by decide +kernel) ⟨Nat.le_of_ble_eq_true rfl, Nat.le_of_ble_eq_true rfl⟩) hK hP (by decide) rfl rfl rfl hl.1 rfl (Nat.le_of_ble_eq_true rfl) dX6_when_45 ⟨Nat.zero_le _, Nat.zero_le _⟩) hS hAd (fun r45 S45 H locs hw hP _ hS => ?_)
      obtain ⟨er45, eS45⟩ := hw
      rw [eS45] at hP
      refine lv_bipush (v := (-9)) hx hb dX6_when_48 (by decide +kernel) ?_
      refine lv_icmp_ne (tgt := 55) hx hb dX6_when_50 (by decide) (fun c50 => ?_) (fun c50 => ?_)
      · obtain ⟨x55, ex55⟩ : ∃ z : Int32, z = nI n + (-1) := ⟨_, rfl⟩
        refine lv_iinc (v := x55) (lv' := [(2, .int x55), (0, .ref (bd 0)), (1, .int (nI j))]) hx hb dX6_when_55 hl (k := 2) rfl (by rw [ex55]; rfl) (by decide) rfl (fun ls hl => ?_)
        refine lv_goto (tgt := 27) hx hb dX6_when_58 (by decide) ?_
        exact ih x55 (nI n) (by omega) (by rw [ex55, Int32.sub_eq_add_neg]) (hv.trans (by clear ex55; subst er45; rw [dsc, if_neg (by simp [c50])])) H locs ls hP hS (lv_sub hl [1, 2, 0] rfl)
      · refine lv_iload_n hx hb dX6_when_53 rfl (lv_at hl 2 rfl) ?_
        refine x_iret hx hb hr hlocks hP hS dX6_when_54 ?_
        subst er45
        exact ⟨by rw [hv, dsc, if_pos (by simp [c50])], _, by rw [su, sr_sr]⟩
  refine lv_aload_n hx hb dX6_when_0 rfl (lv_at hl 0 rfl) ?_
  refine lv_iload_n hx hb dX6_when_1 rfl (lv_at hl 1 rfl) ?_
  refine x_calli (x_runV (As := [.int (nI j)]) (rest := []) hF (c6_isSon hI S (nI j) ) (cwV 1 hts gX6_when_X6_isSon rfl rfl rfl (by decide +kernel) ⟨Nat.le_of_ble_eq_true rfl, Nat.le_of_ble_eq_true rfl⟩) hK hP (by decide) rfl rfl rfl hl.1 rfl (Nat.le_of_ble_eq_true rfl) dX6_when_2 ⟨Nat.zero_le _, Nat.zero_le _⟩) hS hAd (fun r2 S2 H locs hw hP _ hS => ?_)
  obtain ⟨hw, eS2⟩ := hw
  rw [eS2] at hP
  by_cases q2 : inR (nI j) (S 0 7) = true
  · have hw : r2 = 1 := hw.trans (if_pos q2)
    subst hw
    refine lv_if_ne (tgt := 10) hx hb dX6_when_5 (by decide) (fun _ => ?_) (fun hc => absurd hc (by decide))
    refine lv_aload_n hx hb dX6_when_10 rfl (lv_at hl 0 rfl) ?_
    refine lv_iconst (v := 1) hx hb dX6_when_11 (by decide +kernel) ?_
    refine lv_aload_n hx hb dX6_when_12 rfl (lv_at hl 0 rfl) ?_
    refine x_get (v := .int (S 0 7)) hx hb hts hinX6 hown hK hP 0 (by decide) rfl rfl 7 (by decide) (hts _ (List.mem_of_getElem? (i := 1) rfl)) rfl dX6_when_13 ?_
    refine lv_ishl hx hb dX6_when_16 ?_
    refine lv_iconst (v := 1) hx hb dX6_when_17 (by decide +kernel) ?_
    refine lv_isub hx hb dX6_when_18 ?_
    refine x_callv (x_runV (As := [.int ((1 <<< ((S 0 7) &&& 31)) - 1)]) (rest := []) hF (c6_askSet hI S N hN hN5 ((1 <<< ((S 0 7) &&& 31)) - 1) ) (cwV 1 hts gX6_when_X6_askSet rfl rfl rfl (by decide +kernel) ⟨Nat.le_of_ble_eq_true rfl, Nat.le_of_ble_eq_true rfl⟩) hK hP (by decide) rfl rfl rfl hl.1 rfl (Nat.le_of_ble_eq_true rfl) dX6_when_19 ⟨Nat.zero_le _, Nat.zero_le _⟩) hS hAd (fun S19 H locs hw hP _ hS => ?_)
    rw [hw] at hP
    refine lv_aload_n hx hb dX6_when_22 rfl (lv_at hl 0 rfl) ?_
    refine x_get (v := .int (nI Y)) hx hb hts hinX6 hown hK hP 0 (by decide) rfl rfl 6 (by decide) (hts _ (List.mem_of_getElem? (i := 2) rfl)) (congrArg (fun z => some (Value.int z)) hY) dX6_when_23 ?_
    refine lv_istore_n (lv' := [(2, .int (nI Y)), (0, .ref (bd 0)), (1, .int (nI j))]) hx hb dX6_when_26 rfl hl (by decide) rfl (fun ls hl => ?_)
    have hP : va_P (dC, dI) vwCl (xW (mLy cI cZ bd) 18 bd (su (sr S 13 (askG S N (1 <<< (S 0 7 &&& 31) - 1))) 13 j ((sr S 13 (askG S N (1 <<< (S 0 7 &&& 31) - 1))) 13 j))) H := by rw [su_same]; exact hP
    exact L27 (Y + 1) (nI Y) ((sr S 13 (askG S N (1 <<< (S 0 7 &&& 31) - 1))) 13 j) (Nat.le_refl _) (nI_pred Y).symm rfl _ _ ls hP hS (lv_sub hl [1, 2, 0] rfl)
  · have hw : r2 = 0 := hw.trans (if_neg q2)
    subst hw
    exact absurd (by rw [hN]; exact inR_nI hj (by omega)) q2

set_option maxHeartbeats 4000000 in
set_option maxRecDepth 100000 in
theorem c6_when_f (hI : xI 18 bd) (S : xSt) (sn : Int32) (hno : ¬ inR sn (S 0 7) = true) : xMi l yX6_when wsX6_when ({ frames := 4, cells := 0, slots := 0, locals := 92 }) (dC, dI) vwCl (tyl cI cZ cS cG) (mLy cI cZ bd) 18 bd [.ref (bd 0), .int sn] S (fun r S' => r = -1 ∧ S' = S) := by
  refine xM_of (cc := cX6_when) (nL := 3) (ret := (some .int)) (by decide) rfl (Nat.le_of_ble_eq_true rfl) ?_
  intro p e s m below meth c ls B hl hK hP
  obtain ⟨hx, hb, hml, hown, hts, hr, hlocks⟩ := B
  have hl : lv_has ls 3 [(0, .ref (bd 0)), (1, .int sn)] := hl
  have hS : va_S (xA 18 bd) s.heap s.heap [] := va_S.rf
  have hAd : ∀ k, k < 18 → xA 18 bd (bd k) := xA_in
  have hF : CallFix p m c cX6_when 3 s _ wsX6_when RX6 := ⟨hx, hb, hml, hown, hts⟩
  refine lv_aload_n hx hb dX6_when_0 rfl (lv_at hl 0 rfl) ?_
  refine lv_iload_n hx hb dX6_when_1 rfl (lv_at hl 1 rfl) ?_
  refine x_calli (x_runV (As := [.int sn]) (rest := []) hF (c6_isSon hI S sn ) (cwV 1 hts gX6_when_X6_isSon rfl rfl rfl (by decide +kernel) ⟨Nat.le_of_ble_eq_true rfl, Nat.le_of_ble_eq_true rfl⟩) hK hP (by decide) rfl rfl rfl hl.1 rfl (Nat.le_of_ble_eq_true rfl) dX6_when_2 ⟨Nat.zero_le _, Nat.zero_le _⟩) hS hAd (fun r2 S2 H locs hw hP _ hS => ?_)
  obtain ⟨hw, eS2⟩ := hw
  rw [eS2] at hP
  by_cases q2 : inR sn (S 0 7) = true
  · have hw : r2 = 1 := hw.trans (if_pos q2)
    subst hw
    exact absurd q2 hno
  · have hw : r2 = 0 := hw.trans (if_neg q2)
    subst hw
    refine lv_if_ne (tgt := 10) hx hb dX6_when_5 (by decide) (fun hc => absurd (by decide) hc) (fun _ => ?_)
    refine lv_iconst (v := (-1)) hx hb dX6_when_8 (by decide +kernel) ?_
    refine x_iret hx hb hr hlocks hP hS dX6_when_9 ?_
    exact ⟨rfl, rfl⟩

set_option maxHeartbeats 4000000 in
set_option maxRecDepth 100000 in
theorem c6_least_t (hI : xI 18 bd) (S : xSt) (N : Nat) (hN : S 0 7 = nI N) (hN5 : N ≤ 5) (C : Nat) (hC : S 0 5 = nI C) (hC4 : C ≤ 4) (hC0 : 0 < C) (Y : Nat) (hY : S 0 6 = nI Y) (hY6 : Y ≤ 6) : xMi l yX6_least wsX6_least ({ frames := 5, cells := 0, slots := 0, locals := 114 }) (dC, dI) vwCl (tyl cI cZ cS cG) (mLy cI cZ bd) 18 bd [.ref (bd 0)] S (fun r S' => r = lstL pcM (fun i => decide (mBrk (sr S 13 (askG S N (nI i))) N C Y = -9)) (2 ^ N) 0 (-9) ∧ ∃ g, S' = sr S 13 g) := by
  refine xM_of (cc := cX6_least) (nL := 3) (ret := (some .int)) (by decide) rfl (Nat.le_of_ble_eq_true rfl) ?_
  intro p e s m below meth c ls B hl hK hP
  obtain ⟨hx, hb, hml, hown, hts, hr, hlocks⟩ := B
  have hl : lv_has ls 3 [(0, .ref (bd 0))] := hl
  have hS : va_S (xA 18 bd) s.heap s.heap [] := va_S.rf
  have hAd : ∀ k, k < 18 → xA 18 bd (bd k) := xA_in
  have hinX6 : ∀ w ∈ wsX60, w ∈ wsX6_least := fun _ h => List.mem_cons_of_mem _ (List.mem_append_right _ h)
  have hF : CallFix p m c cX6_least 3 s _ wsX6_least RX6 := ⟨hx, hb, hml, hown, hts⟩
  have h32 : 2 ^ N ≤ 2 ^ 5 := Nat.pow_le_pow_right (by decide) hN5
  have L15 : ∀ (n : Nat) (i : Nat) (a : Int32) (g : Nat → Int32) (hi : i + n = 2 ^ N) (hg : ∀ s, N ≤ s → g s = S 13 s) (ha : a = -9 ∨ ∃ k, k < 32 ∧ a = nI k) (hv : lstL pcM (fun i => decide (mBrk (sr S 13 (askG S N (nI i))) N C Y = -9)) (2 ^ N) 0 (-9) = lstL pcM (fun i => decide (mBrk (sr S 13 (askG S N (nI i))) N C Y = -9)) n i a) (H : Heap) (locs : List Loc) (ls : Array Slot), va_P (dC, dI) vwCl (xW (mLy cI cZ bd) 18 bd (sr S 13 g)) H → va_S (xA 18 bd) s.heap H locs → lv_has ls 3 [(0, .ref (bd 0)), (1, .int a), (2, .int (nI i))] → W p l e ({ frames := 5, cells := 0, slots := 0, locals := 114 }) s m ([.ref (bd 0)] : List Value).toArray below meth c H locs 0 0 (MQ below (xQi (dC, dI) vwCl (mLy cI cZ bd) 18 bd (fun r S' => r = lstL pcM (fun i => decide (mBrk (sr S 13 (askG S N (nI i))) N C Y = -9)) (2 ^ N) 0 (-9) ∧ ∃ g, S' = sr S 13 g)) ([.ref (bd 0)] : List Value).toArray s 0 0 (xA 18 bd)) (F0 m 15 ls []) := by
    intro n
    induction n with
    | zero =>
      intro i a g hi hg ha hv H locs ls hP hS hl
      refine lv_iload_n hx hb dX6_least_15 rfl (lv_at hl 2 rfl) ?_
      refine lv_iconst (v := 1) hx hb dX6_least_16 (by decide +kernel) ?_
      refine lv_aload_n hx hb dX6_least_17 rfl (lv_at hl 0 rfl) ?_
      refine x_get (v := .int (nI N)) hx hb hts hinX6 hown hK hP 0 (by decide) rfl rfl 7 (by decide) (hts _ (List.mem_of_getElem? (i := 2) rfl)) (congrArg (fun z => some (Value.int z)) hN) dX6_least_18 ?_
      refine lv_ishl hx hb dX6_least_21 ?_
      rw [shl1 N (by omega)]
      refine lv_icmp_ge (tgt := 68) hx hb dX6_least_22 (by decide) (fun _ => ?_) (fun hc => absurd (nI_le (by omega) (by omega)) hc)
      refine lv_iload_n hx hb dX6_least_68 rfl (lv_at hl 1 rfl) ?_
      refine x_iret hx hb hr hlocks hP hS dX6_least_69 ?_
      exact ⟨hv.symm, _, rfl⟩
    | succ n ih =>
      intro i a g hi hg ha hv H locs ls hP hS hl
      refine lv_iload_n hx hb dX6_least_15 rfl (lv_at hl 2 rfl) ?_
      refine lv_iconst (v := 1) hx hb dX6_least_16 (by decide +kernel) ?_
      refine lv_aload_n hx hb dX6_least_17 rfl (lv_at hl 0 rfl) ?_
      refine x_get (v := .int (nI N)) hx hb hts hinX6 hown hK hP 0 (by decide) rfl rfl 7 (by decide) (hts _ (List.mem_of_getElem? (i := 2) rfl)) (congrArg (fun z => some (Value.int z)) hN) dX6_least_18 ?_
      refine lv_ishl hx hb dX6_least_21 ?_
      rw [shl1 N (by omega)]
      refine lv_icmp_ge (tgt := 68) hx hb dX6_least_22 (by decide) (fun hc => absurd hc (nI_ge (by omega) (by omega))) (fun _ => ?_)
      refine lv_iload_n hx hb dX6_least_25 rfl (lv_at hl 1 rfl) ?_
      refine lv_bipush (v := (-9)) hx hb dX6_least_26 (by decide +kernel) ?_
      refine lv_icmp_eq (tgt := 42) hx hb dX6_least_28 (by decide) (fun c28 => ?_) (fun c28 => ?_)
      · refine lv_aload_n hx hb dX6_least_42 rfl (lv_at hl 0 rfl) ?_
        refine lv_iload_n hx hb dX6_least_43 rfl (lv_at hl 2 rfl) ?_
        refine x_callv (x_runV (As := [.int (nI i)]) (rest := []) hF (c6_askSet hI (sr S 13 g) N hN hN5 (nI i) ) (cwV 1 hts gX6_least_X6_askSet rfl rfl rfl (by decide +kernel) ⟨Nat.le_of_ble_eq_true rfl, Nat.le_of_ble_eq_true rfl⟩) hK hP (by decide) rfl rfl rfl hl.1 rfl (Nat.le_of_ble_eq_true rfl) dX6_least_44 ⟨Nat.zero_le _, Nat.zero_le _⟩) hS hAd (fun S44 H locs hw hP _ hS => ?_)
        rw [hw] at hP
        rw [askG_eq hg, sr_sr] at hP
        refine lv_aload_n hx hb dX6_least_47 rfl (lv_at hl 0 rfl) ?_
        refine x_calli (x_runV (As := []) (rest := []) hF (c6_breakYear hI (sr S 13 (askG S N (nI i))) N hN hN5 C hC hC4 Y hY hY6 ) (cwV 0 hts gX6_least_X6_breakYear rfl rfl rfl (by decide +kernel) ⟨Nat.le_of_ble_eq_true rfl, Nat.le_of_ble_eq_true rfl⟩) hK hP (by decide) rfl rfl rfl hl.1 rfl (Nat.le_of_ble_eq_true rfl) dX6_least_48 ⟨Nat.zero_le _, Nat.zero_le _⟩) hS hAd (fun r48 S48 H locs hw hP _ hS => ?_)
        obtain ⟨er48, eS48⟩ := hw
        rw [eS48] at hP
        refine lv_bipush (v := (-9)) hx hb dX6_least_51 (by decide +kernel) ?_
        refine lv_icmp_ne (tgt := 60) hx hb dX6_least_53 (by decide) (fun c53 => ?_) (fun c53 => ?_)
        · refine lv_iload_n hx hb dX6_least_60 rfl (lv_at hl 1 rfl) ?_
          refine lv_istore_n (lv' := [(1, .int a), (0, .ref (bd 0)), (2, .int (nI i))]) hx hb dX6_least_61 rfl hl (by decide) rfl (fun ls hl => ?_)
          refine lv_iinc (v := nI (i + 1)) (lv' := [(2, .int (nI (i + 1))), (1, .int a), (0, .ref (bd 0))]) hx hb dX6_least_62 hl (k := 2) rfl (nI_1 _) (by decide) rfl (fun ls hl => ?_)
          refine lv_goto (tgt := 15) hx hb dX6_least_65 (by decide) ?_
          exact ih (i + 1) a (askG S N (nI i)) (by omega) (fun s hs => askG_out hs) ha (hv.trans (congrArg (lstL pcM (fun i => decide (mBrk (sr S 13 (askG S N (nI i))) N C Y = -9)) n (i + 1)) (show (if a = -9 ∨ pcM (nI i) < pcM a then (if (fun i => decide (mBrk (sr S 13 (askG S N (nI i))) N C Y = -9)) i = true then nI i else a) else a) = a from by subst er48; first | (simp [pcM, nN_nI (show i < 2 ^ 31 by omega), c28, c53]; done) | grind))) H locs ls hP hS (lv_sub hl [2, 1, 0] rfl)
        · refine lv_iload_n hx hb dX6_least_56 rfl (lv_at hl 2 rfl) ?_
          refine lv_goto (tgt := 61) hx hb dX6_least_57 (by decide) ?_
          refine lv_istore_n (lv' := [(1, .int (nI i)), (0, .ref (bd 0)), (2, .int (nI i))]) hx hb dX6_least_61 rfl hl (by decide) rfl (fun ls hl => ?_)
          refine lv_iinc (v := nI (i + 1)) (lv' := [(2, .int (nI (i + 1))), (1, .int (nI i)), (0, .ref (bd 0))]) hx hb dX6_least_62 hl (k := 2) rfl (nI_1 _) (by decide) rfl (fun ls hl => ?_)
          refine lv_goto (tgt := 15) hx hb dX6_least_65 (by decide) ?_
          exact ih (i + 1) (nI i) (askG S N (nI i)) (by omega) (fun s hs => askG_out hs) (Or.inr ⟨i, by omega, rfl⟩) (hv.trans (congrArg (lstL pcM (fun i => decide (mBrk (sr S 13 (askG S N (nI i))) N C Y = -9)) n (i + 1)) (show (if a = -9 ∨ pcM (nI i) < pcM a then (if (fun i => decide (mBrk (sr S 13 (askG S N (nI i))) N C Y = -9)) i = true then nI i else a) else a) = nI i from by subst er48; first | (simp [pcM, nN_nI (show i < 2 ^ 31 by omega), c28, c53]; done) | grind))) H locs ls hP hS (lv_sub hl [2, 1, 0] rfl)
      · obtain ⟨k, hk, rfl⟩ := ha.resolve_left c28
        have gk : nN (nI k) = k := nN_nI (by omega)
        refine lv_iload_n hx hb dX6_least_31 rfl (lv_at hl 2 rfl) ?_
        refine x_calli (x_runS (As := [.int (nI i)]) (rest := []) hF (c6_size hI (sr S 13 g) i (by omega) ) (va_cwS 1 hts gX6_least_X6_size rfl rfl rfl (by decide +kernel) ⟨Nat.le_of_ble_eq_true rfl, Nat.le_of_ble_eq_true rfl⟩) hK hP rfl hl.1 rfl (Nat.le_of_ble_eq_true rfl) dX6_least_32 ⟨Nat.zero_le _, Nat.zero_le _⟩) hS hAd (fun r32 S32 H locs hw hP _ hS => ?_)
        obtain ⟨er32, eS32⟩ := hw
        rw [eS32] at hP
        refine lv_iload_n hx hb dX6_least_35 rfl (lv_at hl 1 rfl) ?_
        refine x_calli (x_runS (As := [.int (nI k)]) (rest := [.int r32]) hF (c6_size hI (sr S 13 g) k (by omega) ) (va_cwS 1 hts gX6_least_X6_size rfl rfl rfl (by decide +kernel) ⟨Nat.le_of_ble_eq_true rfl, Nat.le_of_ble_eq_true rfl⟩) hK hP rfl hl.1 rfl (Nat.le_of_ble_eq_true rfl) dX6_least_36 ⟨Nat.zero_le _, Nat.zero_le _⟩) hS hAd (fun r36 S36 H locs hw hP _ hS => ?_)
        obtain ⟨er36, eS36⟩ := hw
        rw [eS36] at hP
        refine lv_icmp_ge (tgt := 62) hx hb dX6_least_39 (by decide) (fun c39 => ?_) (fun c39 => ?_)
        · have d39 := Int32.not_lt.mpr c39
          refine lv_iinc (v := nI (i + 1)) (lv' := [(2, .int (nI (i + 1))), (0, .ref (bd 0)), (1, .int (nI k))]) hx hb dX6_least_62 hl (k := 2) rfl (nI_1 _) (by decide) rfl (fun ls hl => ?_)
          refine lv_goto (tgt := 15) hx hb dX6_least_65 (by decide) ?_
          exact ih (i + 1) (nI k) g (by omega) hg ha (hv.trans (congrArg (lstL pcM (fun i => decide (mBrk (sr S 13 (askG S N (nI i))) N C Y = -9)) n (i + 1)) (show (if (nI k) = -9 ∨ pcM (nI i) < pcM (nI k) then (if (fun i => decide (mBrk (sr S 13 (askG S N (nI i))) N C Y = -9)) i = true then nI i else (nI k)) else (nI k)) = nI k from by subst er32; subst er36; first | (simp [pcM, nN_nI (show i < 2 ^ 31 by omega), c28, gk, c39, d39]; done) | grind))) H locs ls hP hS (lv_sub hl [1, 2, 0] rfl)
        · have d39 := Int32.not_le.mp c39
          refine lv_aload_n hx hb dX6_least_42 rfl (lv_at hl 0 rfl) ?_
          refine lv_iload_n hx hb dX6_least_43 rfl (lv_at hl 2 rfl) ?_
          refine x_callv (x_runV (As := [.int (nI i)]) (rest := []) hF (c6_askSet hI (sr S 13 g) N hN hN5 (nI i) ) (cwV 1 hts gX6_least_X6_askSet rfl rfl rfl (by decide +kernel) ⟨Nat.le_of_ble_eq_true rfl, Nat.le_of_ble_eq_true rfl⟩) hK hP (by decide) rfl rfl rfl hl.1 rfl (Nat.le_of_ble_eq_true rfl) dX6_least_44 ⟨Nat.zero_le _, Nat.zero_le _⟩) hS hAd (fun S44 H locs hw hP _ hS => ?_)
          rw [hw] at hP
          rw [askG_eq hg, sr_sr] at hP
          refine lv_aload_n hx hb dX6_least_47 rfl (lv_at hl 0 rfl) ?_
          refine x_calli (x_runV (As := []) (rest := []) hF (c6_breakYear hI (sr S 13 (askG S N (nI i))) N hN hN5 C hC hC4 Y hY hY6 ) (cwV 0 hts gX6_least_X6_breakYear rfl rfl rfl (by decide +kernel) ⟨Nat.le_of_ble_eq_true rfl, Nat.le_of_ble_eq_true rfl⟩) hK hP (by decide) rfl rfl rfl hl.1 rfl (Nat.le_of_ble_eq_true rfl) dX6_least_48 ⟨Nat.zero_le _, Nat.zero_le _⟩) hS hAd (fun r48 S48 H locs hw hP _ hS => ?_)
          obtain ⟨er48, eS48⟩ := hw
          rw [eS48] at hP
          refine lv_bipush (v := (-9)) hx hb dX6_least_51 (by decide +kernel) ?_
          refine lv_icmp_ne (tgt := 60) hx hb dX6_least_53 (by decide) (fun c53 => ?_) (fun c53 => ?_)
          · refine lv_iload_n hx hb dX6_least_60 rfl (lv_at hl 1 rfl) ?_
            refine lv_istore_n (lv' := [(1, .int (nI k)), (0, .ref (bd 0)), (2, .int (nI i))]) hx hb dX6_least_61 rfl hl (by decide) rfl (fun ls hl => ?_)
            refine lv_iinc (v := nI (i + 1)) (lv' := [(2, .int (nI (i + 1))), (1, .int (nI k)), (0, .ref (bd 0))]) hx hb dX6_least_62 hl (k := 2) rfl (nI_1 _) (by decide) rfl (fun ls hl => ?_)
            refine lv_goto (tgt := 15) hx hb dX6_least_65 (by decide) ?_
            exact ih (i + 1) (nI k) (askG S N (nI i)) (by omega) (fun s hs => askG_out hs) ha (hv.trans (congrArg (lstL pcM (fun i => decide (mBrk (sr S 13 (askG S N (nI i))) N C Y = -9)) n (i + 1)) (show (if (nI k) = -9 ∨ pcM (nI i) < pcM (nI k) then (if (fun i => decide (mBrk (sr S 13 (askG S N (nI i))) N C Y = -9)) i = true then nI i else (nI k)) else (nI k)) = nI k from by subst er32; subst er36; subst er48; first | (simp [pcM, nN_nI (show i < 2 ^ 31 by omega), c28, gk, c39, d39, c53]; done) | grind))) H locs ls hP hS (lv_sub hl [2, 1, 0] rfl)
          · refine lv_iload_n hx hb dX6_least_56 rfl (lv_at hl 2 rfl) ?_
            refine lv_goto (tgt := 61) hx hb dX6_least_57 (by decide) ?_
            refine lv_istore_n (lv' := [(1, .int (nI i)), (0, .ref (bd 0)), (2, .int (nI i))]) hx hb dX6_least_61 rfl hl (by decide) rfl (fun ls hl => ?_)
            refine lv_iinc (v := nI (i + 1)) (lv' := [(2, .int (nI (i + 1))), (1, .int (nI i)), (0, .ref (bd 0))]) hx hb dX6_least_62 hl (k := 2) rfl (nI_1 _) (by decide) rfl (fun ls hl => ?_)
            refine lv_goto (tgt := 15) hx hb dX6_least_65 (by decide) ?_
            exact ih (i + 1) (nI i) (askG S N (nI i)) (by omega) (fun s hs => askG_out hs) (Or.inr ⟨i, by omega, rfl⟩) (hv.trans (congrArg (lstL pcM (fun i => decide (mBrk (sr S 13 (askG S N (nI i))) N C Y = -9)) n (i + 1)) (show (if (nI k) = -9 ∨ pcM (nI i) < pcM (nI k) then (if (fun i => decide (mBrk (sr S 13 (askG S N (nI i))) N C Y = -9)) i = true then nI i else (nI k)) else (nI k)) = nI i from by subst er32; subst er36; subst er48; first | (simp [pcM, nN_nI (show i < 2 ^ 31 by omega), c28, gk, c39, d39, c53]; done) | grind))) H locs ls hP hS (lv_sub hl [2, 1, 0] rfl)
  refine lv_aload_n hx hb dX6_least_0 rfl (lv_at hl 0 rfl) ?_
  refine x_get (v := .int (nI C)) hx hb hts hinX6 hown hK hP 0 (by decide) rfl rfl 5 (by decide) (hts _ (List.mem_of_getElem? (i := 1) rfl)) (congrArg (fun z => some (Value.int z)) hC) dX6_least_1 ?_
  refine lv_if_ne (tgt := 10) hx hb dX6_least_4 (by decide) (fun _ => ?_) (fun hc => absurd hc (nI_ne0 hC0 (by omega)))
  refine lv_bipush (v := (-9)) hx hb dX6_least_10 (by decide +kernel) ?_
  refine lv_istore_n (lv' := [(1, .int (-9)), (0, .ref (bd 0))]) hx hb dX6_least_12 rfl hl (by decide) rfl (fun ls hl => ?_)
  refine lv_iconst (v := 0) hx hb dX6_least_13 (by decide +kernel) ?_
  refine lv_istore_n (lv' := [(2, .int 0), (1, .int (-9)), (0, .ref (bd 0))]) hx hb dX6_least_14 rfl hl (by decide) rfl (fun ls hl => ?_)
  have hP : va_P (dC, dI) vwCl (xW (mLy cI cZ bd) 18 bd (sr S 13 (S 13))) s.heap := by rw [sr_same]; exact hP
  exact L15 (2 ^ N) 0 (-9) (S 13) (Nat.zero_add _) (fun _ _ => rfl) (Or.inl rfl) rfl _ _ ls hP hS (lv_sub hl [2, 1, 0] rfl)

set_option maxHeartbeats 4000000 in
set_option maxRecDepth 100000 in
theorem c6_least_f (hI : xI 18 bd) (S : xSt) (hno : S 0 5 = 0) : xMi l yX6_least wsX6_least ({ frames := 5, cells := 0, slots := 0, locals := 114 }) (dC, dI) vwCl (tyl cI cZ cS cG) (mLy cI cZ bd) 18 bd [.ref (bd 0)] S (fun r S' => r = -3 ∧ S' = S) := by
  refine xM_of (cc := cX6_least) (nL := 3) (ret := (some .int)) (by decide) rfl (Nat.le_of_ble_eq_true rfl) ?_
  intro p e s m below meth c ls B hl hK hP
  obtain ⟨hx, hb, hml, hown, hts, hr, hlocks⟩ := B
  have hl : lv_has ls 3 [(0, .ref (bd 0))] := hl
  have hS : va_S (xA 18 bd) s.heap s.heap [] := va_S.rf
  have hAd : ∀ k, k < 18 → xA 18 bd (bd k) := xA_in
  have hinX6 : ∀ w ∈ wsX60, w ∈ wsX6_least := fun _ h => List.mem_cons_of_mem _ (List.mem_append_right _ h)
  have hF : CallFix p m c cX6_least 3 s _ wsX6_least RX6 := ⟨hx, hb, hml, hown, hts⟩
  refine lv_aload_n hx hb dX6_least_0 rfl (lv_at hl 0 rfl) ?_
  refine x_get (v := .int (S 0 5)) hx hb hts hinX6 hown hK hP 0 (by decide) rfl rfl 5 (by decide) (hts _ (List.mem_of_getElem? (i := 1) rfl)) rfl dX6_least_1 ?_
  refine lv_if_ne (tgt := 10) hx hb dX6_least_4 (by decide) (fun hc => absurd (hno) hc) (fun _ => ?_)
  refine lv_bipush (v := (-3)) hx hb dX6_least_7 (by decide +kernel) ?_
  refine x_iret hx hb hr hlocks hP hS dX6_least_9 ?_
  exact ⟨rfl, rfl⟩

set_option maxHeartbeats 4000000 in
set_option maxRecDepth 100000 in
theorem c6_inLeastTerms (hI : xI 18 bd) (S : xSt) (a b : Nat) (wn : Int32) (ha : a ≤ 32) (hb1 : b ≤ 32) (hb0 : 0 < b) : xMl l yX6_inLeastTerms wsX6_inLeastTerms ({ frames := 0, cells := 0, slots := 0, locals := 0 }) (dC, dI) vwCl (tyl cI cZ cS cG) (mLy cI cZ bd) 18 bd [.long (lN a), .long (lN b), .int wn] S (fun r S' => r = (if wn = 0 then lN (a / euc 64 a b) else lN (b / euc 64 a b)) ∧ S' = S) := by
  refine xM_of (cc := cX6_inLeastTerms) (nL := 11) (ret := (some .long)) (by decide) rfl (Nat.le_of_ble_eq_true rfl) ?_
  intro p e s m below meth c ls B hl hK hP
  obtain ⟨hx, hb, hml, hown, hts, hr, hlocks⟩ := B
  have hl : lv_has ls 11 [(0, .long (lN a)), (2, .long (lN b)), (4, .int wn)] := hl
  have hS : va_S (xA 18 bd) s.heap s.heap [] := va_S.rf
  have hAd : ∀ k, k < 18 → xA 18 bd (bd k) := xA_in
  have hF : CallFix p m c cX6_inLeastTerms 11 s _ wsX6_inLeastTerms RX6 := ⟨hx, hb, hml, hown, hts⟩
  have L6 : ∀ (n : Nat) (x : Nat) (y : Nat) (hy : y < n) (hn : n ≤ 64) (hx1 : x ≤ 64) (hp : 0 < x ∨ 0 < y) (hv : euc 64 a b = euc n x y) (H : Heap) (locs : List Loc) (ls : Array Slot), va_P (dC, dI) vwCl (xW (mLy cI cZ bd) 18 bd S) H → va_S (xA 18 bd) s.heap H locs → lv_has ls 11 [(0, .long (lN a)), (2, .long (lN b)), (4, .int wn), (5, .long (lN x)), (7, .long (lN y))] → W p l e ({ frames := 0, cells := 0, slots := 0, locals := 0 }) s m ([.long (lN a), .long (lN b), .int wn] : List Value).toArray below meth c H locs 0 0 (MQ below (xQl (dC, dI) vwCl (mLy cI cZ bd) 18 bd (fun r S' => r = (if wn = 0 then lN (a / euc 64 a b) else lN (b / euc 64 a b)) ∧ S' = S)) ([.long (lN a), .long (lN b), .int wn] : List Value).toArray s 0 0 (xA 18 bd)) (F0 m 6 ls []) := by
    intro n
    induction n with
    | zero =>
      intro x y hy hn hx1 hp hv H locs ls hP hS hl
      exact absurd hy (Nat.not_lt_zero _)
    | succ n ih =>
      intro x y hy hn hx1 hp hv H locs ls hP hS hl
      refine lv_lload hx hb dX6_inLeastTerms_6 (lv_at hl 4 rfl) ?_
      refine lv_lconst (v := 0) hx hb dX6_inLeastTerms_8 (by decide +kernel) ?_
      refine W.lcmp hx hb dX6_inLeastTerms_9 ?_
      refine lv_if_eq (tgt := 31) hx hb dX6_inLeastTerms_10 (by decide) (fun c10 => ?_) (fun c10 => ?_)
      · have hy0 : y = 0 := (lcmp0 (by omega)).mp c10
        have hx0 : 0 < x := by omega
        have hg : euc 64 a b = x := by rw [hv, euc, if_pos hy0]
        refine lv_iload hx hb dX6_inLeastTerms_31 (lv_at hl 2 rfl) ?_
        refine lv_if_ne (tgt := 43) hx hb dX6_inLeastTerms_33 (by decide) (fun c33 => ?_) (fun c33 => ?_)
        · refine lv_lload_n hx hb dX6_inLeastTerms_43 rfl (lv_at hl 1 rfl) ?_
          refine lv_lload hx hb dX6_inLeastTerms_44 (lv_at hl 3 rfl) ?_
          refine lv_ldiv hx hb dX6_inLeastTerms_46 (lN_ne0 hx0 (by omega)) ?_
          refine x_lret hx hb hr hlocks hP hS dX6_inLeastTerms_47 ?_
          exact ⟨by rw [hg, pk_lDiv (by omega) hx0 (by omega)]; simp [c10, c33], rfl⟩
        · refine lv_lload_n hx hb dX6_inLeastTerms_36 rfl (lv_at hl 0 rfl) ?_
          refine lv_lload hx hb dX6_inLeastTerms_37 (lv_at hl 3 rfl) ?_
          refine lv_ldiv hx hb dX6_inLeastTerms_39 (lN_ne0 hx0 (by omega)) ?_
          refine lv_goto (tgt := 47) hx hb dX6_inLeastTerms_40 (by decide) ?_
          refine x_lret hx hb hr hlocks hP hS dX6_inLeastTerms_47 ?_
          exact ⟨by rw [hg, pk_lDiv (by omega) hx0 (by omega)]; simp [c10, c33], rfl⟩
      · have hy0 : ¬ y = 0 := fun z => c10 ((lcmp0 (by omega)).mpr z)
        have hm : x % y < y := Nat.mod_lt x (by omega)
        refine lv_lload hx hb dX6_inLeastTerms_13 (lv_at hl 3 rfl) ?_
        refine lv_lload hx hb dX6_inLeastTerms_15 (lv_at hl 4 rfl) ?_
        refine lv_lrem hx hb dX6_inLeastTerms_17 (lN_ne0 (by omega) (by omega)) ?_
        refine lv_topl (fun x18 ex18 => ?_)
        obtain rfl : x18 = lN (x % y) := by rw [ex18]; exact pk_lRem (by omega) (by omega) (by omega)
        refine lv_lstore (lv' := [(9, .long (lN (x % y))), (0, .long (lN a)), (2, .long (lN b)), (4, .int wn), (5, .long (lN x)), (7, .long (lN y))]) hx hb dX6_inLeastTerms_18 hl (by decide) rfl (fun ls hl => ?_)
        refine lv_lload hx hb dX6_inLeastTerms_20 (lv_at hl 5 rfl) ?_
        refine lv_lstore (lv' := [(5, .long (lN y)), (9, .long (lN (x % y))), (0, .long (lN a)), (2, .long (lN b)), (4, .int wn), (7, .long (lN y))]) hx hb dX6_inLeastTerms_22 hl (by decide) rfl (fun ls hl => ?_)
        refine lv_lload hx hb dX6_inLeastTerms_24 (lv_at hl 1 rfl) ?_
        refine lv_lstore (lv' := [(7, .long (lN (x % y))), (5, .long (lN y)), (9, .long (lN (x % y))), (0, .long (lN a)), (2, .long (lN b)), (4, .int wn)]) hx hb dX6_inLeastTerms_26 hl (by decide) rfl (fun ls hl => ?_)
        refine lv_goto (tgt := 6) hx hb dX6_inLeastTerms_28 (by decide) ?_
        exact ih y (x % y) (by omega) (by omega) (by omega) (Or.inl (by omega)) (hv.trans (by rw [euc, if_neg hy0])) H locs ls hP hS (lv_sub hl [3, 4, 5, 1, 0] rfl)
  refine lv_lload_n hx hb dX6_inLeastTerms_0 rfl (lv_at hl 0 rfl) ?_
  refine lv_lstore (lv' := [(5, .long (lN a)), (0, .long (lN a)), (2, .long (lN b)), (4, .int wn)]) hx hb dX6_inLeastTerms_1 hl (by decide) rfl (fun ls hl => ?_)
  refine lv_lload_n hx hb dX6_inLeastTerms_3 rfl (lv_at hl 2 rfl) ?_
  refine lv_lstore (lv' := [(7, .long (lN b)), (5, .long (lN a)), (0, .long (lN a)), (2, .long (lN b)), (4, .int wn)]) hx hb dX6_inLeastTerms_4 hl (by decide) rfl (fun ls hl => ?_)
  exact L6 64 a b (by omega) (Nat.le_refl _) (by omega) (Or.inr hb0) rfl _ _ ls hP hS (lv_sub hl [2, 3, 4, 1, 0] rfl)

set_option maxHeartbeats 4000000 in
set_option maxRecDepth 100000 in
theorem c6_tellPlan (hI : xI 18 bd) (S : xSt) (N : Nat) (hN : S 0 7 = nI N) (hN5 : N ≤ 5) (C : Nat) (hC : S 0 5 = nI C) (hC4 : C ≤ 4) (Y : Nat) (hY : S 0 6 = nI Y) (hY6 : Y ≤ 6) (wn : Int32) : xMi l yX6_tellPlan wsX6_tellPlan ({ frames := 6, cells := 0, slots := 0, locals := 136 }) (dC, dI) vwCl (tyl cI cZ cS cG) (mLy cI cZ bd) 18 bd [.ref (bd 0), .int wn] S (fun r S' => r = (if wn = 0 then mBrk S N C Y else if wn = 1 then mBC S N C Y else if wn = 2 then sumL (fun s => if S 13 s < S 0 6 then 1 else 0) N 0 0 else if inR (wn - 10) (S 0 5) then sumL (stk (S 6) (S 7) (S 8) (S 5) (S 13) (wn - 10) (S 0 6 - 1)) N 0 0 else -9) ∧ S' = S) := by
  refine xM_of (cc := cX6_tellPlan) (nL := 4) (ret := (some .int)) (by decide) rfl (Nat.le_of_ble_eq_true rfl) ?_
  intro p e s m below meth c ls B hl hK hP
  obtain ⟨hx, hb, hml, hown, hts, hr, hlocks⟩ := B
  have hl : lv_has ls 4 [(0, .ref (bd 0)), (1, .int wn)] := hl
  have hS : va_S (xA 18 bd) s.heap s.heap [] := va_S.rf
  have hAd : ∀ k, k < 18 → xA 18 bd (bd k) := xA_in
  have hinX6 : ∀ w ∈ wsX60, w ∈ wsX6_tellPlan := fun _ h => List.mem_cons_of_mem _ (List.mem_append_right _ h)
  have hF : CallFix p m c cX6_tellPlan 4 s _ wsX6_tellPlan RX6 := ⟨hx, hb, hml, hown, hts⟩
  have L28 : ∀ (n : Nat) (i : Nat) (a : Int32) (h0 : ¬ wn = 0) (h1 : ¬ wn = 1) (h2 : wn = 2) (hi : i + n = N) (hv : sumL (fun s => if S 13 s < S 0 6 then (1 : Int32) else 0) N 0 0 = sumL (fun s => if S 13 s < S 0 6 then (1 : Int32) else 0) n i a) (H : Heap) (locs : List Loc) (ls : Array Slot), va_P (dC, dI) vwCl (xW (mLy cI cZ bd) 18 bd S) H → va_S (xA 18 bd) s.heap H locs → lv_has ls 4 [(0, .ref (bd 0)), (1, .int wn), (2, .int a), (3, .int (nI i))] → W p l e ({ frames := 6, cells := 0, slots := 0, locals := 136 }) s m ([.ref (bd 0), .int wn] : List Value).toArray below meth c H locs 0 0 (MQ below (xQi (dC, dI) vwCl (mLy cI cZ bd) 18 bd (fun r S' => r = (if wn = 0 then mBrk S N C Y else if wn = 1 then mBC S N C Y else if wn = 2 then sumL (fun s => if S 13 s < S 0 6 then 1 else 0) N 0 0 else if inR (wn - 10) (S 0 5) then sumL (stk (S 6) (S 7) (S 8) (S 5) (S 13) (wn - 10) (S 0 6 - 1)) N 0 0 else -9) ∧ S' = S)) ([.ref (bd 0), .int wn] : List Value).toArray s 0 0 (xA 18 bd)) (F0 m 28 ls []) := by
    intro n
    induction n with
    | zero =>
      intro i a h0 h1 h2 hi hv H locs ls hP hS hl
      refine lv_iload_n hx hb dX6_tellPlan_28 rfl (lv_at hl 3 rfl) ?_
      refine lv_aload_n hx hb dX6_tellPlan_29 rfl (lv_at hl 0 rfl) ?_
      refine x_get (v := .int (nI N)) hx hb hts hinX6 hown hK hP 0 (by decide) rfl rfl 7 (by decide) (hts _ (List.mem_of_getElem? (i := 1) rfl)) (congrArg (fun z => some (Value.int z)) hN) dX6_tellPlan_30 ?_
      refine lv_icmp_ge (tgt := 63) hx hb dX6_tellPlan_33 (by decide) (fun _ => ?_) (fun hc => absurd (nI_le (by omega) (by omega)) hc)
      refine lv_iload_n hx hb dX6_tellPlan_63 rfl (lv_at hl 2 rfl) ?_
      refine x_iret hx hb hr hlocks hP hS dX6_tellPlan_64 ?_
      exact ⟨by rw [if_neg h0, if_neg h1, if_pos h2]; exact hv.symm, rfl⟩
    | succ n ih =>
      intro i a h0 h1 h2 hi hv H locs ls hP hS hl
      refine lv_iload_n hx hb dX6_tellPlan_28 rfl (lv_at hl 3 rfl) ?_
      refine lv_aload_n hx hb dX6_tellPlan_29 rfl (lv_at hl 0 rfl) ?_
      refine x_get (v := .int (nI N)) hx hb hts hinX6 hown hK hP 0 (by decide) rfl rfl 7 (by decide) (hts _ (List.mem_of_getElem? (i := 1) rfl)) (congrArg (fun z => some (Value.int z)) hN) dX6_tellPlan_30 ?_
      refine lv_icmp_ge (tgt := 63) hx hb dX6_tellPlan_33 (by decide) (fun hc => absurd hc (nI_ge (by omega) (by omega))) (fun _ => ?_)
      refine lv_iload_n hx hb dX6_tellPlan_36 rfl (lv_at hl 2 rfl) ?_
      refine lv_aload_n hx hb dX6_tellPlan_37 rfl (lv_at hl 0 rfl) ?_
      refine x_get (v := .ref (bd 13)) hx hb hts hinX6 hown hK hP 0 (by decide) rfl rfl 21 (by decide) (hts _ (List.mem_of_getElem? (i := 2) rfl)) rfl dX6_tellPlan_38 ?_
      refine lv_iload_n hx hb dX6_tellPlan_41 rfl (lv_at hl 3 rfl) ?_
      refine x_iald (v := S 13 i) hx hb hK hP 13 0 (by decide) rfl rfl i rfl (by omega) (by decide) rfl dX6_tellPlan_42 ?_
      refine lv_aload_n hx hb dX6_tellPlan_43 rfl (lv_at hl 0 rfl) ?_
      refine x_get (v := .int (S 0 6)) hx hb hts hinX6 hown hK hP 0 (by decide) rfl rfl 6 (by decide) (hts _ (List.mem_of_getElem? (i := 3) rfl)) rfl dX6_tellPlan_44 ?_
      refine lv_icmp_ge (tgt := 54) hx hb dX6_tellPlan_47 (by decide) (fun c47 => ?_) (fun c47 => ?_)
      · have d47 := Int32.not_lt.mpr c47
        refine lv_iconst (v := 0) hx hb dX6_tellPlan_54 (by decide +kernel) ?_
        refine lv_iadd hx hb dX6_tellPlan_55 ?_
        refine lv_topi (fun x56 ex56 => ?_)
        refine lv_istore_n (lv' := [(2, .int x56), (0, .ref (bd 0)), (1, .int wn), (3, .int (nI i))]) hx hb dX6_tellPlan_56 rfl hl (by decide) rfl (fun ls hl => ?_)
        refine lv_iinc (v := nI (i + 1)) (lv' := [(3, .int (nI (i + 1))), (2, .int x56), (0, .ref (bd 0)), (1, .int wn)]) hx hb dX6_tellPlan_57 hl (k := 3) rfl (nI_1 _) (by decide) rfl (fun ls hl => ?_)
        refine lv_goto (tgt := 28) hx hb dX6_tellPlan_60 (by decide) ?_
        exact ih (i + 1) x56 h0 h1 h2 (by omega) (hv.trans (congrArg (sumL (fun s => if S 13 s < S 0 6 then (1 : Int32) else 0) n (i + 1)) (show a + (if S 13 i < S 0 6 then (1 : Int32) else 0) = x56 from by subst ex56; simp [c47, d47]))) H locs ls hP hS (lv_sub hl [2, 3, 1, 0] rfl)
      · have d47 := Int32.not_le.mp c47
        refine lv_iconst (v := 1) hx hb dX6_tellPlan_50 (by decide +kernel) ?_
        refine lv_goto (tgt := 55) hx hb dX6_tellPlan_51 (by decide) ?_
        refine lv_iadd hx hb dX6_tellPlan_55 ?_
        refine lv_topi (fun x56 ex56 => ?_)
        refine lv_istore_n (lv' := [(2, .int x56), (0, .ref (bd 0)), (1, .int wn), (3, .int (nI i))]) hx hb dX6_tellPlan_56 rfl hl (by decide) rfl (fun ls hl => ?_)
        refine lv_iinc (v := nI (i + 1)) (lv' := [(3, .int (nI (i + 1))), (2, .int x56), (0, .ref (bd 0)), (1, .int wn)]) hx hb dX6_tellPlan_57 hl (k := 3) rfl (nI_1 _) (by decide) rfl (fun ls hl => ?_)
        refine lv_goto (tgt := 28) hx hb dX6_tellPlan_60 (by decide) ?_
        exact ih (i + 1) x56 h0 h1 h2 (by omega) (hv.trans (congrArg (sumL (fun s => if S 13 s < S 0 6 then (1 : Int32) else 0) n (i + 1)) (show a + (if S 13 i < S 0 6 then (1 : Int32) else 0) = x56 from by subst ex56; simp [c47, d47]))) H locs ls hP hS (lv_sub hl [2, 3, 1, 0] rfl)
  refine lv_iload_n hx hb dX6_tellPlan_0 rfl (lv_at hl 1 rfl) ?_
  refine lv_if_ne (tgt := 9) hx hb dX6_tellPlan_1 (by decide) (fun c1 => ?_) (fun c1 => ?_)
  · refine lv_iload_n hx hb dX6_tellPlan_9 rfl (lv_at hl 1 rfl) ?_
    refine lv_iconst (v := 1) hx hb dX6_tellPlan_10 (by decide +kernel) ?_
    refine lv_icmp_ne (tgt := 19) hx hb dX6_tellPlan_11 (by decide) (fun c11 => ?_) (fun c11 => ?_)
    · refine lv_iload_n hx hb dX6_tellPlan_19 rfl (lv_at hl 1 rfl) ?_
      refine lv_iconst (v := 2) hx hb dX6_tellPlan_20 (by decide +kernel) ?_
      refine lv_icmp_ne (tgt := 65) hx hb dX6_tellPlan_21 (by decide) (fun c21 => ?_) (fun c21 => ?_)
      · refine lv_aload_n hx hb dX6_tellPlan_65 rfl (lv_at hl 0 rfl) ?_
        refine lv_iload_n hx hb dX6_tellPlan_66 rfl (lv_at hl 1 rfl) ?_
        refine lv_bipush (v := 10) hx hb dX6_tellPlan_67 (by decide +kernel) ?_
        refine lv_isub hx hb dX6_tellPlan_69 ?_
        refine x_calli (x_runV (As := [.int (wn - 10)]) (rest := []) hF (c6_isCourt hI S (wn - 10) ) (cwV 1 hts gX6_tellPlan_X6_isCourt rfl rfl rfl (by decide +kernel) ⟨Nat.le_of_ble_eq_true rfl, Nat.le_of_ble_eq_true rfl⟩) hK hP (by decide) rfl rfl rfl hl.1 rfl (Nat.le_of_ble_eq_true rfl) dX6_tellPlan_70 ⟨Nat.zero_le _, Nat.zero_le _⟩) hS hAd (fun r70 S70 H locs hw hP _ hS => ?_)
        obtain ⟨hw, eS70⟩ := hw
        rw [eS70] at hP
        by_cases q70 : inR (wn - 10) (S 0 5) = true
        · have hw : r70 = 1 := hw.trans (if_pos q70)
          subst hw
          refine lv_if_eq (tgt := 93) hx hb dX6_tellPlan_73 (by decide) (fun hc => absurd hc (by decide)) (fun _ => ?_)
          refine lv_aload_n hx hb dX6_tellPlan_76 rfl (lv_at hl 0 rfl) ?_
          refine lv_iload_n hx hb dX6_tellPlan_77 rfl (lv_at hl 1 rfl) ?_
          refine lv_bipush (v := 10) hx hb dX6_tellPlan_78 (by decide +kernel) ?_
          refine lv_isub hx hb dX6_tellPlan_80 ?_
          refine lv_aload_n hx hb dX6_tellPlan_81 rfl (lv_at hl 0 rfl) ?_
          refine x_get (v := .int (S 0 6)) hx hb hts hinX6 hown hK hP 0 (by decide) rfl rfl 6 (by decide) (hts _ (List.mem_of_getElem? (i := 3) rfl)) rfl dX6_tellPlan_82 ?_
          refine lv_iconst (v := 1) hx hb dX6_tellPlan_85 (by decide +kernel) ?_
          refine lv_isub hx hb dX6_tellPlan_86 ?_
          refine x_calli (x_runV (As := [.int (wn - 10), .int ((S 0 6) - 1)]) (rest := []) hF (c6_stakesBy hI S N hN hN5 (wn - 10) ((S 0 6) - 1) ) (cwV 2 hts gX6_tellPlan_X6_stakesBy rfl rfl rfl (by decide +kernel) ⟨Nat.le_of_ble_eq_true rfl, Nat.le_of_ble_eq_true rfl⟩) hK hP (by decide) rfl rfl rfl hl.1 rfl (Nat.le_of_ble_eq_true rfl) dX6_tellPlan_87 ⟨Nat.zero_le _, Nat.zero_le _⟩) hS hAd (fun r87 S87 H locs hw hP _ hS => ?_)
          obtain ⟨er87, eS87⟩ := hw
          rw [eS87] at hP
          refine lv_goto (tgt := 95) hx hb dX6_tellPlan_90 (by decide) ?_
          refine x_iret hx hb hr hlocks hP hS dX6_tellPlan_95 ?_
          subst er87
          exact ⟨by first | (simp [su_su, su_at, c1, c11, c21, q70]; done) | ( simp [su_su, su_at, c1, c11, c21, q70]; done) | grind, rfl⟩
        · have hw : r70 = 0 := hw.trans (if_neg q70)
          subst hw
          refine lv_if_eq (tgt := 93) hx hb dX6_tellPlan_73 (by decide) (fun _ => ?_) (fun hc => absurd (by decide) hc)
          refine lv_bipush (v := (-9)) hx hb dX6_tellPlan_93 (by decide +kernel) ?_
          refine x_iret hx hb hr hlocks hP hS dX6_tellPlan_95 ?_
          skip
          exact ⟨by first | (simp [su_su, su_at, c1, c11, c21, q70]; done) | ( simp [su_su, su_at, c1, c11, c21, q70]; done) | grind, rfl⟩
      · refine lv_iconst (v := 0) hx hb dX6_tellPlan_24 (by decide +kernel) ?_
        refine lv_istore_n (lv' := [(2, .int 0), (0, .ref (bd 0)), (1, .int wn)]) hx hb dX6_tellPlan_25 rfl hl (by decide) rfl (fun ls hl => ?_)
        refine lv_iconst (v := 0) hx hb dX6_tellPlan_26 (by decide +kernel) ?_
        refine lv_istore_n (lv' := [(3, .int 0), (2, .int 0), (0, .ref (bd 0)), (1, .int wn)]) hx hb dX6_tellPlan_27 rfl hl (by decide) rfl (fun ls hl => ?_)
        exact L28 N 0 0 c1 c11 c21 (Nat.zero_add N) rfl _ _ ls hP hS (lv_sub hl [2, 3, 1, 0] rfl)
    · refine lv_aload_n hx hb dX6_tellPlan_14 rfl (lv_at hl 0 rfl) ?_
      refine x_calli (x_runV (As := []) (rest := []) hF (c6_breakCourt hI S N hN hN5 C hC hC4 Y hY hY6 ) (cwV 0 hts gX6_tellPlan_X6_breakCourt rfl rfl rfl (by decide +kernel) ⟨Nat.le_of_ble_eq_true rfl, Nat.le_of_ble_eq_true rfl⟩) hK hP (by decide) rfl rfl rfl hl.1 rfl (Nat.le_of_ble_eq_true rfl) dX6_tellPlan_15 ⟨Nat.zero_le _, Nat.zero_le _⟩) hS hAd (fun r15 S15 H locs hw hP _ hS => ?_)
      obtain ⟨er15, eS15⟩ := hw
      rw [eS15] at hP
      refine x_iret hx hb hr hlocks hP hS dX6_tellPlan_18 ?_
      subst er15
      exact ⟨by first | (simp [su_su, su_at, c1, c11]; done) | (subst c11; simp [su_su, su_at, c1]; done) | grind, rfl⟩
  · refine lv_aload_n hx hb dX6_tellPlan_4 rfl (lv_at hl 0 rfl) ?_
    refine x_calli (x_runV (As := []) (rest := []) hF (c6_breakYear hI S N hN hN5 C hC hC4 Y hY hY6 ) (cwV 0 hts gX6_tellPlan_X6_breakYear rfl rfl rfl (by decide +kernel) ⟨Nat.le_of_ble_eq_true rfl, Nat.le_of_ble_eq_true rfl⟩) hK hP (by decide) rfl rfl rfl hl.1 rfl (Nat.le_of_ble_eq_true rfl) dX6_tellPlan_5 ⟨Nat.zero_le _, Nat.zero_le _⟩) hS hAd (fun r5 S5 H locs hw hP _ hS => ?_)
    obtain ⟨er5, eS5⟩ := hw
    rw [eS5] at hP
    refine x_iret hx hb hr hlocks hP hS dX6_tellPlan_8 ?_
    subst er5
    exact ⟨by first | (simp [su_su, su_at, c1]; done) | (subst c1; simp [su_su, su_at, ]; done) | grind, rfl⟩

end M5
