section C5
variable {l : Launch} {dC : Nat → ClassId} {dI : Nat → Nat → Nat} {cI cZ cS cG : ClassId} {ad bd : Nat → Nat}
set_option maxHeartbeats 4000000 in
set_option maxRecDepth 100000 in
theorem c5_isOfPlan (hI : xI 42 ad) (S : xSt) (k : Int32) : xMi l yX5_isOfPlan wsX5_isOfPlan ({ frames := 0, cells := 0, slots := 0, locals := 0 }) (dC, dI) vwCl (tyl cI cZ cS cG) (cLy cI cZ cS cG ad) 42 ad [.int k] S (fun r S' => r = (if ofP k then 1 else 0) ∧ S' = S) := by
  refine xM_of (cc := cX5_isOfPlan) (nL := 1) (ret := (some .boolean)) (by decide) rfl (Nat.le_of_ble_eq_true rfl) ?_
  intro p e s m below meth c ls B hl hK hP
  obtain ⟨hx, hb, hml, hown, hts, hr, hlocks⟩ := B
  have hl : lv_has ls 1 [(0, .int k)] := hl
  have hS : va_S (xA 42 ad) s.heap s.heap [] := va_S.rf
  have hAd : ∀ k, k < 42 → xA 42 ad (ad k) := xA_in
  have hF : CallFix p m c cX5_isOfPlan 1 s _ wsX5_isOfPlan RX5 := ⟨hx, hb, hml, hown, hts⟩
  refine lv_iload_n hx hb dX5_isOfPlan_0 rfl (lv_at hl 0 rfl) ?_
  refine lv_if_lt (tgt := 9) hx hb dX5_isOfPlan_1 (by decide) (fun c1 => ?_) (fun c1 => ?_)
  · have d1 := Int32.not_le.mpr c1
    refine lv_iload_n hx hb dX5_isOfPlan_9 rfl (lv_at hl 0 rfl) ?_
    refine lv_bipush (v := 10) hx hb dX5_isOfPlan_10 (by decide +kernel) ?_
    refine lv_icmp_lt (tgt := 25) hx hb dX5_isOfPlan_12 (by decide) (fun c12 => ?_) (fun c12 => ?_)
    · have d12 := Int32.not_le.mpr c12
      refine lv_iconst (v := 0) hx hb dX5_isOfPlan_25 (by decide +kernel) ?_
      refine x_zret hx hb hr hlocks hP hS dX5_isOfPlan_26 (Or.inl rfl) ?_
      skip
      exact ⟨by first | (simp [ofP, c1, d1, c12, d12]; done) | (simp only [ofP]; grind), rfl⟩
    · have d12 := Int32.not_lt.mp c12
      refine lv_iload_n hx hb dX5_isOfPlan_15 rfl (lv_at hl 0 rfl) ?_
      refine lv_bipush (v := 14) hx hb dX5_isOfPlan_16 (by decide +kernel) ?_
      refine lv_icmp_ge (tgt := 25) hx hb dX5_isOfPlan_18 (by decide) (fun c18 => ?_) (fun c18 => ?_)
      · have d18 := Int32.not_lt.mpr c18
        refine lv_iconst (v := 0) hx hb dX5_isOfPlan_25 (by decide +kernel) ?_
        refine x_zret hx hb hr hlocks hP hS dX5_isOfPlan_26 (Or.inl rfl) ?_
        skip
        exact ⟨by first | (simp [ofP, c1, d1, c12, d12, c18, d18]; done) | (simp only [ofP]; grind), rfl⟩
      · have d18 := Int32.not_le.mp c18
        refine lv_iconst (v := 1) hx hb dX5_isOfPlan_21 (by decide +kernel) ?_
        refine lv_goto (tgt := 26) hx hb dX5_isOfPlan_22 (by decide) ?_
        refine x_zret hx hb hr hlocks hP hS dX5_isOfPlan_26 (Or.inr rfl) ?_
        skip
        exact ⟨by first | (simp [ofP, c1, d1, c12, d12, c18, d18]; done) | (simp only [ofP]; grind), rfl⟩
  · have d1 := Int32.not_lt.mp c1
    refine lv_iload_n hx hb dX5_isOfPlan_4 rfl (lv_at hl 0 rfl) ?_
    refine lv_iconst (v := 2) hx hb dX5_isOfPlan_5 (by decide +kernel) ?_
    refine lv_icmp_le (tgt := 21) hx hb dX5_isOfPlan_6 (by decide) (fun c6 => ?_) (fun c6 => ?_)
    · have d6 := Int32.not_lt.mpr c6
      refine lv_iconst (v := 1) hx hb dX5_isOfPlan_21 (by decide +kernel) ?_
      refine lv_goto (tgt := 26) hx hb dX5_isOfPlan_22 (by decide) ?_
      refine x_zret hx hb hr hlocks hP hS dX5_isOfPlan_26 (Or.inr rfl) ?_
      skip
      exact ⟨by first | (simp [ofP, c1, d1, c6, d6]; done) | (simp only [ofP]; grind), rfl⟩
    · have d6 := Int32.not_le.mp c6
      refine lv_iload_n hx hb dX5_isOfPlan_9 rfl (lv_at hl 0 rfl) ?_
      refine lv_bipush (v := 10) hx hb dX5_isOfPlan_10 (by decide +kernel) ?_
      refine lv_icmp_lt (tgt := 25) hx hb dX5_isOfPlan_12 (by decide) (fun c12 => ?_) (fun c12 => ?_)
      · have d12 := Int32.not_le.mpr c12
        refine lv_iconst (v := 0) hx hb dX5_isOfPlan_25 (by decide +kernel) ?_
        refine x_zret hx hb hr hlocks hP hS dX5_isOfPlan_26 (Or.inl rfl) ?_
        skip
        exact ⟨by first | (simp [ofP, c1, d1, c6, d6, c12, d12]; done) | (simp only [ofP]; grind), rfl⟩
      · have d12 := Int32.not_lt.mp c12
        refine lv_iload_n hx hb dX5_isOfPlan_15 rfl (lv_at hl 0 rfl) ?_
        refine lv_bipush (v := 14) hx hb dX5_isOfPlan_16 (by decide +kernel) ?_
        refine lv_icmp_ge (tgt := 25) hx hb dX5_isOfPlan_18 (by decide) (fun c18 => ?_) (fun c18 => ?_)
        · have d18 := Int32.not_lt.mpr c18
          refine lv_iconst (v := 0) hx hb dX5_isOfPlan_25 (by decide +kernel) ?_
          refine x_zret hx hb hr hlocks hP hS dX5_isOfPlan_26 (Or.inl rfl) ?_
          skip
          exact ⟨by first | (simp [ofP, c1, d1, c6, d6, c12, d12, c18, d18]; done) | (simp only [ofP]; grind), rfl⟩
        · have d18 := Int32.not_le.mp c18
          refine lv_iconst (v := 1) hx hb dX5_isOfPlan_21 (by decide +kernel) ?_
          refine lv_goto (tgt := 26) hx hb dX5_isOfPlan_22 (by decide) ?_
          refine x_zret hx hb hr hlocks hP hS dX5_isOfPlan_26 (Or.inr rfl) ?_
          skip
          exact ⟨by first | (simp [ofP, c1, d1, c6, d6, c12, d12, c18, d18]; done) | (simp only [ofP]; grind), rfl⟩

set_option maxHeartbeats 4000000 in
set_option maxRecDepth 100000 in
theorem c5_tryPlan (hI : xI 42 ad) (S : xSt) (N : Nat) (hN : S 12 2 = nI N) (hN5 : N ≤ 5) (k : Nat) (hk : k < 4) (L : Nat) (hL : S (2 + k) 3 = nI L) (hL60 : L ≤ 60) (a : Nat) (haN : a + N ≤ L) : xMi l yX5_tryPlan wsX5_tryPlan ({ frames := 2, cells := 0, slots := 0, locals := 42 }) (dC, dI) vwCl (tyl cI cZ cS cG) (cLy cI cZ cS cG ad) 42 ad [.ref (ad 0), .ref (ad (2 + k)), .int (nI a)] S (fun r S' => (r = 1 ∧ plOk S k a N = true ∧ S' = sr S 37 (plF S k a N)) ∨ (r = 0 ∧ ¬ plOk S k a N = true ∧ ∃ g, S' = sr S 37 g)) := by
  refine xM_of (cc := cX5_tryPlan) (nL := 5) (ret := (some .boolean)) (by decide) rfl (Nat.le_of_ble_eq_true rfl) ?_
  intro p e s m below meth c ls B hl hK hP
  obtain ⟨hx, hb, hml, hown, hts, hr, hlocks⟩ := B
  have hl : lv_has ls 5 [(0, .ref (ad 0)), (1, .ref (ad (2 + k))), (2, .int (nI a))] := hl
  have hS : va_S (xA 42 ad) s.heap s.heap [] := va_S.rf
  have hAd : ∀ k, k < 42 → xA 42 ad (ad k) := xA_in
  have hinX1 : ∀ w ∈ wsX10, w ∈ wsX5_tryPlan := fun _ h => List.mem_cons_of_mem _ (List.mem_append_left _ (List.mem_append_right _ h))
  have hinX4 : ∀ w ∈ wsX40, w ∈ wsX5_tryPlan := fun _ h => List.mem_cons_of_mem _ (List.mem_append_left _ (List.mem_append_left _ (List.mem_append_right _ h)))
  have hinX5 : ∀ w ∈ wsX50, w ∈ wsX5_tryPlan := fun _ h => List.mem_cons_of_mem _ (List.mem_append_left _ (List.mem_append_left _ (List.mem_append_left _ (List.mem_append_right _ h))))
  have hF : CallFix p m c cX5_tryPlan 5 s _ wsX5_tryPlan RX5 := ⟨hx, hb, hml, hown, hts⟩
  have L9 : ∀ (n : Nat) (i : Nat) (hi : i + n = N) (hv : plOk S k a N = allL (fun s => wit (S (6 + k) (a + s)) 0 (S 12 1)) n i) (H : Heap) (locs : List Loc) (ls : Array Slot), va_P (dC, dI) vwCl (xW (cLy cI cZ cS cG ad) 42 ad (sr S 37 (fil (fun s => S (6 + k) (a + s)) (frG 0 (S 37)) i))) H → va_S (xA 42 ad) s.heap H locs → lv_has ls 5 [(0, .ref (ad 0)), (1, .ref (ad (2 + k))), (2, .int (nI a)), (3, .int (nI i))] → W p l e ({ frames := 2, cells := 0, slots := 0, locals := 42 }) s m ([.ref (ad 0), .ref (ad (2 + k)), .int (nI a)] : List Value).toArray below meth c H locs 0 0 (MQ below (xQi (dC, dI) vwCl (cLy cI cZ cS cG ad) 42 ad (fun r S' => (r = 1 ∧ plOk S k a N = true ∧ S' = sr S 37 (plF S k a N)) ∨ (r = 0 ∧ ¬ plOk S k a N = true ∧ ∃ g, S' = sr S 37 g))) ([.ref (ad 0), .ref (ad (2 + k)), .int (nI a)] : List Value).toArray s 0 0 (xA 42 ad)) (F0 m 9 ls []) := by
    intro n
    induction n with
    | zero =>
      intro i hi hv H locs ls hP hS hl
      refine lv_iload_n hx hb dX5_tryPlan_9 rfl (lv_at hl 3 rfl) ?_
      refine lv_aload_n hx hb dX5_tryPlan_10 rfl (lv_at hl 0 rfl) ?_
      refine x_get (v := .ref (ad 12)) hx hb hts hinX5 hown hK hP 0 (by decide) rfl rfl 2 (by decide) (hts _ (List.mem_of_getElem? (i := 2) rfl)) rfl dX5_tryPlan_11 ?_
      refine x_get (v := .int (nI N)) hx hb hts hinX4 hown hK hP 12 (by decide) rfl rfl 2 (by decide) (hts _ (List.mem_of_getElem? (i := 3) rfl)) (congrArg (fun z => some (Value.int z)) hN) dX5_tryPlan_14 ?_
      refine lv_icmp_ge (tgt := 65) hx hb dX5_tryPlan_17 (by decide) (fun _ => ?_) (fun hc => absurd (nI_le (by omega) (by omega)) hc)
      refine lv_iconst (v := 1) hx hb dX5_tryPlan_65 (by decide +kernel) ?_
      refine x_zret hx hb hr hlocks hP hS dX5_tryPlan_66 (Or.inr rfl) ?_
      exact Or.inl ⟨rfl, hv, by rw [show i = N by omega]; rfl⟩
    | succ n ih =>
      intro i hi hv H locs ls hP hS hl
      have hLr : (sr S 37 (fil (fun s => S (6 + k) (a + s)) (frG 0 (S 37)) i)) (2 + k) 3 = nI L := (congrFun (sr_ne (by omega)) 3).trans hL
      refine lv_iload_n hx hb dX5_tryPlan_9 rfl (lv_at hl 3 rfl) ?_
      refine lv_aload_n hx hb dX5_tryPlan_10 rfl (lv_at hl 0 rfl) ?_
      refine x_get (v := .ref (ad 12)) hx hb hts hinX5 hown hK hP 0 (by decide) rfl rfl 2 (by decide) (hts _ (List.mem_of_getElem? (i := 2) rfl)) rfl dX5_tryPlan_11 ?_
      refine x_get (v := .int (nI N)) hx hb hts hinX4 hown hK hP 12 (by decide) rfl rfl 2 (by decide) (hts _ (List.mem_of_getElem? (i := 3) rfl)) (congrArg (fun z => some (Value.int z)) hN) dX5_tryPlan_14 ?_
      refine lv_icmp_ge (tgt := 65) hx hb dX5_tryPlan_17 (by decide) (fun hc => absurd hc (nI_ge (by omega) (by omega))) (fun _ => ?_)
      refine lv_aload_n hx hb dX5_tryPlan_20 rfl (lv_at hl 1 rfl) ?_
      refine lv_iload_n hx hb dX5_tryPlan_21 rfl (lv_at hl 2 rfl) ?_
      refine lv_iload_n hx hb dX5_tryPlan_22 rfl (lv_at hl 3 rfl) ?_
      refine lv_iadd hx hb dX5_tryPlan_23 ?_
      refine x_calli (x_runV (As := [.int ((nI a) + (nI i))]) (rest := []) hF (c2_at hI (sr S 37 (fil (fun s => S (6 + k) (a + s)) (frG 0 (S 37)) i)) k hk L hLr hL60 (nI a + nI i)) (cwV 1 hts gX5_tryPlan_X2_at rfl rfl rfl (by decide +kernel) ⟨Nat.le_of_ble_eq_true rfl, Nat.le_of_ble_eq_true rfl⟩) hK hP (by omega) (cLy_sheet (by omega) _) rfl rfl hl.1 rfl (Nat.le_of_ble_eq_true rfl) dX5_tryPlan_24 ⟨Nat.zero_le _, Nat.zero_le _⟩) hS hAd (fun r24 S24 H locs hw hP _ hS => ?_)
      obtain ⟨hw, eS24⟩ := hw
      rw [eS24] at hP
      have hw : r24 = S (6 + k) (a + i) := by rw [hw, hLr, nI_add, if_pos (inR_nI (by omega) (by omega)), nN_nI (by omega)]; exact congrFun (sr_ne (by omega)) _
      subst hw
      refine lv_topi (fun x27 ex27 => ?_)
      subst ex27
      refine lv_istore (lv' := [(4, .int (S (6 + k) (a + i))), (0, .ref (ad 0)), (1, .ref (ad (2 + k))), (2, .int (nI a)), (3, .int (nI i))]) hx hb dX5_tryPlan_27 hl (by decide) rfl (fun ls hl => ?_)
      refine lv_iload hx hb dX5_tryPlan_29 (lv_at hl 0 rfl) ?_
      refine lv_if_lt (tgt := 46) hx hb dX5_tryPlan_31 (by decide) (fun c31 => ?_) (fun c31 => ?_)
      · have d31 := Int32.not_le.mpr c31
        refine lv_iconst (v := 0) hx hb dX5_tryPlan_46 (by decide +kernel) ?_
        refine x_zret hx hb hr hlocks hP hS dX5_tryPlan_47 (Or.inl rfl) ?_
        exact Or.inr ⟨rfl, by rw [hv, allL, if_neg (by simp [wit, c31, d31])]; simp, _, rfl⟩
      · have d31 := Int32.not_lt.mp c31
        refine lv_iload hx hb dX5_tryPlan_34 (lv_at hl 0 rfl) ?_
        refine lv_aload_n hx hb dX5_tryPlan_36 rfl (lv_at hl 1 rfl) ?_
        refine x_get (v := .ref (ad 12)) hx hb hts hinX5 hown hK hP 0 (by decide) rfl rfl 2 (by decide) (hts _ (List.mem_of_getElem? (i := 2) rfl)) rfl dX5_tryPlan_37 ?_
        refine x_get (v := .int (S 12 1)) hx hb hts hinX4 hown hK hP 12 (by decide) rfl rfl 1 (by decide) (hts _ (List.mem_of_getElem? (i := 4) rfl)) rfl dX5_tryPlan_40 ?_
        refine lv_icmp_le (tgt := 48) hx hb dX5_tryPlan_43 (by decide) (fun c43 => ?_) (fun c43 => ?_)
        · have d43 := Int32.not_lt.mpr c43
          refine lv_aload_n hx hb dX5_tryPlan_48 rfl (lv_at hl 1 rfl) ?_
          refine x_get (v := .ref (ad 35)) hx hb hts hinX5 hown hK hP 0 (by decide) rfl rfl 5 (by decide) (hts _ (List.mem_of_getElem? (i := 1) rfl)) rfl dX5_tryPlan_49 ?_
          refine x_get (v := .ref (ad 37)) hx hb hts hinX1 hown hK hP 35 (by decide) rfl rfl 1 (by decide) (hts _ (List.mem_of_getElem? (i := 5) rfl)) rfl dX5_tryPlan_52 ?_
          refine lv_iload_n hx hb dX5_tryPlan_55 rfl (lv_at hl 4 rfl) ?_
          refine lv_iload hx hb dX5_tryPlan_56 (lv_at hl 0 rfl) ?_
          refine x_iast hx hb hK hI hAd hP hS 37 0 (by decide) (fun _ => rfl) rfl i rfl (by omega) (by decide) dX5_tryPlan_58 (fun H locs hP hS => ?_)
          refine lv_iinc (v := nI (i + 1)) (lv' := [(3, .int (nI (i + 1))), (4, .int (S (6 + k) (a + i))), (0, .ref (ad 0)), (1, .ref (ad (2 + k))), (2, .int (nI a))]) hx hb dX5_tryPlan_59 hl (k := 4) rfl (nI_1 _) (by decide) rfl (fun ls hl => ?_)
          refine lv_goto (tgt := 9) hx hb dX5_tryPlan_62 (by decide) ?_
          rw [show (su (sr S 37 (fil (fun s => S (6 + k) (a + s)) (frG 0 (S 37)) i)) 37 i (S (6 + k) (a + i))) = (sr S 37 (fil (fun s => S (6 + k) (a + s)) (frG 0 (S 37)) (i + 1))) from su_fil rfl] at hP
          exact ih (i + 1) (by omega) (hv.trans (by rw [allL, if_pos (by simp [wit, c31, d31, c43, d43])])) H locs ls hP hS (lv_sub hl [2, 3, 4, 0] rfl)
        · have d43 := Int32.not_le.mp c43
          refine lv_iconst (v := 0) hx hb dX5_tryPlan_46 (by decide +kernel) ?_
          refine x_zret hx hb hr hlocks hP hS dX5_tryPlan_47 (Or.inl rfl) ?_
          exact Or.inr ⟨rfl, by rw [hv, allL, if_neg (by simp [wit, c31, d31, c43, d43])]; simp, _, rfl⟩
  refine lv_aload_n hx hb dX5_tryPlan_0 rfl (lv_at hl 0 rfl) ?_
  refine x_get (v := .ref (ad 35)) hx hb hts hinX5 hown hK hP 0 (by decide) rfl rfl 5 (by decide) (hts _ (List.mem_of_getElem? (i := 1) rfl)) rfl dX5_tryPlan_1 ?_
  refine x_callv (x_runV (As := []) (rest := []) hF (c1_nobody hI S 35 (Or.inr rfl) ) (cwV 0 hts gX5_tryPlan_X1_nobody rfl rfl rfl (by decide +kernel) ⟨Nat.le_of_ble_eq_true rfl, Nat.le_of_ble_eq_true rfl⟩) hK hP (by decide) rfl rfl rfl hl.1 rfl (Nat.le_of_ble_eq_true rfl) dX5_tryPlan_4 ⟨Nat.zero_le _, Nat.zero_le _⟩) hS hAd (fun S4 H locs hw hP _ hS => ?_)
  rw [hw] at hP
  refine lv_iconst (v := 0) hx hb dX5_tryPlan_7 (by decide +kernel) ?_
  refine lv_istore_n (lv' := [(3, .int 0), (0, .ref (ad 0)), (1, .ref (ad (2 + k))), (2, .int (nI a))]) hx hb dX5_tryPlan_8 rfl hl (by decide) rfl (fun ls hl => ?_)
  have hP : va_P (dC, dI) vwCl (xW (cLy cI cZ cS cG ad) 42 ad (sr S 37 (fil (fun s => S (6 + k) (a + s)) (frG 0 (S 37)) 0))) H := by rw [fil_0]; exact hP
  exact L9 N 0 (Nat.zero_add _) rfl _ _ ls hP hS (lv_sub hl [1, 2, 3, 0] rfl)

set_option maxHeartbeats 4000000 in
set_option maxRecDepth 100000 in
theorem c5_ofTrial (hI : xI 42 ad) (S : xSt) (N : Nat) (hN : S 12 2 = nI N) (hN5 : N ≤ 5) (C : Nat) (hC : S 12 0 = nI C) (hC4 : C ≤ 4) (Y : Nat) (hY : S 12 1 = nI Y) (hY6 : Y ≤ 6) (wn : Int32) : xMi l yX5_ofTrial wsX5_ofTrial ({ frames := 6, cells := 0, slots := 0, locals := 146 }) (dC, dI) vwCl (tyl cI cZ cS cG) (cLy cI cZ cS cG ad) 42 ad [.ref (ad 0), .int wn] S (fun r S' => r = (if wn < 2 then (if wn = 0 then cBrk S N C Y 35 0 else if cBrk S N C Y 35 0 = -9 then -9 else cFst S N C 35 0 (nN (cBrk S N C Y 35 0))) else if wn = 2 then cMany S 35 (S 12 1 - 1) else if inR (wn - 10) (S 12 0) then sumL (stkC (S 19) (S 20) (S 21) (kpg 0 (S 18)) (S 37) (wn - 10) (S 12 1 - 1)) N 0 0 else -9) ∧ S' = S) := by
  refine xM_of (cc := cX5_ofTrial) (nL := 3) (ret := (some .int)) (by decide) rfl (Nat.le_of_ble_eq_true rfl) ?_
  intro p e s m below meth c ls B hl hK hP
  obtain ⟨hx, hb, hml, hown, hts, hr, hlocks⟩ := B
  have hl : lv_has ls 3 [(0, .ref (ad 0)), (1, .int wn)] := hl
  have hS : va_S (xA 42 ad) s.heap s.heap [] := va_S.rf
  have hAd : ∀ k, k < 42 → xA 42 ad (ad k) := xA_in
  have hinX4 : ∀ w ∈ wsX40, w ∈ wsX5_ofTrial := fun _ h => List.mem_cons_of_mem _ (List.mem_append_left _ (List.mem_append_right _ h))
  have hinX5 : ∀ w ∈ wsX50, w ∈ wsX5_ofTrial := fun _ h => List.mem_cons_of_mem _ (List.mem_append_left _ (List.mem_append_left _ (List.mem_append_right _ h)))
  have hF : CallFix p m c cX5_ofTrial 3 s _ wsX5_ofTrial RX5 := ⟨hx, hb, hml, hown, hts⟩
  refine lv_aload_n hx hb dX5_ofTrial_0 rfl (lv_at hl 0 rfl) ?_
  refine x_get (v := .ref (ad 12)) hx hb hts hinX5 hown hK hP 0 (by decide) rfl rfl 2 (by decide) (hts _ (List.mem_of_getElem? (i := 1) rfl)) rfl dX5_ofTrial_1 ?_
  refine x_get (v := .int (S 12 1)) hx hb hts hinX4 hown hK hP 12 (by decide) rfl rfl 1 (by decide) (hts _ (List.mem_of_getElem? (i := 2) rfl)) rfl dX5_ofTrial_4 ?_
  refine lv_iconst (v := 1) hx hb dX5_ofTrial_7 (by decide +kernel) ?_
  refine lv_isub hx hb dX5_ofTrial_8 ?_
  refine lv_topi (fun x9 ex9 => ?_)
  subst ex9
  refine lv_istore_n (lv' := [(2, .int (S 12 1 - 1)), (0, .ref (ad 0)), (1, .int wn)]) hx hb dX5_ofTrial_9 rfl hl (by decide) rfl (fun ls hl => ?_)
  refine lv_iload_n hx hb dX5_ofTrial_10 rfl (lv_at hl 2 rfl) ?_
  refine lv_iconst (v := 2) hx hb dX5_ofTrial_11 (by decide +kernel) ?_
  refine lv_icmp_ge (tgt := 25) hx hb dX5_ofTrial_12 (by decide) (fun c12 => ?_) (fun c12 => ?_)
  · have d12 := Int32.not_lt.mpr c12
    refine lv_iload_n hx hb dX5_ofTrial_25 rfl (lv_at hl 2 rfl) ?_
    refine lv_iconst (v := 2) hx hb dX5_ofTrial_26 (by decide +kernel) ?_
    refine lv_icmp_ne (tgt := 39) hx hb dX5_ofTrial_27 (by decide) (fun c27 => ?_) (fun c27 => ?_)
    · refine lv_aload_n hx hb dX5_ofTrial_39 rfl (lv_at hl 1 rfl) ?_
      refine lv_iload_n hx hb dX5_ofTrial_40 rfl (lv_at hl 2 rfl) ?_
      refine lv_bipush (v := 10) hx hb dX5_ofTrial_41 (by decide +kernel) ?_
      refine lv_isub hx hb dX5_ofTrial_43 ?_
      refine x_calli (x_runV (As := [.int (wn - 10)]) (rest := []) hF (c5_isCourt hI S (wn - 10) ) (cwV 1 hts gX5_ofTrial_X5_isCourt rfl rfl rfl (by decide +kernel) ⟨Nat.le_of_ble_eq_true rfl, Nat.le_of_ble_eq_true rfl⟩) hK hP (by decide) rfl rfl rfl hl.1 rfl (Nat.le_of_ble_eq_true rfl) dX5_ofTrial_44 ⟨Nat.zero_le _, Nat.zero_le _⟩) hS hAd (fun r44 S44 H locs hw hP _ hS => ?_)
      obtain ⟨hw, eS44⟩ := hw
      rw [eS44] at hP
      by_cases q44 : inR (wn - 10) (S 12 0) = true
      · have hw : r44 = 1 := hw.trans (if_pos q44)
        subst hw
        refine lv_if_eq (tgt := 70) hx hb dX5_ofTrial_47 (by decide) (fun hc => absurd hc (by decide)) (fun _ => ?_)
        refine lv_aload_n hx hb dX5_ofTrial_50 rfl (lv_at hl 1 rfl) ?_
        refine x_get (v := .ref (ad 12)) hx hb hts hinX5 hown hK hP 0 (by decide) rfl rfl 2 (by decide) (hts _ (List.mem_of_getElem? (i := 1) rfl)) rfl dX5_ofTrial_51 ?_
        refine lv_iload_n hx hb dX5_ofTrial_54 rfl (lv_at hl 2 rfl) ?_
        refine lv_bipush (v := 10) hx hb dX5_ofTrial_55 (by decide +kernel) ?_
        refine lv_isub hx hb dX5_ofTrial_57 ?_
        refine lv_iload_n hx hb dX5_ofTrial_58 rfl (lv_at hl 0 rfl) ?_
        refine lv_aload_n hx hb dX5_ofTrial_59 rfl (lv_at hl 1 rfl) ?_
        refine x_get (v := .ref (ad 35)) hx hb hts hinX5 hown hK hP 0 (by decide) rfl rfl 5 (by decide) (hts _ (List.mem_of_getElem? (i := 3) rfl)) rfl dX5_ofTrial_60 ?_
        refine lv_iconst (v := 0) hx hb dX5_ofTrial_63 (by decide +kernel) ?_
        refine x_calli (x_runV (As := [.int (wn - 10), .int (S 12 1 - 1), .ref (ad 35), .int 0]) (rest := []) hF (c4_costsOf hI S 35 (Or.inr rfl) N hN hN5 (wn - 10) (S 12 1 - 1) 0 ) (cwV 4 hts gX5_ofTrial_X4_costsOf rfl rfl rfl (by decide +kernel) ⟨Nat.le_of_ble_eq_true rfl, Nat.le_of_ble_eq_true rfl⟩) hK hP (by decide) rfl rfl rfl hl.1 rfl (Nat.le_of_ble_eq_true rfl) dX5_ofTrial_64 ⟨Nat.zero_le _, Nat.zero_le _⟩) hS hAd (fun r64 S64 H locs hw hP _ hS => ?_)
        obtain ⟨er64, eS64⟩ := hw
        rw [eS64] at hP
        refine lv_goto (tgt := 72) hx hb dX5_ofTrial_67 (by decide) ?_
        refine x_iret hx hb hr hlocks hP hS dX5_ofTrial_72 ?_
        subst er64
        exact ⟨by first | (simp [c12, d12, c27, q44]; done) | grind, rfl⟩
      · have hw : r44 = 0 := hw.trans (if_neg q44)
        subst hw
        refine lv_if_eq (tgt := 70) hx hb dX5_ofTrial_47 (by decide) (fun _ => ?_) (fun hc => absurd (by decide) hc)
        refine lv_bipush (v := (-9)) hx hb dX5_ofTrial_70 (by decide +kernel) ?_
        refine x_iret hx hb hr hlocks hP hS dX5_ofTrial_72 ?_
        skip
        exact ⟨by first | (simp [c12, d12, c27, q44]; done) | grind, rfl⟩
    · refine lv_aload_n hx hb dX5_ofTrial_30 rfl (lv_at hl 1 rfl) ?_
      refine x_get (v := .ref (ad 35)) hx hb hts hinX5 hown hK hP 0 (by decide) rfl rfl 5 (by decide) (hts _ (List.mem_of_getElem? (i := 3) rfl)) rfl dX5_ofTrial_31 ?_
      refine lv_iload_n hx hb dX5_ofTrial_34 rfl (lv_at hl 0 rfl) ?_
      refine x_calli (x_runV (As := [.int (S 12 1 - 1)]) (rest := []) hF (c1_howManyBy hI S 35 (Or.inr rfl) (S 12 1 - 1) ) (cwV 1 hts gX5_ofTrial_X1_howManyBy rfl rfl rfl (by decide +kernel) ⟨Nat.le_of_ble_eq_true rfl, Nat.le_of_ble_eq_true rfl⟩) hK hP (by decide) rfl rfl rfl hl.1 rfl (Nat.le_of_ble_eq_true rfl) dX5_ofTrial_35 ⟨Nat.zero_le _, Nat.zero_le _⟩) hS hAd (fun r35 S35 H locs hw hP _ hS => ?_)
      obtain ⟨er35, eS35⟩ := hw
      rw [eS35] at hP
      refine x_iret hx hb hr hlocks hP hS dX5_ofTrial_38 ?_
      subst er35
      exact ⟨by first | (simp [c12, d12, c27]; done) | grind, rfl⟩
  · have d12 := Int32.not_le.mp c12
    refine lv_aload_n hx hb dX5_ofTrial_15 rfl (lv_at hl 1 rfl) ?_
    refine lv_aload_n hx hb dX5_ofTrial_16 rfl (lv_at hl 1 rfl) ?_
    refine x_get (v := .ref (ad 35)) hx hb hts hinX5 hown hK hP 0 (by decide) rfl rfl 5 (by decide) (hts _ (List.mem_of_getElem? (i := 3) rfl)) rfl dX5_ofTrial_17 ?_
    refine lv_iload_n hx hb dX5_ofTrial_20 rfl (lv_at hl 2 rfl) ?_
    refine x_calli (x_runV (As := [.ref (ad 35), .int wn]) (rest := []) hF (c5_ofBreak hI S 35 (Or.inr rfl) N hN hN5 C hC hC4 Y hY hY6 wn ) (cwV 2 hts gX5_ofTrial_X5_ofBreak rfl rfl rfl (by decide +kernel) ⟨Nat.le_of_ble_eq_true rfl, Nat.le_of_ble_eq_true rfl⟩) hK hP (by decide) rfl rfl rfl hl.1 rfl (Nat.le_of_ble_eq_true rfl) dX5_ofTrial_21 ⟨Nat.zero_le _, Nat.zero_le _⟩) hS hAd (fun r21 S21 H locs hw hP _ hS => ?_)
    obtain ⟨er21, eS21⟩ := hw
    rw [eS21] at hP
    refine x_iret hx hb hr hlocks hP hS dX5_ofTrial_24 ?_
    subst er21
    exact ⟨by first | (simp [c12, d12]; done) | grind, rfl⟩

set_option maxHeartbeats 4000000 in
set_option maxRecDepth 100000 in
theorem c5_plan_g (hI : xI 42 ad) (S : xSt) (N : Nat) (hN : S 12 2 = nI N) (hN5 : N ≤ 5) (hN0 : 0 < N) (C : Nat) (hC : S 12 0 = nI C) (hC4 : C ≤ 4) (Y : Nat) (hY : S 12 1 = nI Y) (hY6 : Y ≤ 6) (k0 : Nat) (hk0 : k0 < 4) (L : Nat) (hL : (su S 0 8 0) (2 + k0) 3 = nI L) (hL60 : L ≤ 60) (ln : Int32) (hln : wit ln 0 2 = true) (a : Nat) (haN : a + N ≤ L) (wn : Int32) (hwn : ofP wn = true) (hrf : rowF (su S 0 8 0) k0 ln (nI a) (nI N) = 0) : xMi l yX5_plan wsX5_plan ({ frames := 7, cells := 0, slots := 0, locals := 168 }) (dC, dI) vwCl (tyl cI cZ cS cG) (cLy cI cZ cS cG ad) 42 ad [.ref (ad 0), .int (nI k0), .int ln, .int (nI a), .int (nI N), .int wn] S (fun r S' => r = (if plOk (su S 0 8 0) k0 a N = true then (if wn < 2 then (if wn = 0 then cBrk (sr (su S 0 8 0) 37 (plF (su S 0 8 0) k0 a N)) N C Y 35 0 else if cBrk (sr (su S 0 8 0) 37 (plF (su S 0 8 0) k0 a N)) N C Y 35 0 = -9 then -9 else cFst (sr (su S 0 8 0) 37 (plF (su S 0 8 0) k0 a N)) N C 35 0 (nN (cBrk (sr (su S 0 8 0) 37 (plF (su S 0 8 0) k0 a N)) N C Y 35 0))) else if wn = 2 then cMany (sr (su S 0 8 0) 37 (plF (su S 0 8 0) k0 a N)) 35 (S 12 1 - 1) else if inR (wn - 10) (S 12 0) then sumL (stkC (S 19) (S 20) (S 21) (kpg 0 (S 18)) (plF (su S 0 8 0) k0 a N) (wn - 10) (S 12 1 - 1)) N 0 0 else -9) else -2) ∧ ∃ g, S' = sr (su S 0 8 0) 37 g) := by
  refine xM_of (cc := cX5_plan) (nL := 7) (ret := (some .int)) (by decide) rfl (Nat.le_of_ble_eq_true rfl) ?_
  intro p e s m below meth c ls B hl hK hP
  obtain ⟨hx, hb, hml, hown, hts, hr, hlocks⟩ := B
  have hl : lv_has ls 7 [(0, .ref (ad 0)), (1, .int (nI k0)), (2, .int ln), (3, .int (nI a)), (4, .int (nI N)), (5, .int wn)] := hl
  have hS : va_S (xA 42 ad) s.heap s.heap [] := va_S.rf
  have hAd : ∀ k, k < 42 → xA 42 ad (ad k) := xA_in
  have hinX4 : ∀ w ∈ wsX40, w ∈ wsX5_plan := fun _ h => List.mem_cons_of_mem _ (List.mem_append_left _ (List.mem_append_left _ (List.mem_append_right _ h)))
  have hinX5 : ∀ w ∈ wsX50, w ∈ wsX5_plan := fun _ h => List.mem_cons_of_mem _ (List.mem_append_left _ (List.mem_append_left _ (List.mem_append_left _ (List.mem_append_right _ h))))
  have hF : CallFix p m c cX5_plan 7 s _ wsX5_plan RX5 := ⟨hx, hb, hml, hown, hts⟩
  refine lv_aload_n hx hb dX5_plan_0 rfl (lv_at hl 0 rfl) ?_
  refine lv_iconst (v := 0) hx hb dX5_plan_1 (by decide +kernel) ?_
  refine x_put hx hb hts hinX5 tyX5 tyX5_ok nmX5 hown hK hI hAd hP hS 0 (by decide) rfl rfl 8 (by decide) (hts _ (List.mem_of_getElem? (i := 1) rfl)) rfl (upd (S 0) 8 0) rfl rfl rfl (Nat.le_of_ble_eq_true rfl) dX5_plan_2 (fun H locs hP hS => ?_)
  have hP : va_P (dC, dI) vwCl (xW (cLy cI cZ cS cG ad) 42 ad (su S 0 8 0)) H := hP
  refine lv_iload_n hx hb dX5_plan_5 rfl (lv_at hl 1 rfl) ?_
  refine x_calli (x_runS (As := [.int (nI k0)]) (rest := []) hF (c5_isSheet hI (su S 0 8 0) (nI k0) ) (va_cwS 1 hts gX5_plan_X5_isSheet rfl rfl rfl (by decide +kernel) ⟨Nat.le_of_ble_eq_true rfl, Nat.le_of_ble_eq_true rfl⟩) hK hP rfl hl.1 rfl (Nat.le_of_ble_eq_true rfl) dX5_plan_6 ⟨Nat.zero_le _, Nat.zero_le _⟩) hS hAd (fun r6 S6 H locs hw hP _ hS => ?_)
  obtain ⟨hw, eS6⟩ := hw
  rw [eS6] at hP
  by_cases q6 : wit (nI k0) 0 3 = true
  · have hw : r6 = 1 := hw.trans (if_pos q6)
    subst hw
    refine lv_if_ne (tgt := 14) hx hb dX5_plan_9 (by decide) (fun _ => ?_) (fun hc => absurd hc (by decide))
    refine lv_iload_n hx hb dX5_plan_14 rfl (lv_at hl 2 rfl) ?_
    refine x_calli (x_runS (As := [.int ln]) (rest := []) hF (c5_isLane hI (su S 0 8 0) ln ) (va_cwS 1 hts gX5_plan_X5_isLane rfl rfl rfl (by decide +kernel) ⟨Nat.le_of_ble_eq_true rfl, Nat.le_of_ble_eq_true rfl⟩) hK hP rfl hl.1 rfl (Nat.le_of_ble_eq_true rfl) dX5_plan_15 ⟨Nat.zero_le _, Nat.zero_le _⟩) hS hAd (fun r15 S15 H locs hw hP _ hS => ?_)
    obtain ⟨hw, eS15⟩ := hw
    rw [eS15] at hP
    by_cases q15 : wit ln 0 2 = true
    · have hw : r15 = 1 := hw.trans (if_pos q15)
      subst hw
      refine lv_if_eq (tgt := 29) hx hb dX5_plan_18 (by decide) (fun hc => absurd hc (by decide)) (fun _ => ?_)
      refine lv_iload hx hb dX5_plan_21 (lv_at hl 5 rfl) ?_
      refine x_calli (x_runS (As := [.int wn]) (rest := []) hF (c5_isOfPlan hI (su S 0 8 0) wn ) (va_cwS 1 hts gX5_plan_X5_isOfPlan rfl rfl rfl (by decide +kernel) ⟨Nat.le_of_ble_eq_true rfl, Nat.le_of_ble_eq_true rfl⟩) hK hP rfl hl.1 rfl (Nat.le_of_ble_eq_true rfl) dX5_plan_23 ⟨Nat.zero_le _, Nat.zero_le _⟩) hS hAd (fun r23 S23 H locs hw hP _ hS => ?_)
      obtain ⟨hw, eS23⟩ := hw
      rw [eS23] at hP
      by_cases q23 : ofP wn = true
      · have hw : r23 = 1 := hw.trans (if_pos q23)
        subst hw
        refine lv_if_ne (tgt := 32) hx hb dX5_plan_26 (by decide) (fun _ => ?_) (fun hc => absurd hc (by decide))
        refine lv_aload_n hx hb dX5_plan_32 rfl (lv_at hl 0 rfl) ?_
        refine x_get (v := .ref (ad 1)) hx hb hts hinX5 hown hK hP 0 (by decide) rfl rfl 0 (by decide) (hts _ (List.mem_of_getElem? (i := 2) rfl)) rfl dX5_plan_33 ?_
        refine lv_iload_n hx hb dX5_plan_36 rfl (lv_at hl 1 rfl) ?_
        refine x_aald (v := .ref (ad (2 + k0))) hx hb hK hP 1 2 (by decide) rfl rfl rfl k0 rfl (by omega) (by decide) (if_pos_rf (by omega)) dX5_plan_37 ?_
        refine lv_iload_n hx hb dX5_plan_38 rfl (lv_at hl 2 rfl) ?_
        refine lv_iload_n hx hb dX5_plan_39 rfl (lv_at hl 3 rfl) ?_
        refine lv_iload hx hb dX5_plan_40 (lv_at hl 4 rfl) ?_
        refine x_calli (x_runS (As := [.ref (ad (2 + k0)), .int ln, .int (nI a), .int (nI N)]) (rest := []) hF (c5_rowFault hI (su S 0 8 0) k0 (by omega) ln (nI a) (nI N) ) (va_cwS 4 hts gX5_plan_X5_rowFault rfl rfl rfl (by decide +kernel) ⟨Nat.le_of_ble_eq_true rfl, Nat.le_of_ble_eq_true rfl⟩) hK hP rfl hl.1 rfl (Nat.le_of_ble_eq_true rfl) dX5_plan_42 ⟨Nat.zero_le _, Nat.zero_le _⟩) hS hAd (fun r42 S42 H locs hw hP _ hS => ?_)
        obtain ⟨er42, eS42⟩ := hw
        rw [eS42] at hP
        have er42 : r42 = 0 := er42.trans hrf
        subst er42
        refine lv_istore (lv' := [(6, .int 0), (0, .ref (ad 0)), (1, .int (nI k0)), (2, .int ln), (3, .int (nI a)), (4, .int (nI N)), (5, .int wn)]) hx hb dX5_plan_45 hl (by decide) rfl (fun ls hl => ?_)
        refine lv_iload hx hb dX5_plan_47 (lv_at hl 0 rfl) ?_
        refine lv_if_eq (tgt := 59) hx hb dX5_plan_49 (by decide) (fun _ => ?_) (fun hc => absurd (by decide) hc)
        refine lv_aload_n hx hb dX5_plan_59 rfl (lv_at hl 1 rfl) ?_
        refine x_calli (x_runV (As := []) (rest := []) hF (c5_hasTreaty hI (su S 0 8 0)  ) (cwV 0 hts gX5_plan_X5_hasTreaty rfl rfl rfl (by decide +kernel) ⟨Nat.le_of_ble_eq_true rfl, Nat.le_of_ble_eq_true rfl⟩) hK hP (by decide) rfl rfl rfl hl.1 rfl (Nat.le_of_ble_eq_true rfl) dX5_plan_60 ⟨Nat.zero_le _, Nat.zero_le _⟩) hS hAd (fun r60 S60 H locs hw hP _ hS => ?_)
        obtain ⟨hw, eS60⟩ := hw
        rw [eS60] at hP
        by_cases q60 : ¬ S 12 2 ≤ 0
        · have hw : r60 = 1 := hw.trans (if_pos q60)
          subst hw
          refine lv_if_ne (tgt := 69) hx hb dX5_plan_63 (by decide) (fun _ => ?_) (fun hc => absurd hc (by decide))
          refine lv_iload hx hb dX5_plan_69 (lv_at hl 5 rfl) ?_
          refine lv_aload_n hx hb dX5_plan_71 rfl (lv_at hl 1 rfl) ?_
          refine x_get (v := .ref (ad 12)) hx hb hts hinX5 hown hK hP 0 (by decide) rfl rfl 2 (by decide) (hts _ (List.mem_of_getElem? (i := 3) rfl)) rfl dX5_plan_72 ?_
          refine x_get (v := .int (nI N)) hx hb hts hinX4 hown hK hP 12 (by decide) rfl rfl 2 (by decide) (hts _ (List.mem_of_getElem? (i := 4) rfl)) (congrArg (fun z => some (Value.int z)) hN) dX5_plan_75 ?_
          refine lv_icmp_ne (tgt := 95) hx hb dX5_plan_78 (by decide) (fun hc => absurd (rfl) hc) (fun _ => ?_)
          refine lv_aload_n hx hb dX5_plan_81 rfl (lv_at hl 1 rfl) ?_
          refine lv_aload_n hx hb dX5_plan_82 rfl (lv_at hl 1 rfl) ?_
          refine x_get (v := .ref (ad 1)) hx hb hts hinX5 hown hK hP 0 (by decide) rfl rfl 0 (by decide) (hts _ (List.mem_of_getElem? (i := 2) rfl)) rfl dX5_plan_83 ?_
          refine lv_iload_n hx hb dX5_plan_86 rfl (lv_at hl 2 rfl) ?_
          refine x_aald (v := .ref (ad (2 + k0))) hx hb hK hP 1 2 (by decide) rfl rfl rfl k0 rfl (by omega) (by decide) (if_pos_rf (by omega)) dX5_plan_87 ?_
          refine lv_iload_n hx hb dX5_plan_88 rfl (lv_at hl 4 rfl) ?_
          refine x_calli (x_runV (As := [.ref (ad (2 + k0)), .int (nI a)]) (rest := []) hF (c5_tryPlan hI (su S 0 8 0) N hN hN5 k0 hk0 L hL hL60 a haN) (cwV 2 hts gX5_plan_X5_tryPlan rfl rfl rfl (by decide +kernel) ⟨Nat.le_of_ble_eq_true rfl, Nat.le_of_ble_eq_true rfl⟩) hK hP (by decide) rfl rfl rfl hl.1 rfl (Nat.le_of_ble_eq_true rfl) dX5_plan_89 ⟨Nat.zero_le _, Nat.zero_le _⟩) hS hAd (fun r89 S89 H locs hw hP _ hS => ?_)
          rcases hw with ⟨rfl, hq, hw⟩ | ⟨rfl, hq, g, hw⟩
          · rw [hw] at hP
            refine lv_if_ne (tgt := 98) hx hb dX5_plan_92 (by decide) (fun _ => ?_) (fun hc => absurd hc (by decide))
            refine lv_aload_n hx hb dX5_plan_98 rfl (lv_at hl 1 rfl) ?_
            refine lv_iload hx hb dX5_plan_99 (lv_at hl 6 rfl) ?_
            refine x_calli (x_runV (As := [.int wn]) (rest := []) hF (c5_ofTrial hI (sr (su S 0 8 0) 37 (plF (su S 0 8 0) k0 a N)) N hN hN5 C hC hC4 Y hY hY6 wn ) (cwV 1 hts gX5_plan_X5_ofTrial rfl rfl rfl (by decide +kernel) ⟨Nat.le_of_ble_eq_true rfl, Nat.le_of_ble_eq_true rfl⟩) hK hP (by decide) rfl rfl rfl hl.1 rfl (Nat.le_of_ble_eq_true rfl) dX5_plan_101 ⟨Nat.zero_le _, Nat.zero_le _⟩) hS hAd (fun r101 S101 H locs hw hP _ hS => ?_)
            obtain ⟨er101, eS101⟩ := hw
            rw [eS101] at hP
            refine x_iret hx hb hr hlocks hP hS dX5_plan_104 ?_
            subst er101
            exact ⟨by rw [if_pos hq]; rfl, _, rfl⟩
          · rw [hw] at hP
            refine lv_if_ne (tgt := 98) hx hb dX5_plan_92 (by decide) (fun hc => absurd (by decide) hc) (fun _ => ?_)
            refine lv_bipush (v := (-2)) hx hb dX5_plan_95 (by decide +kernel) ?_
            refine x_iret hx hb hr hlocks hP hS dX5_plan_97 ?_
            exact ⟨by rw [if_neg hq], _, rfl⟩
        · have hw : r60 = 0 := hw.trans (if_neg q60)
          subst hw
          exact absurd (by rw [hN]; exact nI_nle hN0 (by omega)) q60
      · have hw : r23 = 0 := hw.trans (if_neg q23)
        subst hw
        exact absurd (hwn) q23
    · have hw : r15 = 0 := hw.trans (if_neg q15)
      subst hw
      exact absurd (hln) q15
  · have hw : r6 = 0 := hw.trans (if_neg q6)
    subst hw
    exact absurd (wit3_of hk0) q6

set_option maxHeartbeats 4000000 in
set_option maxRecDepth 100000 in
theorem c5_plan_f (hI : xI 42 ad) (S : xSt) (kn ln i n wn : Int32) (hno : ¬ (wit kn 0 3 = true ∧ wit ln 0 2 = true ∧ ofP wn = true ∧ rowF (su S 0 8 0) (nN kn) ln i n = 0 ∧ ¬ S 12 2 ≤ 0 ∧ n = S 12 2)) : xMi l yX5_plan wsX5_plan ({ frames := 7, cells := 0, slots := 0, locals := 168 }) (dC, dI) vwCl (tyl cI cZ cS cG) (cLy cI cZ cS cG ad) 42 ad [.ref (ad 0), .int kn, .int ln, .int i, .int n, .int wn] S (fun r S' => r = (if wit kn 0 3 then (if wit ln 0 2 = true ∧ ofP wn = true then (if rowF (su S 0 8 0) (nN kn) ln i n = 0 then (if S 12 2 ≤ 0 then -3 else -2) else -10 - rowF (su S 0 8 0) (nN kn) ln i n) else -2) else -1) ∧ S' = (if wit kn 0 3 = true ∧ wit ln 0 2 = true ∧ ofP wn = true ∧ ¬ rowF (su S 0 8 0) (nN kn) ln i n = 0 then su S 0 8 (rowF (su S 0 8 0) (nN kn) ln i n) else su S 0 8 0)) := by
  refine xM_of (cc := cX5_plan) (nL := 7) (ret := (some .int)) (by decide) rfl (Nat.le_of_ble_eq_true rfl) ?_
  intro p e s m below meth c ls B hl hK hP
  obtain ⟨hx, hb, hml, hown, hts, hr, hlocks⟩ := B
  have hl : lv_has ls 7 [(0, .ref (ad 0)), (1, .int kn), (2, .int ln), (3, .int i), (4, .int n), (5, .int wn)] := hl
  have hS : va_S (xA 42 ad) s.heap s.heap [] := va_S.rf
  have hAd : ∀ k, k < 42 → xA 42 ad (ad k) := xA_in
  have hinX4 : ∀ w ∈ wsX40, w ∈ wsX5_plan := fun _ h => List.mem_cons_of_mem _ (List.mem_append_left _ (List.mem_append_left _ (List.mem_append_right _ h)))
  have hinX5 : ∀ w ∈ wsX50, w ∈ wsX5_plan := fun _ h => List.mem_cons_of_mem _ (List.mem_append_left _ (List.mem_append_left _ (List.mem_append_left _ (List.mem_append_right _ h))))
  have hF : CallFix p m c cX5_plan 7 s _ wsX5_plan RX5 := ⟨hx, hb, hml, hown, hts⟩
  refine lv_aload_n hx hb dX5_plan_0 rfl (lv_at hl 0 rfl) ?_
  refine lv_iconst (v := 0) hx hb dX5_plan_1 (by decide +kernel) ?_
  refine x_put hx hb hts hinX5 tyX5 tyX5_ok nmX5 hown hK hI hAd hP hS 0 (by decide) rfl rfl 8 (by decide) (hts _ (List.mem_of_getElem? (i := 1) rfl)) rfl (upd (S 0) 8 0) rfl rfl rfl (Nat.le_of_ble_eq_true rfl) dX5_plan_2 (fun H locs hP hS => ?_)
  have hP : va_P (dC, dI) vwCl (xW (cLy cI cZ cS cG ad) 42 ad (su S 0 8 0)) H := hP
  refine lv_iload_n hx hb dX5_plan_5 rfl (lv_at hl 1 rfl) ?_
  refine x_calli (x_runS (As := [.int kn]) (rest := []) hF (c5_isSheet hI (su S 0 8 0) kn ) (va_cwS 1 hts gX5_plan_X5_isSheet rfl rfl rfl (by decide +kernel) ⟨Nat.le_of_ble_eq_true rfl, Nat.le_of_ble_eq_true rfl⟩) hK hP rfl hl.1 rfl (Nat.le_of_ble_eq_true rfl) dX5_plan_6 ⟨Nat.zero_le _, Nat.zero_le _⟩) hS hAd (fun r6 S6 H locs hw hP _ hS => ?_)
  obtain ⟨hw, eS6⟩ := hw
  rw [eS6] at hP
  by_cases q6 : wit kn 0 3 = true
  · have hw : r6 = 1 := hw.trans (if_pos q6)
    subst hw
    obtain ⟨j6, hj6, rfl⟩ := wit3_ex q6
    have en6 : nN (nI j6) = j6 := nN_nI (by omega)
    refine lv_if_ne (tgt := 14) hx hb dX5_plan_9 (by decide) (fun _ => ?_) (fun hc => absurd hc (by decide))
    refine lv_iload_n hx hb dX5_plan_14 rfl (lv_at hl 2 rfl) ?_
    refine x_calli (x_runS (As := [.int ln]) (rest := []) hF (c5_isLane hI (su S 0 8 0) ln ) (va_cwS 1 hts gX5_plan_X5_isLane rfl rfl rfl (by decide +kernel) ⟨Nat.le_of_ble_eq_true rfl, Nat.le_of_ble_eq_true rfl⟩) hK hP rfl hl.1 rfl (Nat.le_of_ble_eq_true rfl) dX5_plan_15 ⟨Nat.zero_le _, Nat.zero_le _⟩) hS hAd (fun r15 S15 H locs hw hP _ hS => ?_)
    obtain ⟨hw, eS15⟩ := hw
    rw [eS15] at hP
    by_cases q15 : wit ln 0 2 = true
    · have hw : r15 = 1 := hw.trans (if_pos q15)
      subst hw
      refine lv_if_eq (tgt := 29) hx hb dX5_plan_18 (by decide) (fun hc => absurd hc (by decide)) (fun _ => ?_)
      refine lv_iload hx hb dX5_plan_21 (lv_at hl 5 rfl) ?_
      refine x_calli (x_runS (As := [.int wn]) (rest := []) hF (c5_isOfPlan hI (su S 0 8 0) wn ) (va_cwS 1 hts gX5_plan_X5_isOfPlan rfl rfl rfl (by decide +kernel) ⟨Nat.le_of_ble_eq_true rfl, Nat.le_of_ble_eq_true rfl⟩) hK hP rfl hl.1 rfl (Nat.le_of_ble_eq_true rfl) dX5_plan_23 ⟨Nat.zero_le _, Nat.zero_le _⟩) hS hAd (fun r23 S23 H locs hw hP _ hS => ?_)
      obtain ⟨hw, eS23⟩ := hw
      rw [eS23] at hP
      by_cases q23 : ofP wn = true
      · have hw : r23 = 1 := hw.trans (if_pos q23)
        subst hw
        refine lv_if_ne (tgt := 32) hx hb dX5_plan_26 (by decide) (fun _ => ?_) (fun hc => absurd hc (by decide))
        refine lv_aload_n hx hb dX5_plan_32 rfl (lv_at hl 0 rfl) ?_
        refine x_get (v := .ref (ad 1)) hx hb hts hinX5 hown hK hP 0 (by decide) rfl rfl 0 (by decide) (hts _ (List.mem_of_getElem? (i := 2) rfl)) rfl dX5_plan_33 ?_
        refine lv_iload_n hx hb dX5_plan_36 rfl (lv_at hl 1 rfl) ?_
        refine x_aald (v := .ref (ad (2 + j6))) hx hb hK hP 1 2 (by decide) rfl rfl rfl j6 rfl (by omega) (by decide) (if_pos_rf (by omega)) dX5_plan_37 ?_
        refine lv_iload_n hx hb dX5_plan_38 rfl (lv_at hl 2 rfl) ?_
        refine lv_iload_n hx hb dX5_plan_39 rfl (lv_at hl 3 rfl) ?_
        refine lv_iload hx hb dX5_plan_40 (lv_at hl 4 rfl) ?_
        refine x_calli (x_runS (As := [.ref (ad (2 + j6)), .int ln, .int i, .int n]) (rest := []) hF (c5_rowFault hI (su S 0 8 0) j6 (by omega) ln i n ) (va_cwS 4 hts gX5_plan_X5_rowFault rfl rfl rfl (by decide +kernel) ⟨Nat.le_of_ble_eq_true rfl, Nat.le_of_ble_eq_true rfl⟩) hK hP rfl hl.1 rfl (Nat.le_of_ble_eq_true rfl) dX5_plan_42 ⟨Nat.zero_le _, Nat.zero_le _⟩) hS hAd (fun r42 S42 H locs hw hP _ hS => ?_)
        obtain ⟨er42, eS42⟩ := hw
        rw [eS42] at hP
        refine lv_istore (lv' := [(6, .int r42), (0, .ref (ad 0)), (1, .int (nI j6)), (2, .int ln), (3, .int i), (4, .int n), (5, .int wn)]) hx hb dX5_plan_45 hl (by decide) rfl (fun ls hl => ?_)
        refine lv_iload hx hb dX5_plan_47 (lv_at hl 0 rfl) ?_
        refine lv_if_eq (tgt := 59) hx hb dX5_plan_49 (by decide) (fun c49 => ?_) (fun c49 => ?_)
        · refine lv_aload_n hx hb dX5_plan_59 rfl (lv_at hl 1 rfl) ?_
          refine x_calli (x_runV (As := []) (rest := []) hF (c5_hasTreaty hI (su S 0 8 0)  ) (cwV 0 hts gX5_plan_X5_hasTreaty rfl rfl rfl (by decide +kernel) ⟨Nat.le_of_ble_eq_true rfl, Nat.le_of_ble_eq_true rfl⟩) hK hP (by decide) rfl rfl rfl hl.1 rfl (Nat.le_of_ble_eq_true rfl) dX5_plan_60 ⟨Nat.zero_le _, Nat.zero_le _⟩) hS hAd (fun r60 S60 H locs hw hP _ hS => ?_)
          obtain ⟨hw, eS60⟩ := hw
          rw [eS60] at hP
          by_cases q60 : ¬ S 12 2 ≤ 0
          · have hw : r60 = 1 := hw.trans (if_pos q60)
            subst hw
            refine lv_if_ne (tgt := 69) hx hb dX5_plan_63 (by decide) (fun _ => ?_) (fun hc => absurd hc (by decide))
            refine lv_iload hx hb dX5_plan_69 (lv_at hl 5 rfl) ?_
            refine lv_aload_n hx hb dX5_plan_71 rfl (lv_at hl 1 rfl) ?_
            refine x_get (v := .ref (ad 12)) hx hb hts hinX5 hown hK hP 0 (by decide) rfl rfl 2 (by decide) (hts _ (List.mem_of_getElem? (i := 3) rfl)) rfl dX5_plan_72 ?_
            refine x_get (v := .int (S 12 2)) hx hb hts hinX4 hown hK hP 12 (by decide) rfl rfl 2 (by decide) (hts _ (List.mem_of_getElem? (i := 4) rfl)) rfl dX5_plan_75 ?_
            refine lv_icmp_ne (tgt := 95) hx hb dX5_plan_78 (by decide) (fun c78 => ?_) (fun c78 => ?_)
            · refine lv_bipush (v := (-2)) hx hb dX5_plan_95 (by decide +kernel) ?_
              refine x_iret hx hb hr hlocks hP hS dX5_plan_97 ?_
              subst er42
              exact ⟨by first | (simp [su_su, su_at, q6, en6, q15, q23, c49, q60, c78]; done) | grind, by first | (simp [su_su, su_at, q6, en6, q15, q23, c49, q60, c78]; done) | grind⟩
            · exact absurd ⟨q6, q15, q23, by rw [en6]; subst er42; exact c49, q60, c78⟩ hno
          · have hw : r60 = 0 := hw.trans (if_neg q60)
            subst hw
            refine lv_if_ne (tgt := 69) hx hb dX5_plan_63 (by decide) (fun hc => absurd (by decide) hc) (fun _ => ?_)
            refine lv_bipush (v := (-3)) hx hb dX5_plan_66 (by decide +kernel) ?_
            refine x_iret hx hb hr hlocks hP hS dX5_plan_68 ?_
            subst er42
            exact ⟨by first | (simp [su_su, su_at, q6, en6, q15, q23, c49, q60]; done) | grind, by first | (simp [su_su, su_at, q6, en6, q15, q23, c49, q60]; done) | grind⟩
        · refine lv_aload_n hx hb dX5_plan_52 rfl (lv_at hl 1 rfl) ?_
          refine lv_iload hx hb dX5_plan_53 (lv_at hl 0 rfl) ?_
          refine x_calli (x_runV (As := [.int r42]) (rest := []) hF (c5_faulted hI (su S 0 8 0) r42 ) (cwV 1 hts gX5_plan_X5_faulted rfl rfl rfl (by decide +kernel) ⟨Nat.le_of_ble_eq_true rfl, Nat.le_of_ble_eq_true rfl⟩) hK hP (by decide) rfl rfl rfl hl.1 rfl (Nat.le_of_ble_eq_true rfl) dX5_plan_55 ⟨Nat.zero_le _, Nat.zero_le _⟩) hS hAd (fun r55 S55 H locs hw hP _ hS => ?_)
          obtain ⟨er55, eS55⟩ := hw
          rw [eS55] at hP
          refine x_iret hx hb hr hlocks hP hS dX5_plan_58 ?_
          subst er42; subst er55
          exact ⟨by first | (simp [su_su, su_at, q6, en6, q15, q23, c49]; done) | grind, by first | (simp [su_su, su_at, q6, en6, q15, q23, c49]; done) | grind⟩
      · have hw : r23 = 0 := hw.trans (if_neg q23)
        subst hw
        refine lv_if_ne (tgt := 32) hx hb dX5_plan_26 (by decide) (fun hc => absurd (by decide) hc) (fun _ => ?_)
        refine lv_bipush (v := (-2)) hx hb dX5_plan_29 (by decide +kernel) ?_
        refine x_iret hx hb hr hlocks hP hS dX5_plan_31 ?_
        skip
        exact ⟨by first | (simp [su_su, su_at, q6, en6, q15, q23]; done) | grind, by first | (simp [su_su, su_at, q6, en6, q15, q23]; done) | grind⟩
    · have hw : r15 = 0 := hw.trans (if_neg q15)
      subst hw
      refine lv_if_eq (tgt := 29) hx hb dX5_plan_18 (by decide) (fun _ => ?_) (fun hc => absurd (by decide) hc)
      refine lv_bipush (v := (-2)) hx hb dX5_plan_29 (by decide +kernel) ?_
      refine x_iret hx hb hr hlocks hP hS dX5_plan_31 ?_
      skip
      exact ⟨by first | (simp [su_su, su_at, q6, en6, q15]; done) | grind, by first | (simp [su_su, su_at, q6, en6, q15]; done) | grind⟩
  · have hw : r6 = 0 := hw.trans (if_neg q6)
    subst hw
    refine lv_if_ne (tgt := 14) hx hb dX5_plan_9 (by decide) (fun hc => absurd (by decide) hc) (fun _ => ?_)
    refine lv_iconst (v := (-1)) hx hb dX5_plan_12 (by decide +kernel) ?_
    refine x_iret hx hb hr hlocks hP hS dX5_plan_13 ?_
    skip
    exact ⟨by first | (simp [su_su, su_at, q6]; done) | grind, by first | (simp [su_su, su_at, q6]; done) | grind⟩

end C5
