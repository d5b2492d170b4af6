section C1
variable {l : Launch} {dC : Nat → ClassId} {dI : Nat → Nat → Nat} {cI cZ cS cG : ClassId} {ad bd : Nat → Nat}
set_option maxHeartbeats 4000000 in
set_option maxRecDepth 100000 in
theorem c1_ever (hI : xI 42 ad) (S : xSt) (b : Nat) (hb0 : b = 32 ∨ b = 35) (j : Nat) (hj : j < 5) : xMi l yX1_ever wsX1_ever ({ frames := 0, cells := 0, slots := 0, locals := 0 }) (dC, dI) vwCl (tyl cI cZ cS cG) (cLy cI cZ cS cG ad) 42 ad [.ref (ad b), .int (nI j)] S (fun r S' => r = (if ¬ 6 ≤ S (b + 2) j then 1 else 0) ∧ S' = S) := by
  refine xM_of (cc := cX1_ever) (nL := 2) (ret := (some .boolean)) (by decide) rfl (Nat.le_of_ble_eq_true rfl) ?_
  intro p e s m below meth c ls B hl hK hP
  obtain ⟨hx, hb, hml, hown, hts, hr, hlocks⟩ := B
  have hl : lv_has ls 2 [(0, .ref (ad b)), (1, .int (nI j))] := hl
  have hS : va_S (xA 42 ad) s.heap s.heap [] := va_S.rf
  have hAd : ∀ k, k < 42 → xA 42 ad (ad k) := xA_in
  have hinX1 : ∀ w ∈ wsX10, w ∈ wsX1_ever := fun _ h => List.mem_cons_of_mem _ (List.mem_append_right _ h)
  have hF : CallFix p m c cX1_ever 2 s _ wsX1_ever RX1 := ⟨hx, hb, hml, hown, hts⟩
  refine lv_aload_n hx hb dX1_ever_0 rfl (lv_at hl 0 rfl) ?_
  refine x_get (v := .ref (ad (b + 2))) hx hb hts hinX1 hown hK hP b (by omega) (cLy_snd0 hb0 _) rfl 1 (by decide) (hts _ (List.mem_of_getElem? (i := 1) rfl)) rfl dX1_ever_1 ?_
  refine lv_iload_n hx hb dX1_ever_4 rfl (lv_at hl 1 rfl) ?_
  refine x_iald (v := S (b + 2) j) hx hb hK hP (b + 2) 0 (by omega) (cLy_snd2 hb0 _) rfl j rfl (by omega) (by decide) rfl dX1_ever_5 ?_
  refine lv_bipush (v := 6) hx hb dX1_ever_6 (by decide +kernel) ?_
  refine lv_icmp_ge (tgt := 15) hx hb dX1_ever_8 (by decide) (fun c8 => ?_) (fun c8 => ?_)
  · have d8 := Int32.not_lt.mpr c8
    refine lv_iconst (v := 0) hx hb dX1_ever_15 (by decide +kernel) ?_
    refine x_zret hx hb hr hlocks hP hS dX1_ever_16 (Or.inl rfl) ?_
    skip
    exact ⟨by simp [c8, d8], rfl⟩
  · have d8 := Int32.not_le.mp c8
    refine lv_iconst (v := 1) hx hb dX1_ever_11 (by decide +kernel) ?_
    refine lv_goto (tgt := 16) hx hb dX1_ever_12 (by decide) ?_
    refine x_zret hx hb hr hlocks hP hS dX1_ever_16 (Or.inr rfl) ?_
    skip
    exact ⟨by simp [c8, d8], rfl⟩

set_option maxHeartbeats 4000000 in
set_option maxRecDepth 100000 in
theorem c1_isAway (hI : xI 42 ad) (S : xSt) (b : Nat) (hb0 : b = 32 ∨ b = 35) (j : Nat) (yn : Int32) (hj : j < 5) : xMi l yX1_isAway wsX1_isAway ({ frames := 0, cells := 0, slots := 0, locals := 0 }) (dC, dI) vwCl (tyl cI cZ cS cG) (cLy cI cZ cS cG ad) 42 ad [.ref (ad b), .int (nI j), .int yn] S (fun r S' => r = (if ¬ yn < S (b + 2) j then 1 else 0) ∧ S' = S) := by
  refine xM_of (cc := cX1_isAway) (nL := 3) (ret := (some .boolean)) (by decide) rfl (Nat.le_of_ble_eq_true rfl) ?_
  intro p e s m below meth c ls B hl hK hP
  obtain ⟨hx, hb, hml, hown, hts, hr, hlocks⟩ := B
  have hl : lv_has ls 3 [(0, .ref (ad b)), (1, .int (nI j)), (2, .int yn)] := hl
  have hS : va_S (xA 42 ad) s.heap s.heap [] := va_S.rf
  have hAd : ∀ k, k < 42 → xA 42 ad (ad k) := xA_in
  have hinX1 : ∀ w ∈ wsX10, w ∈ wsX1_isAway := fun _ h => List.mem_cons_of_mem _ (List.mem_append_right _ h)
  have hF : CallFix p m c cX1_isAway 3 s _ wsX1_isAway RX1 := ⟨hx, hb, hml, hown, hts⟩
  refine lv_aload_n hx hb dX1_isAway_0 rfl (lv_at hl 0 rfl) ?_
  refine x_get (v := .ref (ad (b + 2))) hx hb hts hinX1 hown hK hP b (by omega) (cLy_snd0 hb0 _) rfl 1 (by decide) (hts _ (List.mem_of_getElem? (i := 1) rfl)) rfl dX1_isAway_1 ?_
  refine lv_iload_n hx hb dX1_isAway_4 rfl (lv_at hl 1 rfl) ?_
  refine x_iald (v := S (b + 2) j) hx hb hK hP (b + 2) 0 (by omega) (cLy_snd2 hb0 _) rfl j rfl (by omega) (by decide) rfl dX1_isAway_5 ?_
  refine lv_iload_n hx hb dX1_isAway_6 rfl (lv_at hl 2 rfl) ?_
  refine lv_icmp_gt (tgt := 14) hx hb dX1_isAway_7 (by decide) (fun c7 => ?_) (fun c7 => ?_)
  · have d7 := Int32.not_le.mpr c7
    refine lv_iconst (v := 0) hx hb dX1_isAway_14 (by decide +kernel) ?_
    refine x_zret hx hb hr hlocks hP hS dX1_isAway_15 (Or.inl rfl) ?_
    skip
    exact ⟨by simp [c7, d7], rfl⟩
  · have d7 := Int32.not_lt.mp c7
    refine lv_iconst (v := 1) hx hb dX1_isAway_10 (by decide +kernel) ?_
    refine lv_goto (tgt := 15) hx hb dX1_isAway_11 (by decide) ?_
    refine x_zret hx hb hr hlocks hP hS dX1_isAway_15 (Or.inr rfl) ?_
    skip
    exact ⟨by simp [c7, d7], rfl⟩

set_option maxHeartbeats 4000000 in
set_option maxRecDepth 100000 in
theorem c1_fromTheStart (hI : xI 42 ad) (S : xSt) (b : Nat) (hb0 : b = 32 ∨ b = 35) (v : Int32) : xMv l yX1_fromTheStart wsX1_fromTheStart ({ frames := 0, cells := 0, slots := 0, locals := 0 }) (dC, dI) vwCl (tyl cI cZ cS cG) (cLy cI cZ cS cG ad) 42 ad [.ref (ad b), .int v] S (fun S' => S' = sr S (b + 2) (frG v (S (b + 2)))) := by
  refine xM_of (cc := cX1_fromTheStart) (nL := 3) (ret := none) (by decide) rfl (Nat.le_of_ble_eq_true rfl) ?_
  intro p e s m below meth c ls B hl hK hP
  obtain ⟨hx, hb, hml, hown, hts, hr, hlocks⟩ := B
  have hl : lv_has ls 3 [(0, .ref (ad b)), (1, .int v)] := hl
  have hS : va_S (xA 42 ad) s.heap s.heap [] := va_S.rf
  have hAd : ∀ k, k < 42 → xA 42 ad (ad k) := xA_in
  have hinX1 : ∀ w ∈ wsX10, w ∈ wsX1_fromTheStart := fun _ h => List.mem_cons_of_mem _ (List.mem_append_right _ h)
  have hF : CallFix p m c cX1_fromTheStart 3 s _ wsX1_fromTheStart RX1 := ⟨hx, hb, hml, hown, hts⟩
  have L2 : ∀ (n : Nat) (i : Nat) (hi : i + n = 5) (H : Heap) (locs : List Loc) (ls : Array Slot), va_P (dC, dI) vwCl (xW (cLy cI cZ cS cG ad) 42 ad (sr S (b + 2) (fil (fun s => if v >>> (nI s &&& 31) &&& 1 = 1 then 0 else 6) (S (b + 2)) i))) H → va_S (xA 42 ad) s.heap H locs → lv_has ls 3 [(0, .ref (ad b)), (1, .int v), (2, .int (nI i))] → W p l e ({ frames := 0, cells := 0, slots := 0, locals := 0 }) s m ([.ref (ad b), .int v] : List Value).toArray below meth c H locs 0 0 (MQ below (xQv (dC, dI) vwCl (cLy cI cZ cS cG ad) 42 ad (fun S' => S' = sr S (b + 2) (frG v (S (b + 2))))) ([.ref (ad b), .int v] : List Value).toArray s 0 0 (xA 42 ad)) (F0 m 2 ls []) := by
    intro n
    induction n with
    | zero =>
      intro i hi H locs ls hP hS hl
      refine lv_iload_n hx hb dX1_fromTheStart_2 rfl (lv_at hl 2 rfl) ?_
      refine lv_iconst (v := 5) hx hb dX1_fromTheStart_3 (by decide +kernel) ?_
      refine lv_icmp_ge (tgt := 34) hx hb dX1_fromTheStart_4 (by decide) (fun _ => ?_) (fun hc => absurd (nI_le (a := 5) (by omega) (by omega)) hc)
      refine x_vret hx hb hr hlocks hP hS dX1_fromTheStart_34 ?_
      exact (by rw [show i = 5 by omega]; rfl)
    | succ n ih =>
      intro i hi H locs ls hP hS hl
      refine lv_iload_n hx hb dX1_fromTheStart_2 rfl (lv_at hl 2 rfl) ?_
      refine lv_iconst (v := 5) hx hb dX1_fromTheStart_3 (by decide +kernel) ?_
      refine lv_icmp_ge (tgt := 34) hx hb dX1_fromTheStart_4 (by decide) (fun hc => absurd hc (nI_ge (b := 5) (by omega) (by omega))) (fun _ => ?_)
      refine lv_aload_n hx hb dX1_fromTheStart_7 rfl (lv_at hl 0 rfl) ?_
      refine x_get (v := .ref (ad (b + 2))) hx hb hts hinX1 hown hK hP b (by omega) (cLy_snd0 hb0 _) rfl 1 (by decide) (hts _ (List.mem_of_getElem? (i := 1) rfl)) rfl dX1_fromTheStart_8 ?_
      refine lv_iload_n hx hb dX1_fromTheStart_11 rfl (lv_at hl 2 rfl) ?_
      refine lv_iload_n hx hb dX1_fromTheStart_12 rfl (lv_at hl 1 rfl) ?_
      refine lv_iload_n hx hb dX1_fromTheStart_13 rfl (lv_at hl 2 rfl) ?_
      refine lv_ishr hx hb dX1_fromTheStart_14 ?_
      refine lv_iconst (v := 1) hx hb dX1_fromTheStart_15 (by decide +kernel) ?_
      refine lv_iand hx hb dX1_fromTheStart_16 ?_
      refine lv_iconst (v := 1) hx hb dX1_fromTheStart_17 (by decide +kernel) ?_
      refine lv_icmp_ne (tgt := 25) hx hb dX1_fromTheStart_18 (by decide) (fun c18 => ?_) (fun c18 => ?_)
      · refine lv_bipush (v := 6) hx hb dX1_fromTheStart_25 (by decide +kernel) ?_
        refine x_iast hx hb hK hI hAd hP hS (b + 2) 0 (by omega) (cLy_snd2 hb0) rfl i rfl (by omega) (by decide) dX1_fromTheStart_27 (fun H locs hP hS => ?_)
        refine lv_iinc (v := nI (i + 1)) (lv' := [(2, .int (nI (i + 1))), (0, .ref (ad b)), (1, .int v)]) hx hb dX1_fromTheStart_28 hl (k := 2) rfl (nI_1 _) (by decide) rfl (fun ls hl => ?_)
        refine lv_goto (tgt := 2) hx hb dX1_fromTheStart_31 (by decide) ?_
        have eST : (su (sr S (b + 2) (fil (fun s => if v >>> (nI s &&& 31) &&& 1 = 1 then 0 else 6) (S (b + 2)) i)) (b + 2) i 6) = (sr S (b + 2) (fil (fun s => if v >>> (nI s &&& 31) &&& 1 = 1 then 0 else 6) (S (b + 2)) (i + 1))) := su_fil (by simp [c18])
        rw [eST] at hP
        exact ih (i + 1) (by omega) H locs ls hP hS (lv_sub hl [1, 2, 0] rfl)
      · refine lv_iconst (v := 0) hx hb dX1_fromTheStart_21 (by decide +kernel) ?_
        refine lv_goto (tgt := 27) hx hb dX1_fromTheStart_22 (by decide) ?_
        refine x_iast hx hb hK hI hAd hP hS (b + 2) 0 (by omega) (cLy_snd2 hb0) rfl i rfl (by omega) (by decide) dX1_fromTheStart_27 (fun H locs hP hS => ?_)
        refine lv_iinc (v := nI (i + 1)) (lv' := [(2, .int (nI (i + 1))), (0, .ref (ad b)), (1, .int v)]) hx hb dX1_fromTheStart_28 hl (k := 2) rfl (nI_1 _) (by decide) rfl (fun ls hl => ?_)
        refine lv_goto (tgt := 2) hx hb dX1_fromTheStart_31 (by decide) ?_
        have eST : (su (sr S (b + 2) (fil (fun s => if v >>> (nI s &&& 31) &&& 1 = 1 then 0 else 6) (S (b + 2)) i)) (b + 2) i 0) = (sr S (b + 2) (fil (fun s => if v >>> (nI s &&& 31) &&& 1 = 1 then 0 else 6) (S (b + 2)) (i + 1))) := su_fil (by simp [c18])
        rw [eST] at hP
        exact ih (i + 1) (by omega) H locs ls hP hS (lv_sub hl [1, 2, 0] rfl)
  refine lv_iconst (v := 0) hx hb dX1_fromTheStart_0 (by decide +kernel) ?_
  refine lv_istore_n (lv' := [(2, .int 0), (0, .ref (ad b)), (1, .int v)]) hx hb dX1_fromTheStart_1 rfl hl (by decide) rfl (fun ls hl => ?_)
  have hP : va_P (dC, dI) vwCl (xW (cLy cI cZ cS cG ad) 42 ad (sr S (b + 2) (fil (fun s => if v >>> (nI s &&& 31) &&& 1 = 1 then 0 else 6) (S (b + 2)) 0))) s.heap := by rw [fil_0, sr_same]; exact hP
  exact L2 5 0 rfl _ _ ls hP hS (lv_sub hl [1, 2, 0] rfl)

set_option maxHeartbeats 4000000 in
set_option maxRecDepth 100000 in
theorem c1_nobody (hI : xI 42 ad) (S : xSt) (b : Nat) (hb0 : b = 32 ∨ b = 35) : xMv l yX1_nobody wsX1_nobody ({ frames := 1, cells := 0, slots := 0, locals := 22 }) (dC, dI) vwCl (tyl cI cZ cS cG) (cLy cI cZ cS cG ad) 42 ad [.ref (ad b)] S (fun S' => S' = sr S (b + 2) (frG 0 (S (b + 2)))) := by
  refine xM_of (cc := cX1_nobody) (nL := 1) (ret := none) (by decide) rfl (Nat.le_of_ble_eq_true rfl) ?_
  intro p e s m below meth c ls B hl hK hP
  obtain ⟨hx, hb, hml, hown, hts, hr, hlocks⟩ := B
  have hl : lv_has ls 1 [(0, .ref (ad b))] := hl
  have hS : va_S (xA 42 ad) s.heap s.heap [] := va_S.rf
  have hAd : ∀ k, k < 42 → xA 42 ad (ad k) := xA_in
  have hF : CallFix p m c cX1_nobody 1 s _ wsX1_nobody RX1 := ⟨hx, hb, hml, hown, hts⟩
  refine lv_aload_n hx hb dX1_nobody_0 rfl (lv_at hl 0 rfl) ?_
  refine lv_iconst (v := 0) hx hb dX1_nobody_1 (by decide +kernel) ?_
  refine x_callv (x_runV (As := [.int 0]) (rest := []) hF (c1_fromTheStart hI S b hb0 0 ) (cwV 1 hts gX1_nobody_X1_fromTheStart rfl rfl rfl (by decide +kernel) ⟨Nat.le_of_ble_eq_true rfl, Nat.le_of_ble_eq_true rfl⟩) hK hP (by omega) (cLy_snd0 hb0 _) rfl rfl hl.1 rfl (Nat.le_of_ble_eq_true rfl) dX1_nobody_2 ⟨Nat.zero_le _, Nat.zero_le _⟩) hS hAd (fun S2 H locs hw hP _ hS => ?_)
  rw [hw] at hP
  refine x_vret hx hb hr hlocks hP hS dX1_nobody_5 ?_
  exact rfl

set_option maxHeartbeats 4000000 in
set_option maxRecDepth 100000 in
theorem c1_howManyBy (hI : xI 42 ad) (S : xSt) (b : Nat) (hb0 : b = 32 ∨ b = 35) (yn : Int32) : xMi l yX1_howManyBy wsX1_howManyBy ({ frames := 1, cells := 0, slots := 0, locals := 22 }) (dC, dI) vwCl (tyl cI cZ cS cG) (cLy cI cZ cS cG ad) 42 ad [.ref (ad b), .int yn] S (fun r S' => r = cMany S b yn ∧ S' = S) := by
  refine xM_of (cc := cX1_howManyBy) (nL := 4) (ret := (some .int)) (by decide) rfl (Nat.le_of_ble_eq_true rfl) ?_
  intro p e s m below meth c ls B hl hK hP
  obtain ⟨hx, hb, hml, hown, hts, hr, hlocks⟩ := B
  have hl : lv_has ls 4 [(0, .ref (ad b)), (1, .int yn)] := hl
  have hS : va_S (xA 42 ad) s.heap s.heap [] := va_S.rf
  have hAd : ∀ k, k < 42 → xA 42 ad (ad k) := xA_in
  have hF : CallFix p m c cX1_howManyBy 4 s _ wsX1_howManyBy RX1 := ⟨hx, hb, hml, hown, hts⟩
  have L4 : ∀ (n : Nat) (i : Nat) (a : Int32) (hi : i + n = 5) (hv : cMany S b yn = sumL (fun s => if ¬ yn < S (b + 2) s then (1 : Int32) else 0) n i a) (H : Heap) (locs : List Loc) (ls : Array Slot), va_P (dC, dI) vwCl (xW (cLy cI cZ cS cG ad) 42 ad S) H → va_S (xA 42 ad) s.heap H locs → lv_has ls 4 [(0, .ref (ad b)), (1, .int yn), (2, .int a), (3, .int (nI i))] → W p l e ({ frames := 1, cells := 0, slots := 0, locals := 22 }) s m ([.ref (ad b), .int yn] : List Value).toArray below meth c H locs 0 0 (MQ below (xQi (dC, dI) vwCl (cLy cI cZ cS cG ad) 42 ad (fun r S' => r = cMany S b yn ∧ S' = S)) ([.ref (ad b), .int yn] : List Value).toArray s 0 0 (xA 42 ad)) (F0 m 4 ls []) := by
    intro n
    induction n with
    | zero =>
      intro i a hi hv H locs ls hP hS hl
      refine lv_iload_n hx hb dX1_howManyBy_4 rfl (lv_at hl 3 rfl) ?_
      refine lv_iconst (v := 5) hx hb dX1_howManyBy_5 (by decide +kernel) ?_
      refine lv_icmp_ge (tgt := 32) hx hb dX1_howManyBy_6 (by decide) (fun _ => ?_) (fun hc => absurd (nI_le (a := 5) (by omega) (by omega)) hc)
      refine lv_iload_n hx hb dX1_howManyBy_32 rfl (lv_at hl 2 rfl) ?_
      refine x_iret hx hb hr hlocks hP hS dX1_howManyBy_33 ?_
      exact ⟨hv.symm, rfl⟩
    | succ n ih =>
      intro i a hi hv H locs ls hP hS hl
      refine lv_iload_n hx hb dX1_howManyBy_4 rfl (lv_at hl 3 rfl) ?_
      refine lv_iconst (v := 5) hx hb dX1_howManyBy_5 (by decide +kernel) ?_
      refine lv_icmp_ge (tgt := 32) hx hb dX1_howManyBy_6 (by decide) (fun hc => absurd hc (nI_ge (b := 5) (by omega) (by omega))) (fun _ => ?_)
      refine lv_iload_n hx hb dX1_howManyBy_9 rfl (lv_at hl 2 rfl) ?_
      refine lv_aload_n hx hb dX1_howManyBy_10 rfl (lv_at hl 0 rfl) ?_
      refine lv_iload_n hx hb dX1_howManyBy_11 rfl (lv_at hl 3 rfl) ?_
      refine lv_iload_n hx hb dX1_howManyBy_12 rfl (lv_at hl 1 rfl) ?_
      refine x_calli (x_runV (As := [.int (nI i), .int yn]) (rest := [.int a]) hF (c1_isAway hI S b hb0 i yn (by omega) ) (cwV 2 hts gX1_howManyBy_X1_isAway rfl rfl rfl (by decide +kernel) ⟨Nat.le_of_ble_eq_true rfl, Nat.le_of_ble_eq_true rfl⟩) hK hP (by omega) (cLy_snd0 hb0 _) rfl rfl hl.1 rfl (Nat.le_of_ble_eq_true rfl) dX1_howManyBy_13 ⟨Nat.zero_le _, Nat.zero_le _⟩) hS hAd (fun r13 S13 H locs hw hP _ hS => ?_)
      obtain ⟨hw, eS13⟩ := hw
      rw [eS13] at hP
      by_cases q13 : ¬ yn < S (b + 2) i
      · have hw : r13 = 1 := hw.trans (if_pos q13)
        subst hw
        refine lv_if_eq (tgt := 23) hx hb dX1_howManyBy_16 (by decide) (fun hc => absurd hc (by decide)) (fun _ => ?_)
        refine lv_iconst (v := 1) hx hb dX1_howManyBy_19 (by decide +kernel) ?_
        refine lv_goto (tgt := 24) hx hb dX1_howManyBy_20 (by decide) ?_
        refine lv_iadd hx hb dX1_howManyBy_24 ?_
        refine lv_topi (fun x25 ex25 => ?_)
        refine lv_istore_n (lv' := [(2, .int x25), (0, .ref (ad b)), (1, .int yn), (3, .int (nI i))]) hx hb dX1_howManyBy_25 rfl hl (by decide) rfl (fun ls hl => ?_)
        refine lv_iinc (v := nI (i + 1)) (lv' := [(3, .int (nI (i + 1))), (2, .int x25), (0, .ref (ad b)), (1, .int yn)]) hx hb dX1_howManyBy_26 hl (k := 3) rfl (nI_1 _) (by decide) rfl (fun ls hl => ?_)
        refine lv_goto (tgt := 4) hx hb dX1_howManyBy_29 (by decide) ?_
        exact ih (i + 1) x25 (by omega) (hv.trans (congrArg (sumL (fun s => if ¬ yn < S (b + 2) s then (1 : Int32) else 0) n (i + 1)) (show a + (fun s => if ¬ yn < S (b + 2) s then (1 : Int32) else 0) i = x25 from by subst ex25; simp [q13]))) H locs ls hP hS (lv_sub hl [2, 3, 1, 0] rfl)
      · have hw : r13 = 0 := hw.trans (if_neg q13)
        subst hw
        refine lv_if_eq (tgt := 23) hx hb dX1_howManyBy_16 (by decide) (fun _ => ?_) (fun hc => absurd (by decide) hc)
        refine lv_iconst (v := 0) hx hb dX1_howManyBy_23 (by decide +kernel) ?_
        refine lv_iadd hx hb dX1_howManyBy_24 ?_
        refine lv_topi (fun x25 ex25 => ?_)
        refine lv_istore_n (lv' := [(2, .int x25), (0, .ref (ad b)), (1, .int yn), (3, .int (nI i))]) hx hb dX1_howManyBy_25 rfl hl (by decide) rfl (fun ls hl => ?_)
        refine lv_iinc (v := nI (i + 1)) (lv' := [(3, .int (nI (i + 1))), (2, .int x25), (0, .ref (ad b)), (1, .int yn)]) hx hb dX1_howManyBy_26 hl (k := 3) rfl (nI_1 _) (by decide) rfl (fun ls hl => ?_)
        refine lv_goto (tgt := 4) hx hb dX1_howManyBy_29 (by decide) ?_
        exact ih (i + 1) x25 (by omega) (hv.trans (congrArg (sumL (fun s => if ¬ yn < S (b + 2) s then (1 : Int32) else 0) n (i + 1)) (show a + (fun s => if ¬ yn < S (b + 2) s then (1 : Int32) else 0) i = x25 from by subst ex25; simp [q13]))) H locs ls hP hS (lv_sub hl [2, 3, 1, 0] rfl)
  refine lv_iconst (v := 0) hx hb dX1_howManyBy_0 (by decide +kernel) ?_
  refine lv_istore_n (lv' := [(2, .int 0), (0, .ref (ad b)), (1, .int yn)]) hx hb dX1_howManyBy_1 rfl hl (by decide) rfl (fun ls hl => ?_)
  refine lv_iconst (v := 0) hx hb dX1_howManyBy_2 (by decide +kernel) ?_
  refine lv_istore_n (lv' := [(3, .int 0), (2, .int 0), (0, .ref (ad b)), (1, .int yn)]) hx hb dX1_howManyBy_3 rfl hl (by decide) rfl (fun ls hl => ?_)
  exact L4 5 0 0 rfl rfl _ _ ls hP hS (lv_sub hl [2, 3, 1, 0] rfl)

set_option maxHeartbeats 4000000 in
set_option maxRecDepth 100000 in
theorem c1_setOf (hI : xI 42 ad) (S : xSt) (b : Nat) (hb0 : b = 32 ∨ b = 35) : xMi l yX1_setOf wsX1_setOf ({ frames := 1, cells := 0, slots := 0, locals := 21 }) (dC, dI) vwCl (tyl cI cZ cS cG) (cLy cI cZ cS cG ad) 42 ad [.ref (ad b)] S (fun r S' => r = cSet S b ∧ S' = S) := by
  refine xM_of (cc := cX1_setOf) (nL := 3) (ret := (some .int)) (by decide) rfl (Nat.le_of_ble_eq_true rfl) ?_
  intro p e s m below meth c ls B hl hK hP
  obtain ⟨hx, hb, hml, hown, hts, hr, hlocks⟩ := B
  have hl : lv_has ls 3 [(0, .ref (ad b))] := hl
  have hS : va_S (xA 42 ad) s.heap s.heap [] := va_S.rf
  have hAd : ∀ k, k < 42 → xA 42 ad (ad k) := xA_in
  have hF : CallFix p m c cX1_setOf 3 s _ wsX1_setOf RX1 := ⟨hx, hb, hml, hown, hts⟩
  have L4 : ∀ (n : Nat) (i : Nat) (a : Int32) (hi : i + n = 5) (hv : cSet S b = orL (fun s => if ¬ 6 ≤ S (b + 2) s then (1 : Int32) <<< (nI s &&& 31) else 0) n i a) (H : Heap) (locs : List Loc) (ls : Array Slot), va_P (dC, dI) vwCl (xW (cLy cI cZ cS cG ad) 42 ad S) H → va_S (xA 42 ad) s.heap H locs → lv_has ls 3 [(0, .ref (ad b)), (1, .int a), (2, .int (nI i))] → W p l e ({ frames := 1, cells := 0, slots := 0, locals := 21 }) s m ([.ref (ad b)] : List Value).toArray below meth c H locs 0 0 (MQ below (xQi (dC, dI) vwCl (cLy cI cZ cS cG ad) 42 ad (fun r S' => r = cSet S b ∧ S' = S)) ([.ref (ad b)] : List Value).toArray s 0 0 (xA 42 ad)) (F0 m 4 ls []) := by
    intro n
    induction n with
    | zero =>
      intro i a hi hv H locs ls hP hS hl
      refine lv_iload_n hx hb dX1_setOf_4 rfl (lv_at hl 2 rfl) ?_
      refine lv_iconst (v := 5) hx hb dX1_setOf_5 (by decide +kernel) ?_
      refine lv_icmp_ge (tgt := 33) hx hb dX1_setOf_6 (by decide) (fun _ => ?_) (fun hc => absurd (nI_le (a := 5) (by omega) (by omega)) hc)
      refine lv_iload_n hx hb dX1_setOf_33 rfl (lv_at hl 1 rfl) ?_
      refine x_iret hx hb hr hlocks hP hS dX1_setOf_34 ?_
      exact ⟨hv.symm, rfl⟩
    | succ n ih =>
      intro i a hi hv H locs ls hP hS hl
      refine lv_iload_n hx hb dX1_setOf_4 rfl (lv_at hl 2 rfl) ?_
      refine lv_iconst (v := 5) hx hb dX1_setOf_5 (by decide +kernel) ?_
      refine lv_icmp_ge (tgt := 33) hx hb dX1_setOf_6 (by decide) (fun hc => absurd hc (nI_ge (b := 5) (by omega) (by omega))) (fun _ => ?_)
      refine lv_iload_n hx hb dX1_setOf_9 rfl (lv_at hl 1 rfl) ?_
      refine lv_aload_n hx hb dX1_setOf_10 rfl (lv_at hl 0 rfl) ?_
      refine lv_iload_n hx hb dX1_setOf_11 rfl (lv_at hl 2 rfl) ?_
      refine x_calli (x_runV (As := [.int (nI i)]) (rest := [.int a]) hF (c1_ever hI S b hb0 i (by omega) ) (cwV 1 hts gX1_setOf_X1_ever rfl rfl rfl (by decide +kernel) ⟨Nat.le_of_ble_eq_true rfl, Nat.le_of_ble_eq_true rfl⟩) hK hP (by omega) (cLy_snd0 hb0 _) rfl rfl hl.1 rfl (Nat.le_of_ble_eq_true rfl) dX1_setOf_12 ⟨Nat.zero_le _, Nat.zero_le _⟩) hS hAd (fun r12 S12 H locs hw hP _ hS => ?_)
      obtain ⟨hw, eS12⟩ := hw
      rw [eS12] at hP
      by_cases q12 : ¬ 6 ≤ S (b + 2) i
      · have hw : r12 = 1 := hw.trans (if_pos q12)
        subst hw
        refine lv_if_eq (tgt := 24) hx hb dX1_setOf_15 (by decide) (fun hc => absurd hc (by decide)) (fun _ => ?_)
        refine lv_iconst (v := 1) hx hb dX1_setOf_18 (by decide +kernel) ?_
        refine lv_iload_n hx hb dX1_setOf_19 rfl (lv_at hl 2 rfl) ?_
        refine lv_ishl hx hb dX1_setOf_20 ?_
        refine lv_goto (tgt := 25) hx hb dX1_setOf_21 (by decide) ?_
        refine lv_ior hx hb dX1_setOf_25 ?_
        refine lv_topi (fun x26 ex26 => ?_)
        refine lv_istore_n (lv' := [(1, .int x26), (0, .ref (ad b)), (2, .int (nI i))]) hx hb dX1_setOf_26 rfl hl (by decide) rfl (fun ls hl => ?_)
        refine lv_iinc (v := nI (i + 1)) (lv' := [(2, .int (nI (i + 1))), (1, .int x26), (0, .ref (ad b))]) hx hb dX1_setOf_27 hl (k := 2) rfl (nI_1 _) (by decide) rfl (fun ls hl => ?_)
        refine lv_goto (tgt := 4) hx hb dX1_setOf_30 (by decide) ?_
        exact ih (i + 1) x26 (by omega) (hv.trans (congrArg (orL (fun s => if ¬ 6 ≤ S (b + 2) s then (1 : Int32) <<< (nI s &&& 31) else 0) n (i + 1)) (show a ||| (fun s => if ¬ 6 ≤ S (b + 2) s then (1 : Int32) <<< (nI s &&& 31) else 0) i = x26 from by subst ex26; simp [q12]))) H locs ls hP hS (lv_sub hl [2, 1, 0] rfl)
      · have hw : r12 = 0 := hw.trans (if_neg q12)
        subst hw
        refine lv_if_eq (tgt := 24) hx hb dX1_setOf_15 (by decide) (fun _ => ?_) (fun hc => absurd (by decide) hc)
        refine lv_iconst (v := 0) hx hb dX1_setOf_24 (by decide +kernel) ?_
        refine lv_ior hx hb dX1_setOf_25 ?_
        refine lv_topi (fun x26 ex26 => ?_)
        refine lv_istore_n (lv' := [(1, .int x26), (0, .ref (ad b)), (2, .int (nI i))]) hx hb dX1_setOf_26 rfl hl (by decide) rfl (fun ls hl => ?_)
        refine lv_iinc (v := nI (i + 1)) (lv' := [(2, .int (nI (i + 1))), (1, .int x26), (0, .ref (ad b))]) hx hb dX1_setOf_27 hl (k := 2) rfl (nI_1 _) (by decide) rfl (fun ls hl => ?_)
        refine lv_goto (tgt := 4) hx hb dX1_setOf_30 (by decide) ?_
        exact ih (i + 1) x26 (by omega) (hv.trans (congrArg (orL (fun s => if ¬ 6 ≤ S (b + 2) s then (1 : Int32) <<< (nI s &&& 31) else 0) n (i + 1)) (show a ||| (fun s => if ¬ 6 ≤ S (b + 2) s then (1 : Int32) <<< (nI s &&& 31) else 0) i = x26 from by subst ex26; simp [q12]))) H locs ls hP hS (lv_sub hl [2, 1, 0] rfl)
  refine lv_iconst (v := 0) hx hb dX1_setOf_0 (by decide +kernel) ?_
  refine lv_istore_n (lv' := [(1, .int 0), (0, .ref (ad b))]) hx hb dX1_setOf_1 rfl hl (by decide) rfl (fun ls hl => ?_)
  refine lv_iconst (v := 0) hx hb dX1_setOf_2 (by decide +kernel) ?_
  refine lv_istore_n (lv' := [(2, .int 0), (1, .int 0), (0, .ref (ad b))]) hx hb dX1_setOf_3 rfl hl (by decide) rfl (fun ls hl => ?_)
  exact L4 5 0 0 rfl rfl _ _ ls hP hS (lv_sub hl [2, 1, 0] rfl)

set_option maxHeartbeats 4000000 in
set_option maxRecDepth 100000 in
theorem c4_costOf (hI : xI 42 ad) (S : xSt) (j : Nat) (kn an : Int32) (hj : j < 5) : xMi l yX4_costOf wsX4_costOf ({ frames := 0, cells := 0, slots := 0, locals := 0 }) (dC, dI) vwCl (tyl cI cZ cS cG) (cLy cI cZ cS cG ad) 42 ad [.ref (ad 12), .int (nI j), .int kn, .int an] S (fun r S' => r = stakeC (S 20 j) (S 21 j) kn an ∧ S' = S) := by
  refine xM_of (cc := cX4_costOf) (nL := 6) (ret := (some .int)) (by decide) rfl (Nat.le_of_ble_eq_true rfl) ?_
  intro p e s m below meth c ls B hl hK hP
  obtain ⟨hx, hb, hml, hown, hts, hr, hlocks⟩ := B
  have hl : lv_has ls 6 [(0, .ref (ad 12)), (1, .int (nI j)), (2, .int kn), (3, .int an)] := hl
  have hS : va_S (xA 42 ad) s.heap s.heap [] := va_S.rf
  have hAd : ∀ k, k < 42 → xA 42 ad (ad k) := xA_in
  have hinX4 : ∀ w ∈ wsX40, w ∈ wsX4_costOf := fun _ h => List.mem_cons_of_mem _ (List.mem_append_right _ h)
  have hF : CallFix p m c cX4_costOf 6 s _ wsX4_costOf RX4 := ⟨hx, hb, hml, hown, hts⟩
  refine lv_aload_n hx hb dX4_costOf_0 rfl (lv_at hl 0 rfl) ?_
  refine x_get (v := .ref (ad 20)) hx hb hts hinX4 hown hK hP 12 (by decide) rfl rfl 6 (by decide) (hts _ (List.mem_of_getElem? (i := 1) rfl)) rfl dX4_costOf_1 ?_
  refine lv_iload_n hx hb dX4_costOf_4 rfl (lv_at hl 1 rfl) ?_
  refine x_iald (v := S 20 j) hx hb hK hP 20 0 (by decide) rfl rfl j rfl (by omega) (by decide) rfl dX4_costOf_5 ?_
  refine lv_aload_n hx hb dX4_costOf_6 rfl (lv_at hl 0 rfl) ?_
  refine x_get (v := .ref (ad 21)) hx hb hts hinX4 hown hK hP 12 (by decide) rfl rfl 7 (by decide) (hts _ (List.mem_of_getElem? (i := 2) rfl)) rfl dX4_costOf_7 ?_
  refine lv_iload_n hx hb dX4_costOf_10 rfl (lv_at hl 1 rfl) ?_
  refine x_iald (v := S 21 j) hx hb hK hP 21 0 (by decide) rfl rfl j rfl (by omega) (by decide) rfl dX4_costOf_11 ?_
  refine lv_iload_n hx hb dX4_costOf_12 rfl (lv_at hl 3 rfl) ?_
  refine lv_imul hx hb dX4_costOf_13 ?_
  refine lv_isub hx hb dX4_costOf_14 ?_
  refine lv_topi (fun x15 ex15 => ?_)
  refine lv_istore (lv' := [(4, .int x15), (0, .ref (ad 12)), (1, .int (nI j)), (2, .int kn), (3, .int an)]) hx hb dX4_costOf_15 hl (by decide) rfl (fun ls hl => ?_)
  refine lv_iload hx hb dX4_costOf_17 (lv_at hl 0 rfl) ?_
  refine lv_if_ge (tgt := 26) hx hb dX4_costOf_19 (by decide) (fun c19 => ?_) (fun c19 => ?_)
  · have d19 := Int32.not_lt.mpr c19
    refine lv_iload hx hb dX4_costOf_26 (lv_at hl 0 rfl) ?_
    refine lv_istore (lv' := [(5, .int x15), (4, .int x15), (0, .ref (ad 12)), (1, .int (nI j)), (2, .int kn), (3, .int an)]) hx hb dX4_costOf_28 hl (by decide) rfl (fun ls hl => ?_)
    refine lv_iload_n hx hb dX4_costOf_30 rfl (lv_at hl 4 rfl) ?_
    by_cases z31_1 : kn = 1
    · refine W.eq (g2 := F0 m 31 ls (.int 1 :: [])) (by rw [z31_1]) ?_
      refine lv_lookup (tgt := 61) (off := 30) hx hb dX4_costOf_31 (by decide +kernel) (by decide +kernel) (by decide) ?_
      refine lv_iload hx hb dX4_costOf_61 (lv_at hl 0 rfl) ?_
      refine lv_iconst (v := 2) hx hb dX4_costOf_63 (by decide +kernel) ?_
      refine lv_iadd hx hb dX4_costOf_64 ?_
      refine x_iret hx hb hr hlocks hP hS dX4_costOf_65 ?_
      subst ex15
      exact ⟨by simp [stakeC, c19, d19, z31_1], rfl⟩
    · skip
      by_cases z31_2 : kn = 2
      · refine W.eq (g2 := F0 m 31 ls (.int 2 :: [])) (by rw [z31_2]) ?_
        refine lv_lookup (tgt := 56) (off := 25) hx hb dX4_costOf_31 (by decide +kernel) (by decide +kernel) (by decide) ?_
        refine lv_iload hx hb dX4_costOf_56 (lv_at hl 0 rfl) ?_
        refine lv_iconst (v := 2) hx hb dX4_costOf_58 (by decide +kernel) ?_
        refine lv_idiv hx hb dX4_costOf_59 (by decide +kernel) ?_
        refine x_iret hx hb hr hlocks hP hS dX4_costOf_60 ?_
        subst ex15
        exact ⟨by simp [stakeC, c19, d19, z31_1, z31_2], rfl⟩
      · skip
        refine lv_lookup (tgt := 66) (off := 35) hx hb dX4_costOf_31 (by decide +kernel) (outL1_2 z31_1 z31_2) (by decide) ?_
        refine lv_iload hx hb dX4_costOf_66 (lv_at hl 0 rfl) ?_
        refine x_iret hx hb hr hlocks hP hS dX4_costOf_68 ?_
        subst ex15
        exact ⟨by simp [stakeC, c19, d19, z31_1, z31_2], rfl⟩
  · have d19 := Int32.not_le.mp c19
    refine lv_iconst (v := 0) hx hb dX4_costOf_22 (by decide +kernel) ?_
    refine lv_goto (tgt := 28) hx hb dX4_costOf_23 (by decide) ?_
    refine lv_istore (lv' := [(5, .int 0), (4, .int x15), (0, .ref (ad 12)), (1, .int (nI j)), (2, .int kn), (3, .int an)]) hx hb dX4_costOf_28 hl (by decide) rfl (fun ls hl => ?_)
    refine lv_iload_n hx hb dX4_costOf_30 rfl (lv_at hl 4 rfl) ?_
    by_cases z31_1 : kn = 1
    · refine W.eq (g2 := F0 m 31 ls (.int 1 :: [])) (by rw [z31_1]) ?_
      refine lv_lookup (tgt := 61) (off := 30) hx hb dX4_costOf_31 (by decide +kernel) (by decide +kernel) (by decide) ?_
      refine lv_iload hx hb dX4_costOf_61 (lv_at hl 0 rfl) ?_
      refine lv_iconst (v := 2) hx hb dX4_costOf_63 (by decide +kernel) ?_
      refine lv_iadd hx hb dX4_costOf_64 ?_
      refine x_iret hx hb hr hlocks hP hS dX4_costOf_65 ?_
      subst ex15
      exact ⟨by simp [stakeC, c19, d19, z31_1], rfl⟩
    · skip
      by_cases z31_2 : kn = 2
      · refine W.eq (g2 := F0 m 31 ls (.int 2 :: [])) (by rw [z31_2]) ?_
        refine lv_lookup (tgt := 56) (off := 25) hx hb dX4_costOf_31 (by decide +kernel) (by decide +kernel) (by decide) ?_
        refine lv_iload hx hb dX4_costOf_56 (lv_at hl 0 rfl) ?_
        refine lv_iconst (v := 2) hx hb dX4_costOf_58 (by decide +kernel) ?_
        refine lv_idiv hx hb dX4_costOf_59 (by decide +kernel) ?_
        refine x_iret hx hb hr hlocks hP hS dX4_costOf_60 ?_
        subst ex15
        exact ⟨by simp [stakeC, c19, d19, z31_1, z31_2], rfl⟩
      · skip
        refine lv_lookup (tgt := 66) (off := 35) hx hb dX4_costOf_31 (by decide +kernel) (outL1_2 z31_1 z31_2) (by decide) ?_
        refine lv_iload hx hb dX4_costOf_66 (lv_at hl 0 rfl) ?_
        refine x_iret hx hb hr hlocks hP hS dX4_costOf_68 ?_
        subst ex15
        exact ⟨by simp [stakeC, c19, d19, z31_1, z31_2], rfl⟩

set_option maxHeartbeats 4000000 in
set_option maxRecDepth 100000 in
theorem c4_costsOf (hI : xI 42 ad) (S : xSt) (b : Nat) (hb0 : b = 32 ∨ b = 35) (N : Nat) (hN : S 12 2 = nI N) (hN5 : N ≤ 5) (cn yn pg : Int32) : xMi l yX4_costsOf wsX4_costsOf ({ frames := 1, cells := 0, slots := 0, locals := 25 }) (dC, dI) vwCl (tyl cI cZ cS cG) (cLy cI cZ cS cG ad) 42 ad [.ref (ad 12), .int cn, .int yn, .ref (ad b), .int pg] S (fun r S' => r = sumL (stkC (S 19) (S 20) (S 21) (kpg pg (S 18)) (S (b + 2)) cn yn) N 0 0 ∧ S' = S) := by
  refine xM_of (cc := cX4_costsOf) (nL := 8) (ret := (some .int)) (by decide) rfl (Nat.le_of_ble_eq_true rfl) ?_
  intro p e s m below meth c ls B hl hK hP
  obtain ⟨hx, hb, hml, hown, hts, hr, hlocks⟩ := B
  have hl : lv_has ls 8 [(0, .ref (ad 12)), (1, .int cn), (2, .int yn), (3, .ref (ad b)), (4, .int pg)] := hl
  have hS : va_S (xA 42 ad) s.heap s.heap [] := va_S.rf
  have hAd : ∀ k, k < 42 → xA 42 ad (ad k) := xA_in
  have hinX1 : ∀ w ∈ wsX10, w ∈ wsX4_costsOf := fun _ h => List.mem_cons_of_mem _ (List.mem_append_right _ h)
  have hinX4 : ∀ w ∈ wsX40, w ∈ wsX4_costsOf := fun _ h => List.mem_cons_of_mem _ (List.mem_append_left _ (List.mem_append_right _ h))
  have hF : CallFix p m c cX4_costsOf 8 s _ wsX4_costsOf RX4 := ⟨hx, hb, hml, hown, hts⟩
  have L6 : ∀ (n : Nat) (i : Nat) (a : Int32) (hi : i + n = N) (hv : sumL (stkC (S 19) (S 20) (S 21) (kpg pg (S 18)) (S (b + 2)) cn yn) N 0 0 = sumL (stkC (S 19) (S 20) (S 21) (kpg pg (S 18)) (S (b + 2)) cn yn) n i a) (H : Heap) (locs : List Loc) (ls : Array Slot), va_P (dC, dI) vwCl (xW (cLy cI cZ cS cG ad) 42 ad S) H → va_S (xA 42 ad) s.heap H locs → lv_has ls 8 [(0, .ref (ad 12)), (1, .int cn), (2, .int yn), (3, .ref (ad b)), (4, .int pg), (5, .int a), (6, .int (nI i))] → W p l e ({ frames := 1, cells := 0, slots := 0, locals := 25 }) s m ([.ref (ad 12), .int cn, .int yn, .ref (ad b), .int pg] : List Value).toArray below meth c H locs 0 0 (MQ below (xQi (dC, dI) vwCl (cLy cI cZ cS cG ad) 42 ad (fun r S' => r = sumL (stkC (S 19) (S 20) (S 21) (kpg pg (S 18)) (S (b + 2)) cn yn) N 0 0 ∧ S' = S)) ([.ref (ad 12), .int cn, .int yn, .ref (ad b), .int pg] : List Value).toArray s 0 0 (xA 42 ad)) (F0 m 6 ls []) := by
    intro n
    induction n with
    | zero =>
      intro i a hi hv H locs ls hP hS hl
      refine lv_iload hx hb dX4_costsOf_6 (lv_at hl 6 rfl) ?_
      refine lv_aload_n hx hb dX4_costsOf_8 rfl (lv_at hl 0 rfl) ?_
      refine x_get (v := .int (nI N)) hx hb hts hinX4 hown hK hP 12 (by decide) rfl rfl 2 (by decide) (hts _ (List.mem_of_getElem? (i := 1) rfl)) (congrArg (fun z => some (Value.int z)) hN) dX4_costsOf_9 ?_
      refine lv_icmp_ge (tgt := 88) hx hb dX4_costsOf_12 (by decide) (fun _ => ?_) (fun hc => absurd (nI_le (by omega) (by omega)) hc)
      refine lv_iload hx hb dX4_costsOf_88 (lv_at hl 5 rfl) ?_
      refine x_iret hx hb hr hlocks hP hS dX4_costsOf_90 ?_
      exact ⟨hv.symm, rfl⟩
    | succ n ih =>
      intro i a hi hv H locs ls hP hS hl
      refine lv_iload hx hb dX4_costsOf_6 (lv_at hl 6 rfl) ?_
      refine lv_aload_n hx hb dX4_costsOf_8 rfl (lv_at hl 0 rfl) ?_
      refine x_get (v := .int (nI N)) hx hb hts hinX4 hown hK hP 12 (by decide) rfl rfl 2 (by decide) (hts _ (List.mem_of_getElem? (i := 1) rfl)) (congrArg (fun z => some (Value.int z)) hN) dX4_costsOf_9 ?_
      refine lv_icmp_ge (tgt := 88) hx hb dX4_costsOf_12 (by decide) (fun hc => absurd hc (nI_ge (by omega) (by omega))) (fun _ => ?_)
      refine lv_aload_n hx hb dX4_costsOf_15 rfl (lv_at hl 0 rfl) ?_
      refine x_get (v := .ref (ad 19)) hx hb hts hinX4 hown hK hP 12 (by decide) rfl rfl 5 (by decide) (hts _ (List.mem_of_getElem? (i := 2) rfl)) rfl dX4_costsOf_16 ?_
      refine lv_iload hx hb dX4_costsOf_19 (lv_at hl 6 rfl) ?_
      refine x_iald (v := S 19 i) hx hb hK hP 19 0 (by decide) rfl rfl i rfl (by omega) (by decide) rfl dX4_costsOf_21 ?_
      refine lv_iload_n hx hb dX4_costsOf_22 rfl (lv_at hl 1 rfl) ?_
      refine lv_icmp_ne (tgt := 82) hx hb dX4_costsOf_23 (by decide) (fun c23 => ?_) (fun c23 => ?_)
      · refine lv_iinc (v := nI (i + 1)) (lv' := [(6, .int (nI (i + 1))), (0, .ref (ad 12)), (1, .int cn), (2, .int yn), (3, .ref (ad b)), (4, .int pg), (5, .int a)]) hx hb dX4_costsOf_82 hl (k := 6) rfl (nI_1 _) (by decide) rfl (fun ls hl => ?_)
        refine lv_goto (tgt := 6) hx hb dX4_costsOf_85 (by decide) ?_
        exact ih (i + 1) a (by omega) (hv.trans (congrArg (sumL (stkC (S 19) (S 20) (S 21) (kpg pg (S 18)) (S (b + 2)) cn yn) n (i + 1)) (show a + (stkC (S 19) (S 20) (S 21) (kpg pg (S 18)) (S (b + 2)) cn yn) i = a from by skip; simp [stkC, kpg, c23]))) H locs ls hP hS (lv_sub hl [1, 2, 3, 4, 5, 6, 0] rfl)
      · refine lv_aload_n hx hb dX4_costsOf_26 rfl (lv_at hl 3 rfl) ?_
        refine lv_iload hx hb dX4_costsOf_27 (lv_at hl 6 rfl) ?_
        refine lv_iload_n hx hb dX4_costsOf_29 rfl (lv_at hl 2 rfl) ?_
        refine x_calli (x_runV (As := [.int (nI i), .int yn]) (rest := []) hF (c1_isAway hI S b hb0 i yn (by omega) ) (cwV 2 hts gX4_costsOf_X1_isAway rfl rfl rfl (by decide +kernel) ⟨Nat.le_of_ble_eq_true rfl, Nat.le_of_ble_eq_true rfl⟩) hK hP (by omega) (cLy_snd0 hb0 _) rfl rfl hl.1 rfl (Nat.le_of_ble_eq_true rfl) dX4_costsOf_30 ⟨Nat.zero_le _, Nat.zero_le _⟩) hS hAd (fun r30 S30 H locs hw hP _ hS => ?_)
        obtain ⟨hw, eS30⟩ := hw
        rw [eS30] at hP
        by_cases q30 : ¬ yn < S (b + 2) i
        · have hw : r30 = 1 := hw.trans (if_pos q30)
          subst hw
          refine lv_if_eq (tgt := 82) hx hb dX4_costsOf_33 (by decide) (fun hc => absurd hc (by decide)) (fun _ => ?_)
          refine lv_iload hx hb dX4_costsOf_36 (lv_at hl 4 rfl) ?_
          refine lv_iload hx hb dX4_costsOf_38 (lv_at hl 6 rfl) ?_
          refine lv_ishr hx hb dX4_costsOf_40 ?_
          refine lv_iconst (v := 1) hx hb dX4_costsOf_41 (by decide +kernel) ?_
          refine lv_iand hx hb dX4_costsOf_42 ?_
          refine lv_iconst (v := 1) hx hb dX4_costsOf_43 (by decide +kernel) ?_
          refine lv_icmp_ne (tgt := 51) hx hb dX4_costsOf_44 (by decide) (fun c44 => ?_) (fun c44 => ?_)
          · refine lv_aload_n hx hb dX4_costsOf_51 rfl (lv_at hl 0 rfl) ?_
            refine x_get (v := .ref (ad 18)) hx hb hts hinX4 hown hK hP 12 (by decide) rfl rfl 4 (by decide) (hts _ (List.mem_of_getElem? (i := 3) rfl)) rfl dX4_costsOf_52 ?_
            refine lv_iload hx hb dX4_costsOf_55 (lv_at hl 6 rfl) ?_
            refine x_iald (v := S 18 i) hx hb hK hP 18 0 (by decide) rfl rfl i rfl (by omega) (by decide) rfl dX4_costsOf_57 ?_
            refine lv_topi (fun x58 ex58 => ?_)
            refine lv_istore (lv' := [(7, .int x58), (0, .ref (ad 12)), (1, .int cn), (2, .int yn), (3, .ref (ad b)), (4, .int pg), (5, .int a), (6, .int (nI i))]) hx hb dX4_costsOf_58 hl (by decide) rfl (fun ls hl => ?_)
            refine lv_iload hx hb dX4_costsOf_60 (lv_at hl 6 rfl) ?_
            refine lv_aload_n hx hb dX4_costsOf_62 rfl (lv_at hl 1 rfl) ?_
            refine lv_iload hx hb dX4_costsOf_63 (lv_at hl 7 rfl) ?_
            refine lv_iload hx hb dX4_costsOf_65 (lv_at hl 0 rfl) ?_
            refine lv_iload_n hx hb dX4_costsOf_67 rfl (lv_at hl 3 rfl) ?_
            refine lv_aload_n hx hb dX4_costsOf_68 rfl (lv_at hl 4 rfl) ?_
            refine x_get (v := .ref (ad (b + 2))) hx hb hts hinX1 hown hK hP b (by omega) (cLy_snd0 hb0 _) rfl 1 (by decide) (hts _ (List.mem_of_getElem? (i := 4) rfl)) rfl dX4_costsOf_69 ?_
            refine lv_iload hx hb dX4_costsOf_72 (lv_at hl 7 rfl) ?_
            refine x_iald (v := S (b + 2) i) hx hb hK hP (b + 2) 0 (by omega) (cLy_snd2 hb0 _) rfl i rfl (by omega) (by decide) rfl dX4_costsOf_74 ?_
            refine lv_isub hx hb dX4_costsOf_75 ?_
            refine x_calli (x_runV (As := [.int (nI i), .int x58, .int (yn - (S (b + 2) i))]) (rest := [.int a]) hF (c4_costOf hI S i x58 (yn - (S (b + 2) i)) (by omega) ) (cwV 3 hts gX4_costsOf_X4_costOf rfl rfl rfl (by decide +kernel) ⟨Nat.le_of_ble_eq_true rfl, Nat.le_of_ble_eq_true rfl⟩) hK hP (by decide) rfl rfl rfl hl.1 rfl (Nat.le_of_ble_eq_true rfl) dX4_costsOf_76 ⟨Nat.zero_le _, Nat.zero_le _⟩) hS hAd (fun r76 S76 H locs hw hP _ hS => ?_)
            obtain ⟨er76, eS76⟩ := hw
            rw [eS76] at hP
            refine lv_iadd hx hb dX4_costsOf_79 ?_
            refine lv_topi (fun x80 ex80 => ?_)
            refine lv_istore (lv' := [(5, .int x80), (7, .int x58), (0, .ref (ad 12)), (1, .int cn), (2, .int yn), (3, .ref (ad b)), (4, .int pg), (6, .int (nI i))]) hx hb dX4_costsOf_80 hl (by decide) rfl (fun ls hl => ?_)
            refine lv_iinc (v := nI (i + 1)) (lv' := [(6, .int (nI (i + 1))), (5, .int x80), (7, .int x58), (0, .ref (ad 12)), (1, .int cn), (2, .int yn), (3, .ref (ad b)), (4, .int pg)]) hx hb dX4_costsOf_82 hl (k := 7) rfl (nI_1 _) (by decide) rfl (fun ls hl => ?_)
            refine lv_goto (tgt := 6) hx hb dX4_costsOf_85 (by decide) ?_
            exact ih (i + 1) x80 (by omega) (hv.trans (congrArg (sumL (stkC (S 19) (S 20) (S 21) (kpg pg (S 18)) (S (b + 2)) cn yn) n (i + 1)) (show a + (stkC (S 19) (S 20) (S 21) (kpg pg (S 18)) (S (b + 2)) cn yn) i = x80 from by subst ex58; subst er76; subst ex80; simp [stkC, kpg, c23, q30, c44]))) H locs ls hP hS (lv_sub hl [3, 4, 5, 6, 7, 1, 0] rfl)
          · refine lv_iconst (v := 2) hx hb dX4_costsOf_47 (by decide +kernel) ?_
            refine lv_goto (tgt := 58) hx hb dX4_costsOf_48 (by decide) ?_
            refine lv_istore (lv' := [(7, .int 2), (0, .ref (ad 12)), (1, .int cn), (2, .int yn), (3, .ref (ad b)), (4, .int pg), (5, .int a), (6, .int (nI i))]) hx hb dX4_costsOf_58 hl (by decide) rfl (fun ls hl => ?_)
            refine lv_iload hx hb dX4_costsOf_60 (lv_at hl 6 rfl) ?_
            refine lv_aload_n hx hb dX4_costsOf_62 rfl (lv_at hl 1 rfl) ?_
            refine lv_iload hx hb dX4_costsOf_63 (lv_at hl 7 rfl) ?_
            refine lv_iload hx hb dX4_costsOf_65 (lv_at hl 0 rfl) ?_
            refine lv_iload_n hx hb dX4_costsOf_67 rfl (lv_at hl 3 rfl) ?_
            refine lv_aload_n hx hb dX4_costsOf_68 rfl (lv_at hl 4 rfl) ?_
            refine x_get (v := .ref (ad (b + 2))) hx hb hts hinX1 hown hK hP b (by omega) (cLy_snd0 hb0 _) rfl 1 (by decide) (hts _ (List.mem_of_getElem? (i := 4) rfl)) rfl dX4_costsOf_69 ?_
            refine lv_iload hx hb dX4_costsOf_72 (lv_at hl 7 rfl) ?_
            refine x_iald (v := S (b + 2) i) hx hb hK hP (b + 2) 0 (by omega) (cLy_snd2 hb0 _) rfl i rfl (by omega) (by decide) rfl dX4_costsOf_74 ?_
            refine lv_isub hx hb dX4_costsOf_75 ?_
            refine x_calli (x_runV (As := [.int (nI i), .int 2, .int (yn - (S (b + 2) i))]) (rest := [.int a]) hF (c4_costOf hI S i 2 (yn - (S (b + 2) i)) (by omega) ) (cwV 3 hts gX4_costsOf_X4_costOf rfl rfl rfl (by decide +kernel) ⟨Nat.le_of_ble_eq_true rfl, Nat.le_of_ble_eq_true rfl⟩) hK hP (by decide) rfl rfl rfl hl.1 rfl (Nat.le_of_ble_eq_true rfl) dX4_costsOf_76 ⟨Nat.zero_le _, Nat.zero_le _⟩) hS hAd (fun r76 S76 H locs hw hP _ hS => ?_)
            obtain ⟨er76, eS76⟩ := hw
            rw [eS76] at hP
            refine lv_iadd hx hb dX4_costsOf_79 ?_
            refine lv_topi (fun x80 ex80 => ?_)
            refine lv_istore (lv' := [(5, .int x80), (7, .int 2), (0, .ref (ad 12)), (1, .int cn), (2, .int yn), (3, .ref (ad b)), (4, .int pg), (6, .int (nI i))]) hx hb dX4_costsOf_80 hl (by decide) rfl (fun ls hl => ?_)
            refine lv_iinc (v := nI (i + 1)) (lv' := [(6, .int (nI (i + 1))), (5, .int x80), (7, .int 2), (0, .ref (ad 12)), (1, .int cn), (2, .int yn), (3, .ref (ad b)), (4, .int pg)]) hx hb dX4_costsOf_82 hl (k := 7) rfl (nI_1 _) (by decide) rfl (fun ls hl => ?_)
            refine lv_goto (tgt := 6) hx hb dX4_costsOf_85 (by decide) ?_
            exact ih (i + 1) x80 (by omega) (hv.trans (congrArg (sumL (stkC (S 19) (S 20) (S 21) (kpg pg (S 18)) (S (b + 2)) cn yn) n (i + 1)) (show a + (stkC (S 19) (S 20) (S 21) (kpg pg (S 18)) (S (b + 2)) cn yn) i = x80 from by subst er76; subst ex80; simp [stkC, kpg, c23, q30, c44]))) H locs ls hP hS (lv_sub hl [3, 4, 5, 6, 7, 1, 0] rfl)
        · have hw : r30 = 0 := hw.trans (if_neg q30)
          subst hw
          refine lv_if_eq (tgt := 82) hx hb dX4_costsOf_33 (by decide) (fun _ => ?_) (fun hc => absurd (by decide) hc)
          refine lv_iinc (v := nI (i + 1)) (lv' := [(6, .int (nI (i + 1))), (0, .ref (ad 12)), (1, .int cn), (2, .int yn), (3, .ref (ad b)), (4, .int pg), (5, .int a)]) hx hb dX4_costsOf_82 hl (k := 6) rfl (nI_1 _) (by decide) rfl (fun ls hl => ?_)
          refine lv_goto (tgt := 6) hx hb dX4_costsOf_85 (by decide) ?_
          exact ih (i + 1) a (by omega) (hv.trans (congrArg (sumL (stkC (S 19) (S 20) (S 21) (kpg pg (S 18)) (S (b + 2)) cn yn) n (i + 1)) (show a + (stkC (S 19) (S 20) (S 21) (kpg pg (S 18)) (S (b + 2)) cn yn) i = a from by skip; simp [stkC, kpg, c23, q30]))) H locs ls hP hS (lv_sub hl [1, 2, 3, 4, 5, 6, 0] rfl)
  refine lv_iconst (v := 0) hx hb dX4_costsOf_0 (by decide +kernel) ?_
  refine lv_istore (lv' := [(5, .int 0), (0, .ref (ad 12)), (1, .int cn), (2, .int yn), (3, .ref (ad b)), (4, .int pg)]) hx hb dX4_costsOf_1 hl (by decide) rfl (fun ls hl => ?_)
  refine lv_iconst (v := 0) hx hb dX4_costsOf_3 (by decide +kernel) ?_
  refine lv_istore (lv' := [(6, .int 0), (5, .int 0), (0, .ref (ad 12)), (1, .int cn), (2, .int yn), (3, .ref (ad b)), (4, .int pg)]) hx hb dX4_costsOf_4 hl (by decide) rfl (fun ls hl => ?_)
  exact L6 N 0 0 (Nat.zero_add N) rfl _ _ ls hP hS (lv_sub hl [2, 3, 4, 5, 6, 1, 0] rfl)

set_option maxHeartbeats 4000000 in
set_option maxRecDepth 100000 in
theorem c4_wouldBreak (hI : xI 42 ad) (S : xSt) (b : Nat) (hb0 : b = 32 ∨ b = 35) (N : Nat) (hN : S 12 2 = nI N) (hN5 : N ≤ 5) (c0 y0 : Nat) (pg : Int32) (hc : c0 < 4) (hy : y0 < 6) : xMi l yX4_wouldBreak wsX4_wouldBreak ({ frames := 2, cells := 0, slots := 0, locals := 52 }) (dC, dI) vwCl (tyl cI cZ cS cG) (cLy cI cZ cS cG ad) 42 ad [.ref (ad 12), .int (nI c0), .int (nI y0), .ref (ad b), .int pg] S (fun r S' => r = (if cT S N b pg c0 y0 = true then 1 else 0) ∧ S' = S) := by
  refine xM_of (cc := cX4_wouldBreak) (nL := 5) (ret := (some .boolean)) (by decide) rfl (Nat.le_of_ble_eq_true rfl) ?_
  intro p e s m below meth c ls B hl hK hP
  obtain ⟨hx, hb, hml, hown, hts, hr, hlocks⟩ := B
  have hl : lv_has ls 5 [(0, .ref (ad 12)), (1, .int (nI c0)), (2, .int (nI y0)), (3, .ref (ad b)), (4, .int pg)] := hl
  have hS : va_S (xA 42 ad) s.heap s.heap [] := va_S.rf
  have hAd : ∀ k, k < 42 → xA 42 ad (ad k) := xA_in
  have hinX4 : ∀ w ∈ wsX40, w ∈ wsX4_wouldBreak := fun _ h => List.mem_cons_of_mem _ (List.mem_append_left _ (List.mem_append_right _ h))
  have hF : CallFix p m c cX4_wouldBreak 5 s _ wsX4_wouldBreak RX4 := ⟨hx, hb, hml, hown, hts⟩
  refine lv_aload_n hx hb dX4_wouldBreak_0 rfl (lv_at hl 0 rfl) ?_
  refine x_get (v := .ref (ad 13)) hx hb hts hinX4 hown hK hP 12 (by decide) rfl rfl 3 (by decide) (hts _ (List.mem_of_getElem? (i := 1) rfl)) rfl dX4_wouldBreak_1 ?_
  refine lv_iload_n hx hb dX4_wouldBreak_4 rfl (lv_at hl 1 rfl) ?_
  refine x_aald (v := .ref (ad (14 + c0))) hx hb hK hP 13 3 (by decide) rfl rfl rfl c0 rfl (by omega) (by decide) (if_pos_rf (by omega)) dX4_wouldBreak_5 ?_
  refine lv_iload_n hx hb dX4_wouldBreak_6 rfl (lv_at hl 2 rfl) ?_
  refine x_iald (v := S (14 + c0) y0) hx hb hK hP (14 + c0) 0 (by omega) (cLy_gain14 (by omega) _) rfl y0 rfl (by omega) (by decide) rfl dX4_wouldBreak_7 ?_
  refine lv_aload_n hx hb dX4_wouldBreak_8 rfl (lv_at hl 0 rfl) ?_
  refine lv_iload_n hx hb dX4_wouldBreak_9 rfl (lv_at hl 1 rfl) ?_
  refine lv_iload_n hx hb dX4_wouldBreak_10 rfl (lv_at hl 2 rfl) ?_
  refine lv_aload_n hx hb dX4_wouldBreak_11 rfl (lv_at hl 3 rfl) ?_
  refine lv_iload hx hb dX4_wouldBreak_12 (lv_at hl 4 rfl) ?_
  refine x_calli (x_runV (As := [.int (nI c0), .int (nI y0), .ref (ad b), .int pg]) (rest := [.int (S (14 + c0) y0)]) hF (c4_costsOf hI S b hb0 N hN hN5 (nI c0) (nI y0) pg ) (cwV 4 hts gX4_wouldBreak_X4_costsOf rfl rfl rfl (by decide +kernel) ⟨Nat.le_of_ble_eq_true rfl, Nat.le_of_ble_eq_true rfl⟩) hK hP (by decide) rfl rfl rfl hl.1 rfl (Nat.le_of_ble_eq_true rfl) dX4_wouldBreak_14 ⟨Nat.zero_le _, Nat.zero_le _⟩) hS hAd (fun r14 S14 H locs hw hP _ hS => ?_)
  obtain ⟨er14, eS14⟩ := hw
  rw [eS14] at hP
  refine lv_icmp_le (tgt := 24) hx hb dX4_wouldBreak_17 (by decide) (fun c17 => ?_) (fun c17 => ?_)
  · have d17 := Int32.not_lt.mpr c17
    refine lv_iconst (v := 0) hx hb dX4_wouldBreak_24 (by decide +kernel) ?_
    refine x_zret hx hb hr hlocks hP hS dX4_wouldBreak_25 (Or.inl rfl) ?_
    subst er14
    exact ⟨by simp [cT, tmpC, c17, d17], rfl⟩
  · have d17 := Int32.not_le.mp c17
    refine lv_iconst (v := 1) hx hb dX4_wouldBreak_20 (by decide +kernel) ?_
    refine lv_goto (tgt := 25) hx hb dX4_wouldBreak_21 (by decide) ?_
    refine x_zret hx hb hr hlocks hP hS dX4_wouldBreak_25 (Or.inr rfl) ?_
    subst er14
    exact ⟨by simp [cT, tmpC, c17, d17], rfl⟩

set_option maxHeartbeats 4000000 in
set_option maxRecDepth 100000 in
theorem c4_firstToBreak (hI : xI 42 ad) (S : xSt) (b : Nat) (hb0 : b = 32 ∨ b = 35) (N : Nat) (hN : S 12 2 = nI N) (hN5 : N ≤ 5) (C : Nat) (hC : S 12 0 = nI C) (hC4 : C ≤ 4) (y0 : Nat) (pg : Int32) (hy : y0 < 6) : xMi l yX4_firstToBreak wsX4_firstToBreak ({ frames := 3, cells := 0, slots := 0, locals := 76 }) (dC, dI) vwCl (tyl cI cZ cS cG) (cLy cI cZ cS cG ad) 42 ad [.ref (ad 12), .int (nI y0), .ref (ad b), .int pg] S (fun r S' => r = cFst S N C b pg y0 ∧ S' = S) := by
  refine xM_of (cc := cX4_firstToBreak) (nL := 5) (ret := (some .int)) (by decide) rfl (Nat.le_of_ble_eq_true rfl) ?_
  intro p e s m below meth c ls B hl hK hP
  obtain ⟨hx, hb, hml, hown, hts, hr, hlocks⟩ := B
  have hl : lv_has ls 5 [(0, .ref (ad 12)), (1, .int (nI y0)), (2, .ref (ad b)), (3, .int pg)] := hl
  have hS : va_S (xA 42 ad) s.heap s.heap [] := va_S.rf
  have hAd : ∀ k, k < 42 → xA 42 ad (ad k) := xA_in
  have hinX4 : ∀ w ∈ wsX40, w ∈ wsX4_firstToBreak := fun _ h => List.mem_cons_of_mem _ (List.mem_append_left _ (List.mem_append_right _ h))
  have hF : CallFix p m c cX4_firstToBreak 5 s _ wsX4_firstToBreak RX4 := ⟨hx, hb, hml, hown, hts⟩
  have L3 : ∀ (n : Nat) (i : Nat) (hi : i + n = C) (hv : cFst S N C b pg y0 = scan (fun c => cT S N b pg c y0) n i) (H : Heap) (locs : List Loc) (ls : Array Slot), va_P (dC, dI) vwCl (xW (cLy cI cZ cS cG ad) 42 ad S) H → va_S (xA 42 ad) s.heap H locs → lv_has ls 5 [(0, .ref (ad 12)), (1, .int (nI y0)), (2, .ref (ad b)), (3, .int pg), (4, .int (nI i))] → W p l e ({ frames := 3, cells := 0, slots := 0, locals := 76 }) s m ([.ref (ad 12), .int (nI y0), .ref (ad b), .int pg] : List Value).toArray below meth c H locs 0 0 (MQ below (xQi (dC, dI) vwCl (cLy cI cZ cS cG ad) 42 ad (fun r S' => r = cFst S N C b pg y0 ∧ S' = S)) ([.ref (ad 12), .int (nI y0), .ref (ad b), .int pg] : List Value).toArray s 0 0 (xA 42 ad)) (F0 m 3 ls []) := by
    intro n
    induction n with
    | zero =>
      intro i hi hv H locs ls hP hS hl
      refine lv_iload hx hb dX4_firstToBreak_3 (lv_at hl 4 rfl) ?_
      refine lv_aload_n hx hb dX4_firstToBreak_5 rfl (lv_at hl 0 rfl) ?_
      refine x_get (v := .int (nI C)) hx hb hts hinX4 hown hK hP 12 (by decide) rfl rfl 0 (by decide) (hts _ (List.mem_of_getElem? (i := 1) rfl)) (congrArg (fun z => some (Value.int z)) hC) dX4_firstToBreak_6 ?_
      refine lv_icmp_ge (tgt := 33) hx hb dX4_firstToBreak_9 (by decide) (fun _ => ?_) (fun hc => absurd (nI_le (by omega) (by omega)) hc)
      refine lv_bipush (v := (-9)) hx hb dX4_firstToBreak_33 (by decide +kernel) ?_
      refine x_iret hx hb hr hlocks hP hS dX4_firstToBreak_35 ?_
      exact ⟨hv.symm, rfl⟩
    | succ n ih =>
      intro i hi hv H locs ls hP hS hl
      refine lv_iload hx hb dX4_firstToBreak_3 (lv_at hl 4 rfl) ?_
      refine lv_aload_n hx hb dX4_firstToBreak_5 rfl (lv_at hl 0 rfl) ?_
      refine x_get (v := .int (nI C)) hx hb hts hinX4 hown hK hP 12 (by decide) rfl rfl 0 (by decide) (hts _ (List.mem_of_getElem? (i := 1) rfl)) (congrArg (fun z => some (Value.int z)) hC) dX4_firstToBreak_6 ?_
      refine lv_icmp_ge (tgt := 33) hx hb dX4_firstToBreak_9 (by decide) (fun hc => absurd hc (nI_ge (by omega) (by omega))) (fun _ => ?_)
      refine lv_aload_n hx hb dX4_firstToBreak_12 rfl (lv_at hl 0 rfl) ?_
      refine lv_iload hx hb dX4_firstToBreak_13 (lv_at hl 4 rfl) ?_
      refine lv_iload_n hx hb dX4_firstToBreak_15 rfl (lv_at hl 1 rfl) ?_
      refine lv_aload_n hx hb dX4_firstToBreak_16 rfl (lv_at hl 2 rfl) ?_
      refine lv_iload_n hx hb dX4_firstToBreak_17 rfl (lv_at hl 3 rfl) ?_
      refine x_calli (x_runV (As := [.int (nI i), .int (nI y0), .ref (ad b), .int pg]) (rest := []) hF (c4_wouldBreak hI S b hb0 N hN hN5 i y0 pg (by omega) (by omega) ) (cwV 4 hts gX4_firstToBreak_X4_wouldBreak rfl rfl rfl (by decide +kernel) ⟨Nat.le_of_ble_eq_true rfl, Nat.le_of_ble_eq_true rfl⟩) hK hP (by decide) rfl rfl rfl hl.1 rfl (Nat.le_of_ble_eq_true rfl) dX4_firstToBreak_18 ⟨Nat.zero_le _, Nat.zero_le _⟩) hS hAd (fun r18 S18 H locs hw hP _ hS => ?_)
      obtain ⟨hw, eS18⟩ := hw
      rw [eS18] at hP
      by_cases q18 : cT S N b pg i y0 = true
      · have hw : r18 = 1 := hw.trans (if_pos q18)
        subst hw
        refine lv_if_eq (tgt := 27) hx hb dX4_firstToBreak_21 (by decide) (fun hc => absurd hc (by decide)) (fun _ => ?_)
        refine lv_iload hx hb dX4_firstToBreak_24 (lv_at hl 4 rfl) ?_
        refine x_iret hx hb hr hlocks hP hS dX4_firstToBreak_26 ?_
        exact ⟨by rw [hv, scan, if_pos q18], rfl⟩
      · have hw : r18 = 0 := hw.trans (if_neg q18)
        subst hw
        refine lv_if_eq (tgt := 27) hx hb dX4_firstToBreak_21 (by decide) (fun _ => ?_) (fun hc => absurd (by decide) hc)
        refine lv_iinc (v := nI (i + 1)) (lv' := [(4, .int (nI (i + 1))), (0, .ref (ad 12)), (1, .int (nI y0)), (2, .ref (ad b)), (3, .int pg)]) hx hb dX4_firstToBreak_27 hl (k := 4) rfl (nI_1 _) (by decide) rfl (fun ls hl => ?_)
        refine lv_goto (tgt := 3) hx hb dX4_firstToBreak_30 (by decide) ?_
        exact ih (i + 1) (by omega) (hv.trans (by rw [scan, if_neg q18])) H locs ls hP hS (lv_sub hl [1, 2, 3, 4, 0] rfl)
  refine lv_iconst (v := 0) hx hb dX4_firstToBreak_0 (by decide +kernel) ?_
  refine lv_istore (lv' := [(4, .int 0), (0, .ref (ad 12)), (1, .int (nI y0)), (2, .ref (ad b)), (3, .int pg)]) hx hb dX4_firstToBreak_1 hl (by decide) rfl (fun ls hl => ?_)
  exact L3 C 0 (Nat.zero_add C) rfl _ _ ls hP hS (lv_sub hl [1, 2, 3, 4, 0] rfl)

set_option maxHeartbeats 4000000 in
set_option maxRecDepth 100000 in
theorem c4_breakYear (hI : xI 42 ad) (S : xSt) (b : Nat) (hb0 : b = 32 ∨ b = 35) (N : Nat) (hN : S 12 2 = nI N) (hN5 : N ≤ 5) (C : Nat) (hC : S 12 0 = nI C) (hC4 : C ≤ 4) (Y : Nat) (hY : S 12 1 = nI Y) (hY6 : Y ≤ 6) (pg : Int32) : xMi l yX4_breakYear wsX4_breakYear ({ frames := 4, cells := 0, slots := 0, locals := 100 }) (dC, dI) vwCl (tyl cI cZ cS cG) (cLy cI cZ cS cG ad) 42 ad [.ref (ad 12), .ref (ad b), .int pg] S (fun r S' => r = cBrk S N C Y b pg ∧ S' = S) := by
  refine xM_of (cc := cX4_breakYear) (nL := 4) (ret := (some .int)) (by decide) rfl (Nat.le_of_ble_eq_true rfl) ?_
  intro p e s m below meth c ls B hl hK hP
  obtain ⟨hx, hb, hml, hown, hts, hr, hlocks⟩ := B
  have hl : lv_has ls 4 [(0, .ref (ad 12)), (1, .ref (ad b)), (2, .int pg)] := hl
  have hS : va_S (xA 42 ad) s.heap s.heap [] := va_S.rf
  have hAd : ∀ k, k < 42 → xA 42 ad (ad k) := xA_in
  have hinX4 : ∀ w ∈ wsX40, w ∈ wsX4_breakYear := fun _ h => List.mem_cons_of_mem _ (List.mem_append_left _ (List.mem_append_right _ h))
  have hF : CallFix p m c cX4_breakYear 4 s _ wsX4_breakYear RX4 := ⟨hx, hb, hml, hown, hts⟩
  have L2 : ∀ (n : Nat) (i : Nat) (hi : i + n = Y) (hv : cBrk S N C Y b pg = scan (fun y => decide (¬ cFst S N C b pg y = -9)) n i) (H : Heap) (locs : List Loc) (ls : Array Slot), va_P (dC, dI) vwCl (xW (cLy cI cZ cS cG ad) 42 ad S) H → va_S (xA 42 ad) s.heap H locs → lv_has ls 4 [(0, .ref (ad 12)), (1, .ref (ad b)), (2, .int pg), (3, .int (nI i))] → W p l e ({ frames := 4, cells := 0, slots := 0, locals := 100 }) s m ([.ref (ad 12), .ref (ad b), .int pg] : List Value).toArray below meth c H locs 0 0 (MQ below (xQi (dC, dI) vwCl (cLy cI cZ cS cG ad) 42 ad (fun r S' => r = cBrk S N C Y b pg ∧ S' = S)) ([.ref (ad 12), .ref (ad b), .int pg] : List Value).toArray s 0 0 (xA 42 ad)) (F0 m 2 ls []) := by
    intro n
    induction n with
    | zero =>
      intro i hi hv H locs ls hP hS hl
      refine lv_iload_n hx hb dX4_breakYear_2 rfl (lv_at hl 3 rfl) ?_
      refine lv_aload_n hx hb dX4_breakYear_3 rfl (lv_at hl 0 rfl) ?_
      refine x_get (v := .int (nI Y)) hx hb hts hinX4 hown hK hP 12 (by decide) rfl rfl 1 (by decide) (hts _ (List.mem_of_getElem? (i := 1) rfl)) (congrArg (fun z => some (Value.int z)) hY) dX4_breakYear_4 ?_
      refine lv_icmp_ge (tgt := 30) hx hb dX4_breakYear_7 (by decide) (fun _ => ?_) (fun hc => absurd (nI_le (by omega) (by omega)) hc)
      refine lv_bipush (v := (-9)) hx hb dX4_breakYear_30 (by decide +kernel) ?_
      refine x_iret hx hb hr hlocks hP hS dX4_breakYear_32 ?_
      exact ⟨hv.symm, rfl⟩
    | succ n ih =>
      intro i hi hv H locs ls hP hS hl
      refine lv_iload_n hx hb dX4_breakYear_2 rfl (lv_at hl 3 rfl) ?_
      refine lv_aload_n hx hb dX4_breakYear_3 rfl (lv_at hl 0 rfl) ?_
      refine x_get (v := .int (nI Y)) hx hb hts hinX4 hown hK hP 12 (by decide) rfl rfl 1 (by decide) (hts _ (List.mem_of_getElem? (i := 1) rfl)) (congrArg (fun z => some (Value.int z)) hY) dX4_breakYear_4 ?_
      refine lv_icmp_ge (tgt := 30) hx hb dX4_breakYear_7 (by decide) (fun hc => absurd hc (nI_ge (by omega) (by omega))) (fun _ => ?_)
      refine lv_aload_n hx hb dX4_breakYear_10 rfl (lv_at hl 0 rfl) ?_
      refine lv_iload_n hx hb dX4_breakYear_11 rfl (lv_at hl 3 rfl) ?_
      refine lv_aload_n hx hb dX4_breakYear_12 rfl (lv_at hl 1 rfl) ?_
      refine lv_iload_n hx hb dX4_breakYear_13 rfl (lv_at hl 2 rfl) ?_
      refine x_calli (x_runV (As := [.int (nI i), .ref (ad b), .int pg]) (rest := []) hF (c4_firstToBreak hI S b hb0 N hN hN5 C hC hC4 i pg (by omega) ) (cwV 3 hts gX4_breakYear_X4_firstToBreak rfl rfl rfl (by decide +kernel) ⟨Nat.le_of_ble_eq_true rfl, Nat.le_of_ble_eq_true rfl⟩) hK hP (by decide) rfl rfl rfl hl.1 rfl (Nat.le_of_ble_eq_true rfl) dX4_breakYear_14 ⟨Nat.zero_le _, Nat.zero_le _⟩) hS hAd (fun r14 S14 H locs hw hP _ hS => ?_)
      obtain ⟨er14, eS14⟩ := hw
      rw [eS14] at hP
      refine lv_bipush (v := (-9)) hx hb dX4_breakYear_17 (by decide +kernel) ?_
      refine lv_icmp_eq (tgt := 24) hx hb dX4_breakYear_19 (by decide) (fun c19 => ?_) (fun c19 => ?_)
      · refine lv_iinc (v := nI (i + 1)) (lv' := [(3, .int (nI (i + 1))), (0, .ref (ad 12)), (1, .ref (ad b)), (2, .int pg)]) hx hb dX4_breakYear_24 hl (k := 3) rfl (nI_1 _) (by decide) rfl (fun ls hl => ?_)
        refine lv_goto (tgt := 2) hx hb dX4_breakYear_27 (by decide) ?_
        exact ih (i + 1) (by omega) (hv.trans (by subst er14; rw [scan, if_neg (by simp [c19])])) H locs ls hP hS (lv_sub hl [1, 2, 3, 0] rfl)
      · refine lv_iload_n hx hb dX4_breakYear_22 rfl (lv_at hl 3 rfl) ?_
        refine x_iret hx hb hr hlocks hP hS dX4_breakYear_23 ?_
        subst er14
        exact ⟨by rw [hv, scan, if_pos (by simp [c19])], rfl⟩
  refine lv_iconst (v := 0) hx hb dX4_breakYear_0 (by decide +kernel) ?_
  refine lv_istore_n (lv' := [(3, .int 0), (0, .ref (ad 12)), (1, .ref (ad b)), (2, .int pg)]) hx hb dX4_breakYear_1 rfl hl (by decide) rfl (fun ls hl => ?_)
  exact L2 Y 0 (Nat.zero_add Y) rfl _ _ ls hP hS (lv_sub hl [1, 2, 3, 0] rfl)

set_option maxHeartbeats 4000000 in
set_option maxRecDepth 100000 in
theorem c4_breakYearOf (hI : xI 42 ad) (S : xSt) (b : Nat) (hb0 : b = 32 ∨ b = 35) (N : Nat) (hN : S 12 2 = nI N) (hN5 : N ≤ 5) (Y : Nat) (hY : S 12 1 = nI Y) (hY6 : Y ≤ 6) (c0 : Nat) (hc : c0 < 4) : xMi l yX4_breakYearOf wsX4_breakYearOf ({ frames := 3, cells := 0, slots := 0, locals := 76 }) (dC, dI) vwCl (tyl cI cZ cS cG) (cLy cI cZ cS cG ad) 42 ad [.ref (ad 12), .int (nI c0), .ref (ad b)] S (fun r S' => r = scan (fun y => cT S N b 0 c0 y) Y 0 ∧ S' = S) := by
  refine xM_of (cc := cX4_breakYearOf) (nL := 4) (ret := (some .int)) (by decide) rfl (Nat.le_of_ble_eq_true rfl) ?_
  intro p e s m below meth c ls B hl hK hP
  obtain ⟨hx, hb, hml, hown, hts, hr, hlocks⟩ := B
  have hl : lv_has ls 4 [(0, .ref (ad 12)), (1, .int (nI c0)), (2, .ref (ad b))] := hl
  have hS : va_S (xA 42 ad) s.heap s.heap [] := va_S.rf
  have hAd : ∀ k, k < 42 → xA 42 ad (ad k) := xA_in
  have hinX4 : ∀ w ∈ wsX40, w ∈ wsX4_breakYearOf := fun _ h => List.mem_cons_of_mem _ (List.mem_append_left _ (List.mem_append_right _ h))
  have hF : CallFix p m c cX4_breakYearOf 4 s _ wsX4_breakYearOf RX4 := ⟨hx, hb, hml, hown, hts⟩
  have L2 : ∀ (n : Nat) (i : Nat) (hi : i + n = Y) (hv : scan (fun y => cT S N b 0 c0 y) Y 0 = scan (fun y => cT S N b 0 c0 y) n i) (H : Heap) (locs : List Loc) (ls : Array Slot), va_P (dC, dI) vwCl (xW (cLy cI cZ cS cG ad) 42 ad S) H → va_S (xA 42 ad) s.heap H locs → lv_has ls 4 [(0, .ref (ad 12)), (1, .int (nI c0)), (2, .ref (ad b)), (3, .int (nI i))] → W p l e ({ frames := 3, cells := 0, slots := 0, locals := 76 }) s m ([.ref (ad 12), .int (nI c0), .ref (ad b)] : List Value).toArray below meth c H locs 0 0 (MQ below (xQi (dC, dI) vwCl (cLy cI cZ cS cG ad) 42 ad (fun r S' => r = scan (fun y => cT S N b 0 c0 y) Y 0 ∧ S' = S)) ([.ref (ad 12), .int (nI c0), .ref (ad b)] : List Value).toArray s 0 0 (xA 42 ad)) (F0 m 2 ls []) := by
    intro n
    induction n with
    | zero =>
      intro i hi hv H locs ls hP hS hl
      refine lv_iload_n hx hb dX4_breakYearOf_2 rfl (lv_at hl 3 rfl) ?_
      refine lv_aload_n hx hb dX4_breakYearOf_3 rfl (lv_at hl 0 rfl) ?_
      refine x_get (v := .int (nI Y)) hx hb hts hinX4 hown hK hP 12 (by decide) rfl rfl 1 (by decide) (hts _ (List.mem_of_getElem? (i := 1) rfl)) (congrArg (fun z => some (Value.int z)) hY) dX4_breakYearOf_4 ?_
      refine lv_icmp_ge (tgt := 29) hx hb dX4_breakYearOf_7 (by decide) (fun _ => ?_) (fun hc => absurd (nI_le (by omega) (by omega)) hc)
      refine lv_bipush (v := (-9)) hx hb dX4_breakYearOf_29 (by decide +kernel) ?_
      refine x_iret hx hb hr hlocks hP hS dX4_breakYearOf_31 ?_
      exact ⟨hv.symm, rfl⟩
    | succ n ih =>
      intro i hi hv H locs ls hP hS hl
      refine lv_iload_n hx hb dX4_breakYearOf_2 rfl (lv_at hl 3 rfl) ?_
      refine lv_aload_n hx hb dX4_breakYearOf_3 rfl (lv_at hl 0 rfl) ?_
      refine x_get (v := .int (nI Y)) hx hb hts hinX4 hown hK hP 12 (by decide) rfl rfl 1 (by decide) (hts _ (List.mem_of_getElem? (i := 1) rfl)) (congrArg (fun z => some (Value.int z)) hY) dX4_breakYearOf_4 ?_
      refine lv_icmp_ge (tgt := 29) hx hb dX4_breakYearOf_7 (by decide) (fun hc => absurd hc (nI_ge (by omega) (by omega))) (fun _ => ?_)
      refine lv_aload_n hx hb dX4_breakYearOf_10 rfl (lv_at hl 0 rfl) ?_
      refine lv_iload_n hx hb dX4_breakYearOf_11 rfl (lv_at hl 1 rfl) ?_
      refine lv_iload_n hx hb dX4_breakYearOf_12 rfl (lv_at hl 3 rfl) ?_
      refine lv_aload_n hx hb dX4_breakYearOf_13 rfl (lv_at hl 2 rfl) ?_
      refine lv_iconst (v := 0) hx hb dX4_breakYearOf_14 (by decide +kernel) ?_
      refine x_calli (x_runV (As := [.int (nI c0), .int (nI i), .ref (ad b), .int 0]) (rest := []) hF (c4_wouldBreak hI S b hb0 N hN hN5 c0 i 0 (by omega) (by omega) ) (cwV 4 hts gX4_breakYearOf_X4_wouldBreak rfl rfl rfl (by decide +kernel) ⟨Nat.le_of_ble_eq_true rfl, Nat.le_of_ble_eq_true rfl⟩) hK hP (by decide) rfl rfl rfl hl.1 rfl (Nat.le_of_ble_eq_true rfl) dX4_breakYearOf_15 ⟨Nat.zero_le _, Nat.zero_le _⟩) hS hAd (fun r15 S15 H locs hw hP _ hS => ?_)
      obtain ⟨hw, eS15⟩ := hw
      rw [eS15] at hP
      by_cases q15 : cT S N b 0 c0 i = true
      · have hw : r15 = 1 := hw.trans (if_pos q15)
        subst hw
        refine lv_if_eq (tgt := 23) hx hb dX4_breakYearOf_18 (by decide) (fun hc => absurd hc (by decide)) (fun _ => ?_)
        refine lv_iload_n hx hb dX4_breakYearOf_21 rfl (lv_at hl 3 rfl) ?_
        refine x_iret hx hb hr hlocks hP hS dX4_breakYearOf_22 ?_
        exact ⟨by rw [hv, scan, if_pos q15], rfl⟩
      · have hw : r15 = 0 := hw.trans (if_neg q15)
        subst hw
        refine lv_if_eq (tgt := 23) hx hb dX4_breakYearOf_18 (by decide) (fun _ => ?_) (fun hc => absurd (by decide) hc)
        refine lv_iinc (v := nI (i + 1)) (lv' := [(3, .int (nI (i + 1))), (0, .ref (ad 12)), (1, .int (nI c0)), (2, .ref (ad b))]) hx hb dX4_breakYearOf_23 hl (k := 3) rfl (nI_1 _) (by decide) rfl (fun ls hl => ?_)
        refine lv_goto (tgt := 2) hx hb dX4_breakYearOf_26 (by decide) ?_
        exact ih (i + 1) (by omega) (hv.trans (by rw [scan, if_neg q15])) H locs ls hP hS (lv_sub hl [1, 2, 3, 0] rfl)
  refine lv_iconst (v := 0) hx hb dX4_breakYearOf_0 (by decide +kernel) ?_
  refine lv_istore_n (lv' := [(3, .int 0), (0, .ref (ad 12)), (1, .int (nI c0)), (2, .ref (ad b))]) hx hb dX4_breakYearOf_1 rfl hl (by decide) rfl (fun ls hl => ?_)
  exact L2 Y 0 (Nat.zero_add Y) rfl _ _ ls hP hS (lv_sub hl [1, 2, 3, 0] rfl)

set_option maxHeartbeats 4000000 in
set_option maxRecDepth 100000 in
theorem c0_note (hI : xI 42 ad) (S : xSt) (R : Nat) (hR : S 38 3 = nI R) (hR8 : R ≤ 8) (cn yn wn : Int32) (hw01 : wn = 0 ∨ wn = 1) : xMi l yX0_note wsX0_note ({ frames := 0, cells := 0, slots := 0, locals := 0 }) (dC, dI) vwCl (tyl cI cZ cS cG) (cLy cI cZ cS cG ad) 42 ad [.ref (ad 38), .int cn, .int yn, .int wn] S (fun r S' => r = (if nI R < 8 then nI R else -4) ∧ S' = (if nI R < 8 then su (su (su (su S 39 R cn) 40 R yn) 41 R wn) 38 3 (nI R + 1) else S)) := by
  refine xM_of (cc := cX0_note) (nL := 5) (ret := (some .int)) (by decide) rfl (Nat.le_of_ble_eq_true rfl) ?_
  intro p e s m below meth c ls B hl hK hP
  obtain ⟨hx, hb, hml, hown, hts, hr, hlocks⟩ := B
  have hl : lv_has ls 5 [(0, .ref (ad 38)), (1, .int cn), (2, .int yn), (3, .int wn)] := hl
  have hS : va_S (xA 42 ad) s.heap s.heap [] := va_S.rf
  have hAd : ∀ k, k < 42 → xA 42 ad (ad k) := xA_in
  have hinX0 : ∀ w ∈ wsX00, w ∈ wsX0_note := fun _ h => List.mem_cons_of_mem _ (List.mem_append_right _ h)
  have hF : CallFix p m c cX0_note 5 s _ wsX0_note RX0 := ⟨hx, hb, hml, hown, hts⟩
  refine lv_aload_n hx hb dX0_note_0 rfl (lv_at hl 0 rfl) ?_
  refine x_get (v := .int (nI R)) hx hb hts hinX0 hown hK hP 38 (by decide) rfl rfl 3 (by decide) (hts _ (List.mem_of_getElem? (i := 1) rfl)) (congrArg (fun z => some (Value.int z)) hR) dX0_note_1 ?_
  refine lv_bipush (v := 8) hx hb dX0_note_4 (by decide +kernel) ?_
  refine lv_icmp_lt (tgt := 12) hx hb dX0_note_6 (by decide) (fun c6 => ?_) (fun c6 => ?_)
  · have d6 := Int32.not_le.mpr c6
    refine lv_aload_n hx hb dX0_note_12 rfl (lv_at hl 0 rfl) ?_
    refine x_get (v := .int (nI R)) hx hb hts hinX0 hown hK hP 38 (by decide) rfl rfl 3 (by decide) (hts _ (List.mem_of_getElem? (i := 1) rfl)) (congrArg (fun z => some (Value.int z)) hR) dX0_note_13 ?_
    refine lv_istore (lv' := [(4, .int (nI R)), (0, .ref (ad 38)), (1, .int cn), (2, .int yn), (3, .int wn)]) hx hb dX0_note_16 hl (by decide) rfl (fun ls hl => ?_)
    refine lv_aload_n hx hb dX0_note_18 rfl (lv_at hl 1 rfl) ?_
    refine x_get (v := .ref (ad 39)) hx hb hts hinX0 hown hK hP 38 (by decide) rfl rfl 0 (by decide) (hts _ (List.mem_of_getElem? (i := 2) rfl)) rfl dX0_note_19 ?_
    refine lv_iload hx hb dX0_note_22 (lv_at hl 0 rfl) ?_
    refine lv_iload_n hx hb dX0_note_24 rfl (lv_at hl 2 rfl) ?_
    refine x_iast hx hb hK hI hAd hP hS 39 0 (by decide) (fun _ => rfl) rfl R rfl (by have := (nI_ltI (a := R) (b := 8) (by omega) (by omega)).mp c6; omega) (by decide) dX0_note_25 (fun H locs hP hS => ?_)
    refine lv_aload_n hx hb dX0_note_26 rfl (lv_at hl 1 rfl) ?_
    refine x_get (v := .ref (ad 40)) hx hb hts hinX0 hown hK hP 38 (by decide) rfl rfl 1 (by decide) (hts _ (List.mem_of_getElem? (i := 3) rfl)) rfl dX0_note_27 ?_
    refine lv_iload hx hb dX0_note_30 (lv_at hl 0 rfl) ?_
    refine lv_iload_n hx hb dX0_note_32 rfl (lv_at hl 3 rfl) ?_
    refine x_iast hx hb hK hI hAd hP hS 40 0 (by decide) (fun _ => rfl) rfl R rfl (by have := (nI_ltI (a := R) (b := 8) (by omega) (by omega)).mp c6; omega) (by decide) dX0_note_33 (fun H locs hP hS => ?_)
    refine lv_aload_n hx hb dX0_note_34 rfl (lv_at hl 1 rfl) ?_
    refine x_get (v := .ref (ad 41)) hx hb hts hinX0 hown hK hP 38 (by decide) rfl rfl 2 (by decide) (hts _ (List.mem_of_getElem? (i := 4) rfl)) rfl dX0_note_35 ?_
    refine lv_iload hx hb dX0_note_38 (lv_at hl 0 rfl) ?_
    refine lv_iload_n hx hb dX0_note_40 rfl (lv_at hl 4 rfl) ?_
    refine x_zast hx hb hK hI hAd hP hS 41 1 (by decide) (fun _ => rfl) rfl (by rcases hw01 with rfl | rfl <;> decide +kernel) R rfl (by have := (nI_ltI (a := R) (b := 8) (by omega) (by omega)).mp c6; omega) (by decide) dX0_note_41 (fun H locs hP hS => ?_)
    refine lv_aload_n hx hb dX0_note_42 rfl (lv_at hl 1 rfl) ?_
    refine lv_dup hx hb dX0_note_43 rfl ?_
    refine x_get (v := .int (nI R)) hx hb hts hinX0 hown hK hP 38 (by decide) rfl rfl 3 (by decide) (hts _ (List.mem_of_getElem? (i := 1) rfl)) (congrArg (fun z => some (Value.int z)) hR) dX0_note_44 ?_
    refine lv_iconst (v := 1) hx hb dX0_note_47 (by decide +kernel) ?_
    refine lv_iadd hx hb dX0_note_48 ?_
    refine x_put hx hb hts hinX0 tyX0 tyX0_ok nmX0 hown hK hI hAd hP hS 38 (by decide) rfl rfl 3 (by decide) (hts _ (List.mem_of_getElem? (i := 1) rfl)) rfl (upd ((su (su (su S 39 R cn) 40 R yn) 41 R wn) 38) 3 ((nI R) + 1)) rfl rfl rfl (Nat.le_of_ble_eq_true rfl) dX0_note_49 (fun H locs hP hS => ?_)
    have hP : va_P (dC, dI) vwCl (xW (cLy cI cZ cS cG ad) 42 ad (su (su (su (su S 39 R cn) 40 R yn) 41 R wn) 38 3 ((nI R) + 1))) H := hP
    refine lv_iload hx hb dX0_note_52 (lv_at hl 0 rfl) ?_
    refine x_iret hx hb hr hlocks hP hS dX0_note_54 ?_
    skip
    exact ⟨by simp [c6, d6], by simp [c6, d6]⟩
  · have d6 := Int32.not_lt.mp c6
    refine lv_bipush (v := (-4)) hx hb dX0_note_9 (by decide +kernel) ?_
    refine x_iret hx hb hr hlocks hP hS dX0_note_11 ?_
    skip
    exact ⟨by simp [c6, d6], by simp [c6, d6]⟩

set_option maxHeartbeats 4000000 in
set_option maxRecDepth 100000 in
theorem c0_allSo (hI : xI 42 ad) (S : xSt) (b : Nat) (hb0 : b = 32 ∨ b = 35) (N : Nat) (hN : S 12 2 = nI N) (hN5 : N ≤ 5) (R : Nat) (hR : S 38 3 = nI R) (hR8 : R ≤ 8) (hrd : ∀ q, q < R → okN (S 39 q) 4 ∧ okN (S 40 q) 6) : xMi l yX0_allSo wsX0_allSo ({ frames := 3, cells := 0, slots := 0, locals := 76 }) (dC, dI) vwCl (tyl cI cZ cS cG) (cLy cI cZ cS cG ad) 42 ad [.ref (ad 38), .ref (ad 12), .ref (ad b)] S (fun r S' => r = (if cSo S N R b = true then 1 else 0) ∧ S' = S) := by
  refine xM_of (cc := cX0_allSo) (nL := 4) (ret := (some .boolean)) (by decide) rfl (Nat.le_of_ble_eq_true rfl) ?_
  intro p e s m below meth c ls B hl hK hP
  obtain ⟨hx, hb, hml, hown, hts, hr, hlocks⟩ := B
  have hl : lv_has ls 4 [(0, .ref (ad 38)), (1, .ref (ad 12)), (2, .ref (ad b))] := hl
  have hS : va_S (xA 42 ad) s.heap s.heap [] := va_S.rf
  have hAd : ∀ k, k < 42 → xA 42 ad (ad k) := xA_in
  have hinX0 : ∀ w ∈ wsX00, w ∈ wsX0_allSo := fun _ h => List.mem_cons_of_mem _ (List.mem_append_left _ (List.mem_append_left _ (List.mem_append_right _ h)))
  have hF : CallFix p m c cX0_allSo 4 s _ wsX0_allSo RX0 := ⟨hx, hb, hml, hown, hts⟩
  have L2 : ∀ (n : Nat) (i : Nat) (hi : i + n = R) (hv : cSo S N R b = allL (fun q => decide ((if cT S N b 0 (nN (S 39 q)) (nN (S 40 q)) = true then (1 : Int32) else 0) = S 41 q)) n i) (H : Heap) (locs : List Loc) (ls : Array Slot), va_P (dC, dI) vwCl (xW (cLy cI cZ cS cG ad) 42 ad S) H → va_S (xA 42 ad) s.heap H locs → lv_has ls 4 [(0, .ref (ad 38)), (1, .ref (ad 12)), (2, .ref (ad b)), (3, .int (nI i))] → W p l e ({ frames := 3, cells := 0, slots := 0, locals := 76 }) s m ([.ref (ad 38), .ref (ad 12), .ref (ad b)] : List Value).toArray below meth c H locs 0 0 (MQ below (xQi (dC, dI) vwCl (cLy cI cZ cS cG ad) 42 ad (fun r S' => r = (if cSo S N R b = true then 1 else 0) ∧ S' = S)) ([.ref (ad 38), .ref (ad 12), .ref (ad b)] : List Value).toArray s 0 0 (xA 42 ad)) (F0 m 2 ls []) := by
    intro n
    induction n with
    | zero =>
      intro i hi hv H locs ls hP hS hl
      refine lv_iload_n hx hb dX0_allSo_2 rfl (lv_at hl 3 rfl) ?_
      refine lv_aload_n hx hb dX0_allSo_3 rfl (lv_at hl 0 rfl) ?_
      refine x_get (v := .int (nI R)) hx hb hts hinX0 hown hK hP 38 (by decide) rfl rfl 3 (by decide) (hts _ (List.mem_of_getElem? (i := 1) rfl)) (congrArg (fun z => some (Value.int z)) hR) dX0_allSo_4 ?_
      refine lv_icmp_ge (tgt := 45) hx hb dX0_allSo_7 (by decide) (fun _ => ?_) (fun hc => absurd (nI_le (by omega) (by omega)) hc)
      refine lv_iconst (v := 1) hx hb dX0_allSo_45 (by decide +kernel) ?_
      refine x_zret hx hb hr hlocks hP hS dX0_allSo_46 (Or.inr rfl) ?_
      exact ⟨by rw [if_pos (show cSo S N R b = true from hv)], rfl⟩
    | succ n ih =>
      intro i hi hv H locs ls hP hS hl
      obtain ⟨⟨c0, hc0, ec0⟩, ⟨y0, hy0, ey0⟩⟩ := hrd i (by omega)
      have en : nN (S 39 i) = c0 := by rw [ec0]; exact nN_nI (by omega)
      have em : nN (S 40 i) = y0 := by rw [ey0]; exact nN_nI (by omega)
      refine lv_iload_n hx hb dX0_allSo_2 rfl (lv_at hl 3 rfl) ?_
      refine lv_aload_n hx hb dX0_allSo_3 rfl (lv_at hl 0 rfl) ?_
      refine x_get (v := .int (nI R)) hx hb hts hinX0 hown hK hP 38 (by decide) rfl rfl 3 (by decide) (hts _ (List.mem_of_getElem? (i := 1) rfl)) (congrArg (fun z => some (Value.int z)) hR) dX0_allSo_4 ?_
      refine lv_icmp_ge (tgt := 45) hx hb dX0_allSo_7 (by decide) (fun hc => absurd hc (nI_ge (by omega) (by omega))) (fun _ => ?_)
      refine lv_aload_n hx hb dX0_allSo_10 rfl (lv_at hl 1 rfl) ?_
      refine lv_aload_n hx hb dX0_allSo_11 rfl (lv_at hl 0 rfl) ?_
      refine x_get (v := .ref (ad 39)) hx hb hts hinX0 hown hK hP 38 (by decide) rfl rfl 0 (by decide) (hts _ (List.mem_of_getElem? (i := 2) rfl)) rfl dX0_allSo_12 ?_
      refine lv_iload_n hx hb dX0_allSo_15 rfl (lv_at hl 3 rfl) ?_
      refine x_iald (v := nI c0) hx hb hK hP 39 0 (by decide) rfl rfl i rfl (by omega) (by decide) ec0 dX0_allSo_16 ?_
      refine lv_aload_n hx hb dX0_allSo_17 rfl (lv_at hl 0 rfl) ?_
      refine x_get (v := .ref (ad 40)) hx hb hts hinX0 hown hK hP 38 (by decide) rfl rfl 1 (by decide) (hts _ (List.mem_of_getElem? (i := 3) rfl)) rfl dX0_allSo_18 ?_
      refine lv_iload_n hx hb dX0_allSo_21 rfl (lv_at hl 3 rfl) ?_
      refine x_iald (v := nI y0) hx hb hK hP 40 0 (by decide) rfl rfl i rfl (by omega) (by decide) ey0 dX0_allSo_22 ?_
      refine lv_aload_n hx hb dX0_allSo_23 rfl (lv_at hl 2 rfl) ?_
      refine lv_iconst (v := 0) hx hb dX0_allSo_24 (by decide +kernel) ?_
      refine x_calli (x_runV (As := [.int (nI c0), .int (nI y0), .ref (ad b), .int 0]) (rest := []) hF (c4_wouldBreak hI S b hb0 N hN hN5 c0 y0 0 (by omega) (by omega) ) (cwV 4 hts gX0_allSo_X4_wouldBreak rfl rfl rfl (by decide +kernel) ⟨Nat.le_of_ble_eq_true rfl, Nat.le_of_ble_eq_true rfl⟩) hK hP (by decide) rfl rfl rfl hl.1 rfl (Nat.le_of_ble_eq_true rfl) dX0_allSo_25 ⟨Nat.zero_le _, Nat.zero_le _⟩) hS hAd (fun r25 S25 H locs hw hP _ hS => ?_)
      obtain ⟨hw, eS25⟩ := hw
      rw [eS25] at hP
      by_cases q25 : cT S N b 0 c0 y0 = true
      · have hw : r25 = 1 := hw.trans (if_pos q25)
        subst hw
        refine lv_aload_n hx hb dX0_allSo_28 rfl (lv_at hl 0 rfl) ?_
        refine x_get (v := .ref (ad 41)) hx hb hts hinX0 hown hK hP 38 (by decide) rfl rfl 2 (by decide) (hts _ (List.mem_of_getElem? (i := 4) rfl)) rfl dX0_allSo_29 ?_
        refine lv_iload_n hx hb dX0_allSo_32 rfl (lv_at hl 3 rfl) ?_
        refine x_zald (v := S 41 i) hx hb hK hP 41 1 (by decide) rfl rfl i rfl (by omega) (by decide) rfl dX0_allSo_33 ?_
        refine lv_icmp_eq (tgt := 39) hx hb dX0_allSo_34 (by decide) (fun c34 => ?_) (fun c34 => ?_)
        · refine lv_iinc (v := nI (i + 1)) (lv' := [(3, .int (nI (i + 1))), (0, .ref (ad 38)), (1, .ref (ad 12)), (2, .ref (ad b))]) hx hb dX0_allSo_39 hl (k := 3) rfl (nI_1 _) (by decide) rfl (fun ls hl => ?_)
          refine lv_goto (tgt := 2) hx hb dX0_allSo_42 (by decide) ?_
          exact ih (i + 1) (by omega) (hv.trans (by rw [allL]; simp [en, em, q25, ← c34])) H locs ls hP hS (lv_sub hl [1, 2, 3, 0] rfl)
        · refine lv_iconst (v := 0) hx hb dX0_allSo_37 (by decide +kernel) ?_
          refine x_zret hx hb hr hlocks hP hS dX0_allSo_38 (Or.inl rfl) ?_
          exact ⟨by rw [hv, allL]; simp [en, em, q25, c34], rfl⟩
      · have hw : r25 = 0 := hw.trans (if_neg q25)
        subst hw
        refine lv_aload_n hx hb dX0_allSo_28 rfl (lv_at hl 0 rfl) ?_
        refine x_get (v := .ref (ad 41)) hx hb hts hinX0 hown hK hP 38 (by decide) rfl rfl 2 (by decide) (hts _ (List.mem_of_getElem? (i := 4) rfl)) rfl dX0_allSo_29 ?_
        refine lv_iload_n hx hb dX0_allSo_32 rfl (lv_at hl 3 rfl) ?_
        refine x_zald (v := S 41 i) hx hb hK hP 41 1 (by decide) rfl rfl i rfl (by omega) (by decide) rfl dX0_allSo_33 ?_
        refine lv_icmp_eq (tgt := 39) hx hb dX0_allSo_34 (by decide) (fun c34 => ?_) (fun c34 => ?_)
        · refine lv_iinc (v := nI (i + 1)) (lv' := [(3, .int (nI (i + 1))), (0, .ref (ad 38)), (1, .ref (ad 12)), (2, .ref (ad b))]) hx hb dX0_allSo_39 hl (k := 3) rfl (nI_1 _) (by decide) rfl (fun ls hl => ?_)
          refine lv_goto (tgt := 2) hx hb dX0_allSo_42 (by decide) ?_
          exact ih (i + 1) (by omega) (hv.trans (by rw [allL]; simp [en, em, q25, ← c34])) H locs ls hP hS (lv_sub hl [1, 2, 3, 0] rfl)
        · refine lv_iconst (v := 0) hx hb dX0_allSo_37 (by decide +kernel) ?_
          refine x_zret hx hb hr hlocks hP hS dX0_allSo_38 (Or.inl rfl) ?_
          exact ⟨by rw [hv, allL]; simp [en, em, q25, c34], rfl⟩
  refine lv_iconst (v := 0) hx hb dX0_allSo_0 (by decide +kernel) ?_
  refine lv_istore_n (lv' := [(3, .int 0), (0, .ref (ad 38)), (1, .ref (ad 12)), (2, .ref (ad b))]) hx hb dX0_allSo_1 rfl hl (by decide) rfl (fun ls hl => ?_)
  exact L2 R 0 (Nat.zero_add R) rfl _ _ ls hP hS (lv_sub hl [1, 2, 3, 0] rfl)

end C1
