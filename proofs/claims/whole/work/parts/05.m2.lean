section M2
variable {l : Launch} {dC : Nat → ClassId} {dI : Nat → Nat → Nat} {cI cZ cS cG : ClassId} {ad bd : Nat → Nat}
set_option maxHeartbeats 4000000 in
set_option maxRecDepth 100000 in
theorem c6_askNow (hI : xI 18 bd) (S : xSt) (N : Nat) (hN : S 0 7 = nI N) (hN5 : N ≤ 5) : xMv l yX6_askNow wsX6_askNow ({ frames := 0, cells := 0, slots := 0, locals := 0 }) (dC, dI) vwCl (tyl cI cZ cS cG) (mLy cI cZ bd) 18 bd [.ref (bd 0)] S (fun S' => S' = sr S 13 (askF S N)) := by
  refine xM_of (cc := cX6_askNow) (nL := 2) (ret := none) (by decide) rfl (Nat.le_of_ble_eq_true rfl) ?_
  intro p e s m below meth c ls B hl hK hP
  obtain ⟨hx, hb, hml, hown, hts, hr, hlocks⟩ := B
  have hl : lv_has ls 2 [(0, .ref (bd 0))] := hl
  have hS : va_S (xA 18 bd) s.heap s.heap [] := va_S.rf
  have hAd : ∀ k, k < 18 → xA 18 bd (bd k) := xA_in
  have hinX6 : ∀ w ∈ wsX60, w ∈ wsX6_askNow := fun _ h => List.mem_cons_of_mem _ (List.mem_append_right _ h)
  have hF : CallFix p m c cX6_askNow 2 s _ wsX6_askNow RX6 := ⟨hx, hb, hml, hown, hts⟩
  have L2 : ∀ (n : Nat) (i : Nat) (hi : i + n = N) (H : Heap) (locs : List Loc) (ls : Array Slot), va_P (dC, dI) vwCl (xW (mLy cI cZ bd) 18 bd (sr S 13 (fil (fun s => if S 10 s = -9 then S 0 6 else S 10 s) (S 13) i))) H → va_S (xA 18 bd) s.heap H locs → lv_has ls 2 [(0, .ref (bd 0)), (1, .int (nI i))] → W p l e ({ frames := 0, cells := 0, slots := 0, locals := 0 }) s m ([.ref (bd 0)] : List Value).toArray below meth c H locs 0 0 (MQ below (xQv (dC, dI) vwCl (mLy cI cZ bd) 18 bd (fun S' => S' = sr S 13 (askF S N))) ([.ref (bd 0)] : List Value).toArray s 0 0 (xA 18 bd)) (F0 m 2 ls []) := by
    intro n
    induction n with
    | zero =>
      intro i hi H locs ls hP hS hl
      refine lv_iload_n hx hb dX6_askNow_2 rfl (lv_at hl 1 rfl) ?_
      refine lv_aload_n hx hb dX6_askNow_3 rfl (lv_at hl 0 rfl) ?_
      refine x_get (v := .int (nI N)) hx hb hts hinX6 hown hK hP 0 (by decide) rfl rfl 7 (by decide) (hts _ (List.mem_of_getElem? (i := 1) rfl)) (congrArg (fun z => some (Value.int z)) hN) dX6_askNow_4 ?_
      refine lv_icmp_ge (tgt := 46) hx hb dX6_askNow_7 (by decide) (fun _ => ?_) (fun hc => absurd (nI_le (by omega) (by omega)) hc)
      refine x_vret hx hb hr hlocks hP hS dX6_askNow_46 ?_
      exact (by rw [show i = N by omega]; rfl)
    | succ n ih =>
      intro i hi H locs ls hP hS hl
      refine lv_iload_n hx hb dX6_askNow_2 rfl (lv_at hl 1 rfl) ?_
      refine lv_aload_n hx hb dX6_askNow_3 rfl (lv_at hl 0 rfl) ?_
      refine x_get (v := .int (nI N)) hx hb hts hinX6 hown hK hP 0 (by decide) rfl rfl 7 (by decide) (hts _ (List.mem_of_getElem? (i := 1) rfl)) (congrArg (fun z => some (Value.int z)) hN) dX6_askNow_4 ?_
      refine lv_icmp_ge (tgt := 46) hx hb dX6_askNow_7 (by decide) (fun hc => absurd hc (nI_ge (by omega) (by omega))) (fun _ => ?_)
      refine lv_aload_n hx hb dX6_askNow_10 rfl (lv_at hl 0 rfl) ?_
      refine x_get (v := .ref (bd 13)) hx hb hts hinX6 hown hK hP 0 (by decide) rfl rfl 21 (by decide) (hts _ (List.mem_of_getElem? (i := 2) rfl)) rfl dX6_askNow_11 ?_
      refine lv_iload_n hx hb dX6_askNow_14 rfl (lv_at hl 1 rfl) ?_
      refine lv_aload_n hx hb dX6_askNow_15 rfl (lv_at hl 0 rfl) ?_
      refine x_get (v := .ref (bd 10)) hx hb hts hinX6 hown hK hP 0 (by decide) rfl rfl 14 (by decide) (hts _ (List.mem_of_getElem? (i := 3) rfl)) rfl dX6_askNow_16 ?_
      refine lv_iload_n hx hb dX6_askNow_19 rfl (lv_at hl 1 rfl) ?_
      refine x_iald (v := S 10 i) hx hb hK hP 10 0 (by decide) rfl rfl i rfl (by omega) (by decide) rfl dX6_askNow_20 ?_
      refine lv_bipush (v := (-9)) hx hb dX6_askNow_21 (by decide +kernel) ?_
      refine lv_icmp_ne (tgt := 33) hx hb dX6_askNow_23 (by decide) (fun c23 => ?_) (fun c23 => ?_)
      · refine lv_aload_n hx hb dX6_askNow_33 rfl (lv_at hl 0 rfl) ?_
        refine x_get (v := .ref (bd 10)) hx hb hts hinX6 hown hK hP 0 (by decide) rfl rfl 14 (by decide) (hts _ (List.mem_of_getElem? (i := 3) rfl)) rfl dX6_askNow_34 ?_
        refine lv_iload_n hx hb dX6_askNow_37 rfl (lv_at hl 1 rfl) ?_
        refine x_iald (v := S 10 i) hx hb hK hP 10 0 (by decide) rfl rfl i rfl (by omega) (by decide) rfl dX6_askNow_38 ?_
        refine x_iast hx hb hK hI hAd hP hS 13 0 (by decide) (fun _ => rfl) rfl i rfl (by omega) (by decide) dX6_askNow_39 (fun H locs hP hS => ?_)
        refine lv_iinc (v := nI (i + 1)) (lv' := [(1, .int (nI (i + 1))), (0, .ref (bd 0))]) hx hb dX6_askNow_40 hl (k := 1) rfl (nI_1 _) (by decide) rfl (fun ls hl => ?_)
        refine lv_goto (tgt := 2) hx hb dX6_askNow_43 (by decide) ?_
        have eST : (su (sr S 13 (fil (fun s => if S 10 s = -9 then S 0 6 else S 10 s) (S 13) i)) 13 i (S 10 i)) = (sr S 13 (fil (fun s => if S 10 s = -9 then S 0 6 else S 10 s) (S 13) (i + 1))) := su_fil (by simp [c23])
        rw [eST] at hP
        exact ih (i + 1) (by omega) H locs ls hP hS (lv_sub hl [1, 0] rfl)
      · refine lv_aload_n hx hb dX6_askNow_26 rfl (lv_at hl 0 rfl) ?_
        refine x_get (v := .int (S 0 6)) hx hb hts hinX6 hown hK hP 0 (by decide) rfl rfl 6 (by decide) (hts _ (List.mem_of_getElem? (i := 4) rfl)) rfl dX6_askNow_27 ?_
        refine lv_goto (tgt := 39) hx hb dX6_askNow_30 (by decide) ?_
        refine x_iast hx hb hK hI hAd hP hS 13 0 (by decide) (fun _ => rfl) rfl i rfl (by omega) (by decide) dX6_askNow_39 (fun H locs hP hS => ?_)
        refine lv_iinc (v := nI (i + 1)) (lv' := [(1, .int (nI (i + 1))), (0, .ref (bd 0))]) hx hb dX6_askNow_40 hl (k := 1) rfl (nI_1 _) (by decide) rfl (fun ls hl => ?_)
        refine lv_goto (tgt := 2) hx hb dX6_askNow_43 (by decide) ?_
        have eST : (su (sr S 13 (fil (fun s => if S 10 s = -9 then S 0 6 else S 10 s) (S 13) i)) 13 i (S 0 6)) = (sr S 13 (fil (fun s => if S 10 s = -9 then S 0 6 else S 10 s) (S 13) (i + 1))) := su_fil (by simp [c23])
        rw [eST] at hP
        exact ih (i + 1) (by omega) H locs ls hP hS (lv_sub hl [1, 0] rfl)
  refine lv_iconst (v := 0) hx hb dX6_askNow_0 (by decide +kernel) ?_
  refine lv_istore_n (lv' := [(1, .int 0), (0, .ref (bd 0))]) hx hb dX6_askNow_1 rfl hl (by decide) rfl (fun ls hl => ?_)
  have hP : va_P (dC, dI) vwCl (xW (mLy cI cZ bd) 18 bd (sr S 13 (fil (fun s => if S 10 s = -9 then S 0 6 else S 10 s) (S 13) 0))) s.heap := by rw [fil_0, sr_same]; exact hP
  exact L2 N 0 (Nat.zero_add N) _ _ ls hP hS (lv_sub hl [1, 0] rfl)

set_option maxHeartbeats 4000000 in
set_option maxRecDepth 100000 in
theorem c6_askSet (hI : xI 18 bd) (S : xSt) (N : Nat) (hN : S 0 7 = nI N) (hN5 : N ≤ 5) (v : Int32) : xMv l yX6_askSet wsX6_askSet ({ frames := 0, cells := 0, slots := 0, locals := 0 }) (dC, dI) vwCl (tyl cI cZ cS cG) (mLy cI cZ bd) 18 bd [.ref (bd 0), .int v] S (fun S' => S' = sr S 13 (askG S N v)) := by
  refine xM_of (cc := cX6_askSet) (nL := 3) (ret := none) (by decide) rfl (Nat.le_of_ble_eq_true rfl) ?_
  intro p e s m below meth c ls B hl hK hP
  obtain ⟨hx, hb, hml, hown, hts, hr, hlocks⟩ := B
  have hl : lv_has ls 3 [(0, .ref (bd 0)), (1, .int v)] := hl
  have hS : va_S (xA 18 bd) s.heap s.heap [] := va_S.rf
  have hAd : ∀ k, k < 18 → xA 18 bd (bd k) := xA_in
  have hinX6 : ∀ w ∈ wsX60, w ∈ wsX6_askSet := fun _ h => List.mem_cons_of_mem _ (List.mem_append_right _ h)
  have hF : CallFix p m c cX6_askSet 3 s _ wsX6_askSet RX6 := ⟨hx, hb, hml, hown, hts⟩
  have L2 : ∀ (n : Nat) (i : Nat) (hi : i + n = N) (H : Heap) (locs : List Loc) (ls : Array Slot), va_P (dC, dI) vwCl (xW (mLy cI cZ bd) 18 bd (sr S 13 (fil (fun s => if v >>> (nI s &&& 31) &&& 1 = 1 then 0 else S 0 6) (S 13) i))) H → va_S (xA 18 bd) s.heap H locs → lv_has ls 3 [(0, .ref (bd 0)), (1, .int v), (2, .int (nI i))] → W p l e ({ frames := 0, cells := 0, slots := 0, locals := 0 }) s m ([.ref (bd 0), .int v] : List Value).toArray below meth c H locs 0 0 (MQ below (xQv (dC, dI) vwCl (mLy cI cZ bd) 18 bd (fun S' => S' = sr S 13 (askG S N v))) ([.ref (bd 0), .int v] : List Value).toArray s 0 0 (xA 18 bd)) (F0 m 2 ls []) := by
    intro n
    induction n with
    | zero =>
      intro i hi H locs ls hP hS hl
      refine lv_iload_n hx hb dX6_askSet_2 rfl (lv_at hl 2 rfl) ?_
      refine lv_aload_n hx hb dX6_askSet_3 rfl (lv_at hl 0 rfl) ?_
      refine x_get (v := .int (nI N)) hx hb hts hinX6 hown hK hP 0 (by decide) rfl rfl 7 (by decide) (hts _ (List.mem_of_getElem? (i := 1) rfl)) (congrArg (fun z => some (Value.int z)) hN) dX6_askSet_4 ?_
      refine lv_icmp_ge (tgt := 39) hx hb dX6_askSet_7 (by decide) (fun _ => ?_) (fun hc => absurd (nI_le (by omega) (by omega)) hc)
      refine x_vret hx hb hr hlocks hP hS dX6_askSet_39 ?_
      exact (by rw [show i = N by omega]; rfl)
    | succ n ih =>
      intro i hi H locs ls hP hS hl
      refine lv_iload_n hx hb dX6_askSet_2 rfl (lv_at hl 2 rfl) ?_
      refine lv_aload_n hx hb dX6_askSet_3 rfl (lv_at hl 0 rfl) ?_
      refine x_get (v := .int (nI N)) hx hb hts hinX6 hown hK hP 0 (by decide) rfl rfl 7 (by decide) (hts _ (List.mem_of_getElem? (i := 1) rfl)) (congrArg (fun z => some (Value.int z)) hN) dX6_askSet_4 ?_
      refine lv_icmp_ge (tgt := 39) hx hb dX6_askSet_7 (by decide) (fun hc => absurd hc (nI_ge (by omega) (by omega))) (fun _ => ?_)
      refine lv_aload_n hx hb dX6_askSet_10 rfl (lv_at hl 0 rfl) ?_
      refine x_get (v := .ref (bd 13)) hx hb hts hinX6 hown hK hP 0 (by decide) rfl rfl 21 (by decide) (hts _ (List.mem_of_getElem? (i := 2) rfl)) rfl dX6_askSet_11 ?_
      refine lv_iload_n hx hb dX6_askSet_14 rfl (lv_at hl 2 rfl) ?_
      refine lv_iload_n hx hb dX6_askSet_15 rfl (lv_at hl 1 rfl) ?_
      refine lv_iload_n hx hb dX6_askSet_16 rfl (lv_at hl 2 rfl) ?_
      refine lv_ishr hx hb dX6_askSet_17 ?_
      refine lv_iconst (v := 1) hx hb dX6_askSet_18 (by decide +kernel) ?_
      refine lv_iand hx hb dX6_askSet_19 ?_
      refine lv_iconst (v := 1) hx hb dX6_askSet_20 (by decide +kernel) ?_
      refine lv_icmp_ne (tgt := 28) hx hb dX6_askSet_21 (by decide) (fun c21 => ?_) (fun c21 => ?_)
      · refine lv_aload_n hx hb dX6_askSet_28 rfl (lv_at hl 0 rfl) ?_
        refine x_get (v := .int (S 0 6)) hx hb hts hinX6 hown hK hP 0 (by decide) rfl rfl 6 (by decide) (hts _ (List.mem_of_getElem? (i := 3) rfl)) rfl dX6_askSet_29 ?_
        refine x_iast hx hb hK hI hAd hP hS 13 0 (by decide) (fun _ => rfl) rfl i rfl (by omega) (by decide) dX6_askSet_32 (fun H locs hP hS => ?_)
        refine lv_iinc (v := nI (i + 1)) (lv' := [(2, .int (nI (i + 1))), (0, .ref (bd 0)), (1, .int v)]) hx hb dX6_askSet_33 hl (k := 2) rfl (nI_1 _) (by decide) rfl (fun ls hl => ?_)
        refine lv_goto (tgt := 2) hx hb dX6_askSet_36 (by decide) ?_
        have eST : (su (sr S 13 (fil (fun s => if v >>> (nI s &&& 31) &&& 1 = 1 then 0 else S 0 6) (S 13) i)) 13 i (S 0 6)) = (sr S 13 (fil (fun s => if v >>> (nI s &&& 31) &&& 1 = 1 then 0 else S 0 6) (S 13) (i + 1))) := su_fil (by simp [c21])
        rw [eST] at hP
        exact ih (i + 1) (by omega) H locs ls hP hS (lv_sub hl [1, 2, 0] rfl)
      · refine lv_iconst (v := 0) hx hb dX6_askSet_24 (by decide +kernel) ?_
        refine lv_goto (tgt := 32) hx hb dX6_askSet_25 (by decide) ?_
        refine x_iast hx hb hK hI hAd hP hS 13 0 (by decide) (fun _ => rfl) rfl i rfl (by omega) (by decide) dX6_askSet_32 (fun H locs hP hS => ?_)
        refine lv_iinc (v := nI (i + 1)) (lv' := [(2, .int (nI (i + 1))), (0, .ref (bd 0)), (1, .int v)]) hx hb dX6_askSet_33 hl (k := 2) rfl (nI_1 _) (by decide) rfl (fun ls hl => ?_)
        refine lv_goto (tgt := 2) hx hb dX6_askSet_36 (by decide) ?_
        have eST : (su (sr S 13 (fil (fun s => if v >>> (nI s &&& 31) &&& 1 = 1 then 0 else S 0 6) (S 13) i)) 13 i 0) = (sr S 13 (fil (fun s => if v >>> (nI s &&& 31) &&& 1 = 1 then 0 else S 0 6) (S 13) (i + 1))) := su_fil (by simp [c21])
        rw [eST] at hP
        exact ih (i + 1) (by omega) H locs ls hP hS (lv_sub hl [1, 2, 0] rfl)
  refine lv_iconst (v := 0) hx hb dX6_askSet_0 (by decide +kernel) ?_
  refine lv_istore_n (lv' := [(2, .int 0), (0, .ref (bd 0)), (1, .int v)]) hx hb dX6_askSet_1 rfl hl (by decide) rfl (fun ls hl => ?_)
  have hP : va_P (dC, dI) vwCl (xW (mLy cI cZ bd) 18 bd (sr S 13 (fil (fun s => if v >>> (nI s &&& 31) &&& 1 = 1 then 0 else S 0 6) (S 13) 0))) s.heap := by rw [fil_0, sr_same]; exact hP
  exact L2 N 0 (Nat.zero_add N) _ _ ls hP hS (lv_sub hl [1, 2, 0] rfl)

set_option maxHeartbeats 4000000 in
set_option maxRecDepth 100000 in
theorem c6_stakesBy (hI : xI 18 bd) (S : xSt) (N : Nat) (hN : S 0 7 = nI N) (hN5 : N ≤ 5) (cn yn : Int32) : xMi l yX6_stakesBy wsX6_stakesBy ({ frames := 1, cells := 0, slots := 0, locals := 24 }) (dC, dI) vwCl (tyl cI cZ cS cG) (mLy cI cZ bd) 18 bd [.ref (bd 0), .int cn, .int yn] S (fun r S' => r = sumL (stk (S 6) (S 7) (S 8) (S 5) (S 13) cn yn) N 0 0 ∧ S' = S) := by
  refine xM_of (cc := cX6_stakesBy) (nL := 5) (ret := (some .int)) (by decide) rfl (Nat.le_of_ble_eq_true rfl) ?_
  intro p e s m below meth c ls B hl hK hP
  obtain ⟨hx, hb, hml, hown, hts, hr, hlocks⟩ := B
  have hl : lv_has ls 5 [(0, .ref (bd 0)), (1, .int cn), (2, .int yn)] := hl
  have hS : va_S (xA 18 bd) s.heap s.heap [] := va_S.rf
  have hAd : ∀ k, k < 18 → xA 18 bd (bd k) := xA_in
  have hinX6 : ∀ w ∈ wsX60, w ∈ wsX6_stakesBy := fun _ h => List.mem_cons_of_mem _ (List.mem_append_right _ h)
  have hF : CallFix p m c cX6_stakesBy 5 s _ wsX6_stakesBy RX6 := ⟨hx, hb, hml, hown, hts⟩
  have L5 : ∀ (n : Nat) (i : Nat) (a : Int32) (hi : i + n = N) (hv : sumL (stk (S 6) (S 7) (S 8) (S 5) (S 13) cn yn) N 0 0 = sumL (stk (S 6) (S 7) (S 8) (S 5) (S 13) cn yn) n i a) (H : Heap) (locs : List Loc) (ls : Array Slot), va_P (dC, dI) vwCl (xW (mLy cI cZ bd) 18 bd S) H → va_S (xA 18 bd) s.heap H locs → lv_has ls 5 [(0, .ref (bd 0)), (1, .int cn), (2, .int yn), (3, .int a), (4, .int (nI i))] → W p l e ({ frames := 1, cells := 0, slots := 0, locals := 24 }) s m ([.ref (bd 0), .int cn, .int yn] : List Value).toArray below meth c H locs 0 0 (MQ below (xQi (dC, dI) vwCl (mLy cI cZ bd) 18 bd (fun r S' => r = sumL (stk (S 6) (S 7) (S 8) (S 5) (S 13) cn yn) N 0 0 ∧ S' = S)) ([.ref (bd 0), .int cn, .int yn] : List Value).toArray s 0 0 (xA 18 bd)) (F0 m 5 ls []) := by
    intro n
    induction n with
    | zero =>
      intro i a hi hv H locs ls hP hS hl
      refine lv_iload hx hb dX6_stakesBy_5 (lv_at hl 4 rfl) ?_
      refine lv_aload_n hx hb dX6_stakesBy_7 rfl (lv_at hl 0 rfl) ?_
      refine x_get (v := .int (nI N)) hx hb hts hinX6 hown hK hP 0 (by decide) rfl rfl 7 (by decide) (hts _ (List.mem_of_getElem? (i := 1) rfl)) (congrArg (fun z => some (Value.int z)) hN) dX6_stakesBy_8 ?_
      refine lv_icmp_ge (tgt := 63) hx hb dX6_stakesBy_11 (by decide) (fun _ => ?_) (fun hc => absurd (nI_le (by omega) (by omega)) hc)
      refine lv_iload_n hx hb dX6_stakesBy_63 rfl (lv_at hl 3 rfl) ?_
      refine x_iret hx hb hr hlocks hP hS dX6_stakesBy_64 ?_
      exact ⟨hv.symm, rfl⟩
    | succ n ih =>
      intro i a hi hv H locs ls hP hS hl
      refine lv_iload hx hb dX6_stakesBy_5 (lv_at hl 4 rfl) ?_
      refine lv_aload_n hx hb dX6_stakesBy_7 rfl (lv_at hl 0 rfl) ?_
      refine x_get (v := .int (nI N)) hx hb hts hinX6 hown hK hP 0 (by decide) rfl rfl 7 (by decide) (hts _ (List.mem_of_getElem? (i := 1) rfl)) (congrArg (fun z => some (Value.int z)) hN) dX6_stakesBy_8 ?_
      refine lv_icmp_ge (tgt := 63) hx hb dX6_stakesBy_11 (by decide) (fun hc => absurd hc (nI_ge (by omega) (by omega))) (fun _ => ?_)
      refine lv_iload_n hx hb dX6_stakesBy_14 rfl (lv_at hl 3 rfl) ?_
      refine lv_aload_n hx hb dX6_stakesBy_15 rfl (lv_at hl 0 rfl) ?_
      refine x_get (v := .ref (bd 6)) hx hb hts hinX6 hown hK hP 0 (by decide) rfl rfl 10 (by decide) (hts _ (List.mem_of_getElem? (i := 2) rfl)) rfl dX6_stakesBy_16 ?_
      refine lv_iload hx hb dX6_stakesBy_19 (lv_at hl 4 rfl) ?_
      refine x_iald (v := S 6 i) hx hb hK hP 6 0 (by decide) rfl rfl i rfl (by omega) (by decide) rfl dX6_stakesBy_21 ?_
      refine lv_iload_n hx hb dX6_stakesBy_22 rfl (lv_at hl 1 rfl) ?_
      refine lv_icmp_ne (tgt := 54) hx hb dX6_stakesBy_23 (by decide) (fun c23 => ?_) (fun c23 => ?_)
      · refine lv_iconst (v := 0) hx hb dX6_stakesBy_54 (by decide +kernel) ?_
        refine lv_iadd hx hb dX6_stakesBy_55 ?_
        refine lv_topi (fun x56 ex56 => ?_)
        refine lv_istore_n (lv' := [(3, .int x56), (0, .ref (bd 0)), (1, .int cn), (2, .int yn), (4, .int (nI i))]) hx hb dX6_stakesBy_56 rfl hl (by decide) rfl (fun ls hl => ?_)
        refine lv_iinc (v := nI (i + 1)) (lv' := [(4, .int (nI (i + 1))), (3, .int x56), (0, .ref (bd 0)), (1, .int cn), (2, .int yn)]) hx hb dX6_stakesBy_57 hl (k := 4) rfl (nI_1 _) (by decide) rfl (fun ls hl => ?_)
        refine lv_goto (tgt := 5) hx hb dX6_stakesBy_60 (by decide) ?_
        exact ih (i + 1) x56 (by omega) (hv.trans (congrArg (sumL (stk (S 6) (S 7) (S 8) (S 5) (S 13) cn yn) n (i + 1)) (show a + (stk (S 6) (S 7) (S 8) (S 5) (S 13) cn yn) i = x56 from by subst ex56; simp [stk, c23]))) H locs ls hP hS (lv_sub hl [2, 3, 4, 1, 0] rfl)
      · refine lv_aload_n hx hb dX6_stakesBy_26 rfl (lv_at hl 0 rfl) ?_
        refine x_get (v := .ref (bd 13)) hx hb hts hinX6 hown hK hP 0 (by decide) rfl rfl 21 (by decide) (hts _ (List.mem_of_getElem? (i := 3) rfl)) rfl dX6_stakesBy_27 ?_
        refine lv_iload hx hb dX6_stakesBy_30 (lv_at hl 4 rfl) ?_
        refine x_iald (v := S 13 i) hx hb hK hP 13 0 (by decide) rfl rfl i rfl (by omega) (by decide) rfl dX6_stakesBy_32 ?_
        refine lv_iload_n hx hb dX6_stakesBy_33 rfl (lv_at hl 2 rfl) ?_
        refine lv_icmp_gt (tgt := 54) hx hb dX6_stakesBy_34 (by decide) (fun c34 => ?_) (fun c34 => ?_)
        · have d34 := Int32.not_le.mpr c34
          refine lv_iconst (v := 0) hx hb dX6_stakesBy_54 (by decide +kernel) ?_
          refine lv_iadd hx hb dX6_stakesBy_55 ?_
          refine lv_topi (fun x56 ex56 => ?_)
          refine lv_istore_n (lv' := [(3, .int x56), (0, .ref (bd 0)), (1, .int cn), (2, .int yn), (4, .int (nI i))]) hx hb dX6_stakesBy_56 rfl hl (by decide) rfl (fun ls hl => ?_)
          refine lv_iinc (v := nI (i + 1)) (lv' := [(4, .int (nI (i + 1))), (3, .int x56), (0, .ref (bd 0)), (1, .int cn), (2, .int yn)]) hx hb dX6_stakesBy_57 hl (k := 4) rfl (nI_1 _) (by decide) rfl (fun ls hl => ?_)
          refine lv_goto (tgt := 5) hx hb dX6_stakesBy_60 (by decide) ?_
          exact ih (i + 1) x56 (by omega) (hv.trans (congrArg (sumL (stk (S 6) (S 7) (S 8) (S 5) (S 13) cn yn) n (i + 1)) (show a + (stk (S 6) (S 7) (S 8) (S 5) (S 13) cn yn) i = x56 from by subst ex56; simp [stk, c23, c34, d34]))) H locs ls hP hS (lv_sub hl [2, 3, 4, 1, 0] rfl)
        · have d34 := Int32.not_lt.mp c34
          refine lv_aload_n hx hb dX6_stakesBy_37 rfl (lv_at hl 0 rfl) ?_
          refine lv_iload hx hb dX6_stakesBy_38 (lv_at hl 4 rfl) ?_
          refine lv_aload_n hx hb dX6_stakesBy_40 rfl (lv_at hl 0 rfl) ?_
          refine x_get (v := .ref (bd 13)) hx hb hts hinX6 hown hK hP 0 (by decide) rfl rfl 21 (by decide) (hts _ (List.mem_of_getElem? (i := 3) rfl)) rfl dX6_stakesBy_41 ?_
          refine lv_iload hx hb dX6_stakesBy_44 (lv_at hl 4 rfl) ?_
          refine x_iald (v := S 13 i) hx hb hK hP 13 0 (by decide) rfl rfl i rfl (by omega) (by decide) rfl dX6_stakesBy_46 ?_
          refine lv_iload_n hx hb dX6_stakesBy_47 rfl (lv_at hl 2 rfl) ?_
          refine x_calli (x_runV (As := [.int (nI i), .int (S 13 i), .int yn]) (rest := [.int a]) hF (c6_stakeBy hI S i (S 13 i) yn (by omega)) (cwV 3 hts gX6_stakesBy_X6_stakeBy rfl rfl rfl (by decide +kernel) ⟨Nat.le_of_ble_eq_true rfl, Nat.le_of_ble_eq_true rfl⟩) hK hP (by decide) rfl rfl rfl hl.1 rfl (Nat.le_of_ble_eq_true rfl) dX6_stakesBy_48 ⟨Nat.zero_le _, Nat.zero_le _⟩) hS hAd (fun r48 S48 H locs hw hP _ hS => ?_)
          obtain ⟨er48, eS48⟩ := hw
          rw [eS48] at hP
          refine lv_goto (tgt := 55) hx hb dX6_stakesBy_51 (by decide) ?_
          refine lv_iadd hx hb dX6_stakesBy_55 ?_
          refine lv_topi (fun x56 ex56 => ?_)
          refine lv_istore_n (lv' := [(3, .int x56), (0, .ref (bd 0)), (1, .int cn), (2, .int yn), (4, .int (nI i))]) hx hb dX6_stakesBy_56 rfl hl (by decide) rfl (fun ls hl => ?_)
          refine lv_iinc (v := nI (i + 1)) (lv' := [(4, .int (nI (i + 1))), (3, .int x56), (0, .ref (bd 0)), (1, .int cn), (2, .int yn)]) hx hb dX6_stakesBy_57 hl (k := 4) rfl (nI_1 _) (by decide) rfl (fun ls hl => ?_)
          refine lv_goto (tgt := 5) hx hb dX6_stakesBy_60 (by decide) ?_
          exact ih (i + 1) x56 (by omega) (hv.trans (congrArg (sumL (stk (S 6) (S 7) (S 8) (S 5) (S 13) cn yn) n (i + 1)) (show a + (stk (S 6) (S 7) (S 8) (S 5) (S 13) cn yn) i = x56 from by subst er48; subst ex56; simp [stk, c23, c34, d34]))) H locs ls hP hS (lv_sub hl [2, 3, 4, 1, 0] rfl)
  refine lv_iconst (v := 0) hx hb dX6_stakesBy_0 (by decide +kernel) ?_
  refine lv_istore_n (lv' := [(3, .int 0), (0, .ref (bd 0)), (1, .int cn), (2, .int yn)]) hx hb dX6_stakesBy_1 rfl hl (by decide) rfl (fun ls hl => ?_)
  refine lv_iconst (v := 0) hx hb dX6_stakesBy_2 (by decide +kernel) ?_
  refine lv_istore (lv' := [(4, .int 0), (3, .int 0), (0, .ref (bd 0)), (1, .int cn), (2, .int yn)]) hx hb dX6_stakesBy_3 hl (by decide) rfl (fun ls hl => ?_)
  exact L5 N 0 0 (Nat.zero_add N) rfl _ _ ls hP hS (lv_sub hl [2, 3, 4, 1, 0] rfl)

set_option maxHeartbeats 4000000 in
set_option maxRecDepth 100000 in
theorem c6_isTempted (hI : xI 18 bd) (S : xSt) (N : Nat) (hN : S 0 7 = nI N) (hN5 : N ≤ 5) (c0 y0 : Nat) (hc : c0 < 4) (hy : y0 < 6) : xMi l yX6_isTempted wsX6_isTempted ({ frames := 2, cells := 0, slots := 0, locals := 48 }) (dC, dI) vwCl (tyl cI cZ cS cG) (mLy cI cZ bd) 18 bd [.ref (bd 0), .int (nI c0), .int (nI y0)] S (fun r S' => r = (if mT S N c0 y0 = true then 1 else 0) ∧ S' = S) := by
  refine xM_of (cc := cX6_isTempted) (nL := 3) (ret := (some .boolean)) (by decide) rfl (Nat.le_of_ble_eq_true rfl) ?_
  intro p e s m below meth c ls B hl hK hP
  obtain ⟨hx, hb, hml, hown, hts, hr, hlocks⟩ := B
  have hl : lv_has ls 3 [(0, .ref (bd 0)), (1, .int (nI c0)), (2, .int (nI y0))] := hl
  have hS : va_S (xA 18 bd) s.heap s.heap [] := va_S.rf
  have hAd : ∀ k, k < 18 → xA 18 bd (bd k) := xA_in
  have hinX6 : ∀ w ∈ wsX60, w ∈ wsX6_isTempted := fun _ h => List.mem_cons_of_mem _ (List.mem_append_right _ h)
  have hF : CallFix p m c cX6_isTempted 3 s _ wsX6_isTempted RX6 := ⟨hx, hb, hml, hown, hts⟩
  refine lv_aload_n hx hb dX6_isTempted_0 rfl (lv_at hl 0 rfl) ?_
  refine x_get (v := .ref (bd 4)) hx hb hts hinX6 hown hK hP 0 (by decide) rfl rfl 8 (by decide) (hts _ (List.mem_of_getElem? (i := 1) rfl)) rfl dX6_isTempted_1 ?_
  refine lv_bipush (v := 6) hx hb dX6_isTempted_4 (by decide +kernel) ?_
  refine lv_iload_n hx hb dX6_isTempted_6 rfl (lv_at hl 1 rfl) ?_
  refine lv_imul hx hb dX6_isTempted_7 ?_
  refine lv_iload_n hx hb dX6_isTempted_8 rfl (lv_at hl 2 rfl) ?_
  refine lv_iadd hx hb dX6_isTempted_9 ?_
  refine x_iald (v := S 4 (6 * c0 + y0)) hx hb hK hP 4 0 (by decide) rfl rfl (6 * c0 + y0) (ix6 c0 y0) (by omega) (by decide) rfl dX6_isTempted_10 ?_
  refine lv_aload_n hx hb dX6_isTempted_11 rfl (lv_at hl 0 rfl) ?_
  refine lv_iload_n hx hb dX6_isTempted_12 rfl (lv_at hl 1 rfl) ?_
  refine lv_iload_n hx hb dX6_isTempted_13 rfl (lv_at hl 2 rfl) ?_
  refine x_calli (x_runV (As := [.int (nI c0), .int (nI y0)]) (rest := [.int (S 4 (6 * c0 + y0))]) hF (c6_stakesBy hI S N hN hN5 (nI c0) (nI y0) ) (cwV 2 hts gX6_isTempted_X6_stakesBy rfl rfl rfl (by decide +kernel) ⟨Nat.le_of_ble_eq_true rfl, Nat.le_of_ble_eq_true rfl⟩) hK hP (by decide) rfl rfl rfl hl.1 rfl (Nat.le_of_ble_eq_true rfl) dX6_isTempted_14 ⟨Nat.zero_le _, Nat.zero_le _⟩) hS hAd (fun r14 S14 H locs hw hP _ hS => ?_)
  obtain ⟨er14, eS14⟩ := hw
  rw [eS14] at hP
  refine lv_icmp_le (tgt := 24) hx hb dX6_isTempted_17 (by decide) (fun c17 => ?_) (fun c17 => ?_)
  · have d17 := Int32.not_lt.mpr c17
    refine lv_iconst (v := 0) hx hb dX6_isTempted_24 (by decide +kernel) ?_
    refine x_zret hx hb hr hlocks hP hS dX6_isTempted_25 (Or.inl rfl) ?_
    subst er14
    exact ⟨by simp [mT, tmp, c17, d17], rfl⟩
  · have d17 := Int32.not_le.mp c17
    refine lv_iconst (v := 1) hx hb dX6_isTempted_20 (by decide +kernel) ?_
    refine lv_goto (tgt := 25) hx hb dX6_isTempted_21 (by decide) ?_
    refine x_zret hx hb hr hlocks hP hS dX6_isTempted_25 (Or.inr rfl) ?_
    subst er14
    exact ⟨by simp [mT, tmp, c17, d17], rfl⟩

set_option maxHeartbeats 4000000 in
set_option maxRecDepth 100000 in
theorem c6_temptedSet (hI : xI 18 bd) (S : xSt) (N : Nat) (hN : S 0 7 = nI N) (hN5 : N ≤ 5) (C : Nat) (hC : S 0 5 = nI C) (hC4 : C ≤ 4) (y0 : Nat) (hy : y0 < 6) : xMi l yX6_temptedSet wsX6_temptedSet ({ frames := 3, cells := 0, slots := 0, locals := 70 }) (dC, dI) vwCl (tyl cI cZ cS cG) (mLy cI cZ bd) 18 bd [.ref (bd 0), .int (nI y0)] S (fun r S' => r = mSet S N C y0 ∧ S' = S) := by
  refine xM_of (cc := cX6_temptedSet) (nL := 4) (ret := (some .int)) (by decide) rfl (Nat.le_of_ble_eq_true rfl) ?_
  intro p e s m below meth c ls B hl hK hP
  obtain ⟨hx, hb, hml, hown, hts, hr, hlocks⟩ := B
  have hl : lv_has ls 4 [(0, .ref (bd 0)), (1, .int (nI y0))] := hl
  have hS : va_S (xA 18 bd) s.heap s.heap [] := va_S.rf
  have hAd : ∀ k, k < 18 → xA 18 bd (bd k) := xA_in
  have hinX6 : ∀ w ∈ wsX60, w ∈ wsX6_temptedSet := fun _ h => List.mem_cons_of_mem _ (List.mem_append_right _ h)
  have hF : CallFix p m c cX6_temptedSet 4 s _ wsX6_temptedSet RX6 := ⟨hx, hb, hml, hown, hts⟩
  have L4 : ∀ (n : Nat) (i : Nat) (a : Int32) (hi : i + n = C) (hv : mSet S N C y0 = orL (fun c => if mT S N c y0 = true then (1 : Int32) <<< (nI c &&& 31) else 0) n i a) (H : Heap) (locs : List Loc) (ls : Array Slot), va_P (dC, dI) vwCl (xW (mLy cI cZ bd) 18 bd S) H → va_S (xA 18 bd) s.heap H locs → lv_has ls 4 [(0, .ref (bd 0)), (1, .int (nI y0)), (2, .int a), (3, .int (nI i))] → W p l e ({ frames := 3, cells := 0, slots := 0, locals := 70 }) s m ([.ref (bd 0), .int (nI y0)] : List Value).toArray below meth c H locs 0 0 (MQ below (xQi (dC, dI) vwCl (mLy cI cZ bd) 18 bd (fun r S' => r = mSet S N C y0 ∧ S' = S)) ([.ref (bd 0), .int (nI y0)] : List Value).toArray s 0 0 (xA 18 bd)) (F0 m 4 ls []) := by
    intro n
    induction n with
    | zero =>
      intro i a hi hv H locs ls hP hS hl
      refine lv_iload_n hx hb dX6_temptedSet_4 rfl (lv_at hl 3 rfl) ?_
      refine lv_aload_n hx hb dX6_temptedSet_5 rfl (lv_at hl 0 rfl) ?_
      refine x_get (v := .int (nI C)) hx hb hts hinX6 hown hK hP 0 (by decide) rfl rfl 5 (by decide) (hts _ (List.mem_of_getElem? (i := 1) rfl)) (congrArg (fun z => some (Value.int z)) hC) dX6_temptedSet_6 ?_
      refine lv_icmp_ge (tgt := 37) hx hb dX6_temptedSet_9 (by decide) (fun _ => ?_) (fun hc => absurd (nI_le (by omega) (by omega)) hc)
      refine lv_iload_n hx hb dX6_temptedSet_37 rfl (lv_at hl 2 rfl) ?_
      refine x_iret hx hb hr hlocks hP hS dX6_temptedSet_38 ?_
      exact ⟨hv.symm, rfl⟩
    | succ n ih =>
      intro i a hi hv H locs ls hP hS hl
      refine lv_iload_n hx hb dX6_temptedSet_4 rfl (lv_at hl 3 rfl) ?_
      refine lv_aload_n hx hb dX6_temptedSet_5 rfl (lv_at hl 0 rfl) ?_
      refine x_get (v := .int (nI C)) hx hb hts hinX6 hown hK hP 0 (by decide) rfl rfl 5 (by decide) (hts _ (List.mem_of_getElem? (i := 1) rfl)) (congrArg (fun z => some (Value.int z)) hC) dX6_temptedSet_6 ?_
      refine lv_icmp_ge (tgt := 37) hx hb dX6_temptedSet_9 (by decide) (fun hc => absurd hc (nI_ge (by omega) (by omega))) (fun _ => ?_)
      refine lv_iload_n hx hb dX6_temptedSet_12 rfl (lv_at hl 2 rfl) ?_
      refine lv_aload_n hx hb dX6_temptedSet_13 rfl (lv_at hl 0 rfl) ?_
      refine lv_iload_n hx hb dX6_temptedSet_14 rfl (lv_at hl 3 rfl) ?_
      refine lv_iload_n hx hb dX6_temptedSet_15 rfl (lv_at hl 1 rfl) ?_
      refine x_calli (x_runV (As := [.int (nI i), .int (nI y0)]) (rest := [.int a]) hF (c6_isTempted hI S N hN hN5 i y0 (by omega) (by omega) ) (cwV 2 hts gX6_temptedSet_X6_isTempted rfl rfl rfl (by decide +kernel) ⟨Nat.le_of_ble_eq_true rfl, Nat.le_of_ble_eq_true rfl⟩) hK hP (by decide) rfl rfl rfl hl.1 rfl (Nat.le_of_ble_eq_true rfl) dX6_temptedSet_16 ⟨Nat.zero_le _, Nat.zero_le _⟩) hS hAd (fun r16 S16 H locs hw hP _ hS => ?_)
      obtain ⟨hw, eS16⟩ := hw
      rw [eS16] at hP
      by_cases q16 : mT S N i y0 = true
      · have hw : r16 = 1 := hw.trans (if_pos q16)
        subst hw
        refine lv_if_eq (tgt := 28) hx hb dX6_temptedSet_19 (by decide) (fun hc => absurd hc (by decide)) (fun _ => ?_)
        refine lv_iconst (v := 1) hx hb dX6_temptedSet_22 (by decide +kernel) ?_
        refine lv_iload_n hx hb dX6_temptedSet_23 rfl (lv_at hl 3 rfl) ?_
        refine lv_ishl hx hb dX6_temptedSet_24 ?_
        refine lv_goto (tgt := 29) hx hb dX6_temptedSet_25 (by decide) ?_
        refine lv_ior hx hb dX6_temptedSet_29 ?_
        refine lv_topi (fun x30 ex30 => ?_)
        refine lv_istore_n (lv' := [(2, .int x30), (0, .ref (bd 0)), (1, .int (nI y0)), (3, .int (nI i))]) hx hb dX6_temptedSet_30 rfl hl (by decide) rfl (fun ls hl => ?_)
        refine lv_iinc (v := nI (i + 1)) (lv' := [(3, .int (nI (i + 1))), (2, .int x30), (0, .ref (bd 0)), (1, .int (nI y0))]) hx hb dX6_temptedSet_31 hl (k := 3) rfl (nI_1 _) (by decide) rfl (fun ls hl => ?_)
        refine lv_goto (tgt := 4) hx hb dX6_temptedSet_34 (by decide) ?_
        exact ih (i + 1) x30 (by omega) (hv.trans (congrArg (orL (fun c => if mT S N c y0 = true then (1 : Int32) <<< (nI c &&& 31) else 0) n (i + 1)) (show a ||| (fun c => if mT S N c y0 = true then (1 : Int32) <<< (nI c &&& 31) else 0) i = x30 from by subst ex30; simp [q16]))) H locs ls hP hS (lv_sub hl [2, 3, 1, 0] rfl)
      · have hw : r16 = 0 := hw.trans (if_neg q16)
        subst hw
        refine lv_if_eq (tgt := 28) hx hb dX6_temptedSet_19 (by decide) (fun _ => ?_) (fun hc => absurd (by decide) hc)
        refine lv_iconst (v := 0) hx hb dX6_temptedSet_28 (by decide +kernel) ?_
        refine lv_ior hx hb dX6_temptedSet_29 ?_
        refine lv_topi (fun x30 ex30 => ?_)
        refine lv_istore_n (lv' := [(2, .int x30), (0, .ref (bd 0)), (1, .int (nI y0)), (3, .int (nI i))]) hx hb dX6_temptedSet_30 rfl hl (by decide) rfl (fun ls hl => ?_)
        refine lv_iinc (v := nI (i + 1)) (lv' := [(3, .int (nI (i + 1))), (2, .int x30), (0, .ref (bd 0)), (1, .int (nI y0))]) hx hb dX6_temptedSet_31 hl (k := 3) rfl (nI_1 _) (by decide) rfl (fun ls hl => ?_)
        refine lv_goto (tgt := 4) hx hb dX6_temptedSet_34 (by decide) ?_
        exact ih (i + 1) x30 (by omega) (hv.trans (congrArg (orL (fun c => if mT S N c y0 = true then (1 : Int32) <<< (nI c &&& 31) else 0) n (i + 1)) (show a ||| (fun c => if mT S N c y0 = true then (1 : Int32) <<< (nI c &&& 31) else 0) i = x30 from by subst ex30; simp [q16]))) H locs ls hP hS (lv_sub hl [2, 3, 1, 0] rfl)
  refine lv_iconst (v := 0) hx hb dX6_temptedSet_0 (by decide +kernel) ?_
  refine lv_istore_n (lv' := [(2, .int 0), (0, .ref (bd 0)), (1, .int (nI y0))]) hx hb dX6_temptedSet_1 rfl hl (by decide) rfl (fun ls hl => ?_)
  refine lv_iconst (v := 0) hx hb dX6_temptedSet_2 (by decide +kernel) ?_
  refine lv_istore_n (lv' := [(3, .int 0), (2, .int 0), (0, .ref (bd 0)), (1, .int (nI y0))]) hx hb dX6_temptedSet_3 rfl hl (by decide) rfl (fun ls hl => ?_)
  exact L4 C 0 0 (Nat.zero_add C) rfl _ _ ls hP hS (lv_sub hl [2, 3, 1, 0] rfl)

set_option maxHeartbeats 4000000 in
set_option maxRecDepth 100000 in
theorem c6_breakYear (hI : xI 18 bd) (S : xSt) (N : Nat) (hN : S 0 7 = nI N) (hN5 : N ≤ 5) (C : Nat) (hC : S 0 5 = nI C) (hC4 : C ≤ 4) (Y : Nat) (hY : S 0 6 = nI Y) (hY6 : Y ≤ 6) : xMi l yX6_breakYear wsX6_breakYear ({ frames := 4, cells := 0, slots := 0, locals := 93 }) (dC, dI) vwCl (tyl cI cZ cS cG) (mLy cI cZ bd) 18 bd [.ref (bd 0)] S (fun r S' => r = mBrk S N C Y ∧ S' = S) := by
  refine xM_of (cc := cX6_breakYear) (nL := 2) (ret := (some .int)) (by decide) rfl (Nat.le_of_ble_eq_true rfl) ?_
  intro p e s m below meth c ls B hl hK hP
  obtain ⟨hx, hb, hml, hown, hts, hr, hlocks⟩ := B
  have hl : lv_has ls 2 [(0, .ref (bd 0))] := hl
  have hS : va_S (xA 18 bd) s.heap s.heap [] := va_S.rf
  have hAd : ∀ k, k < 18 → xA 18 bd (bd k) := xA_in
  have hinX6 : ∀ w ∈ wsX60, w ∈ wsX6_breakYear := fun _ h => List.mem_cons_of_mem _ (List.mem_append_right _ h)
  have hF : CallFix p m c cX6_breakYear 2 s _ wsX6_breakYear RX6 := ⟨hx, hb, hml, hown, hts⟩
  have L2 : ∀ (n : Nat) (i : Nat) (hi : i + n = Y) (hv : mBrk S N C Y = scan (fun y => decide (¬ mSet S N C y = 0)) n i) (H : Heap) (locs : List Loc) (ls : Array Slot), va_P (dC, dI) vwCl (xW (mLy cI cZ bd) 18 bd S) H → va_S (xA 18 bd) s.heap H locs → lv_has ls 2 [(0, .ref (bd 0)), (1, .int (nI i))] → W p l e ({ frames := 4, cells := 0, slots := 0, locals := 93 }) s m ([.ref (bd 0)] : List Value).toArray below meth c H locs 0 0 (MQ below (xQi (dC, dI) vwCl (mLy cI cZ bd) 18 bd (fun r S' => r = mBrk S N C Y ∧ S' = S)) ([.ref (bd 0)] : List Value).toArray s 0 0 (xA 18 bd)) (F0 m 2 ls []) := by
    intro n
    induction n with
    | zero =>
      intro i hi hv H locs ls hP hS hl
      refine lv_iload_n hx hb dX6_breakYear_2 rfl (lv_at hl 1 rfl) ?_
      refine lv_aload_n hx hb dX6_breakYear_3 rfl (lv_at hl 0 rfl) ?_
      refine x_get (v := .int (nI Y)) hx hb hts hinX6 hown hK hP 0 (by decide) rfl rfl 6 (by decide) (hts _ (List.mem_of_getElem? (i := 1) rfl)) (congrArg (fun z => some (Value.int z)) hY) dX6_breakYear_4 ?_
      refine lv_icmp_ge (tgt := 26) hx hb dX6_breakYear_7 (by decide) (fun _ => ?_) (fun hc => absurd (nI_le (by omega) (by omega)) hc)
      refine lv_bipush (v := (-9)) hx hb dX6_breakYear_26 (by decide +kernel) ?_
      refine x_iret hx hb hr hlocks hP hS dX6_breakYear_28 ?_
      exact ⟨hv.symm, rfl⟩
    | succ n ih =>
      intro i hi hv H locs ls hP hS hl
      refine lv_iload_n hx hb dX6_breakYear_2 rfl (lv_at hl 1 rfl) ?_
      refine lv_aload_n hx hb dX6_breakYear_3 rfl (lv_at hl 0 rfl) ?_
      refine x_get (v := .int (nI Y)) hx hb hts hinX6 hown hK hP 0 (by decide) rfl rfl 6 (by decide) (hts _ (List.mem_of_getElem? (i := 1) rfl)) (congrArg (fun z => some (Value.int z)) hY) dX6_breakYear_4 ?_
      refine lv_icmp_ge (tgt := 26) hx hb dX6_breakYear_7 (by decide) (fun hc => absurd hc (nI_ge (by omega) (by omega))) (fun _ => ?_)
      refine lv_aload_n hx hb dX6_breakYear_10 rfl (lv_at hl 0 rfl) ?_
      refine lv_iload_n hx hb dX6_breakYear_11 rfl (lv_at hl 1 rfl) ?_
      refine x_calli (x_runV (As := [.int (nI i)]) (rest := []) hF (c6_temptedSet hI S N hN hN5 C hC hC4 i (by omega) ) (cwV 1 hts gX6_breakYear_X6_temptedSet rfl rfl rfl (by decide +kernel) ⟨Nat.le_of_ble_eq_true rfl, Nat.le_of_ble_eq_true rfl⟩) hK hP (by decide) rfl rfl rfl hl.1 rfl (Nat.le_of_ble_eq_true rfl) dX6_breakYear_12 ⟨Nat.zero_le _, Nat.zero_le _⟩) hS hAd (fun r12 S12 H locs hw hP _ hS => ?_)
      obtain ⟨er12, eS12⟩ := hw
      rw [eS12] at hP
      refine lv_if_eq (tgt := 20) hx hb dX6_breakYear_15 (by decide) (fun c15 => ?_) (fun c15 => ?_)
      · refine lv_iinc (v := nI (i + 1)) (lv' := [(1, .int (nI (i + 1))), (0, .ref (bd 0))]) hx hb dX6_breakYear_20 hl (k := 1) rfl (nI_1 _) (by decide) rfl (fun ls hl => ?_)
        refine lv_goto (tgt := 2) hx hb dX6_breakYear_23 (by decide) ?_
        exact ih (i + 1) (by omega) (hv.trans (by subst er12; rw [scan, if_neg (by simp [c15])])) H locs ls hP hS (lv_sub hl [1, 0] rfl)
      · refine lv_iload_n hx hb dX6_breakYear_18 rfl (lv_at hl 1 rfl) ?_
        refine x_iret hx hb hr hlocks hP hS dX6_breakYear_19 ?_
        subst er12
        exact ⟨by rw [hv, scan, if_pos (by simp [c15])], rfl⟩
  refine lv_iconst (v := 0) hx hb dX6_breakYear_0 (by decide +kernel) ?_
  refine lv_istore_n (lv' := [(1, .int 0), (0, .ref (bd 0))]) hx hb dX6_breakYear_1 rfl hl (by decide) rfl (fun ls hl => ?_)
  exact L2 Y 0 (Nat.zero_add Y) rfl _ _ ls hP hS (lv_sub hl [1, 0] rfl)

set_option maxHeartbeats 4000000 in
set_option maxRecDepth 100000 in
theorem c6_holeOf (hI : xI 18 bd) (S : xSt) (N : Nat) (hN : S 0 7 = nI N) (hN5 : N ≤ 5) (Y : Nat) (hY : S 0 6 = nI Y) (hY6 : Y ≤ 6) (c0 : Nat) (hc : c0 < 4) : xMi l yX6_holeOf wsX6_holeOf ({ frames := 3, cells := 0, slots := 0, locals := 70 }) (dC, dI) vwCl (tyl cI cZ cS cG) (mLy cI cZ bd) 18 bd [.ref (bd 0), .int (nI c0)] S (fun r S' => r = scan (fun y => mT S N c0 y) Y 0 ∧ S' = S) := by
  refine xM_of (cc := cX6_holeOf) (nL := 3) (ret := (some .int)) (by decide) rfl (Nat.le_of_ble_eq_true rfl) ?_
  intro p e s m below meth c ls B hl hK hP
  obtain ⟨hx, hb, hml, hown, hts, hr, hlocks⟩ := B
  have hl : lv_has ls 3 [(0, .ref (bd 0)), (1, .int (nI c0))] := hl
  have hS : va_S (xA 18 bd) s.heap s.heap [] := va_S.rf
  have hAd : ∀ k, k < 18 → xA 18 bd (bd k) := xA_in
  have hinX6 : ∀ w ∈ wsX60, w ∈ wsX6_holeOf := fun _ h => List.mem_cons_of_mem _ (List.mem_append_right _ h)
  have hF : CallFix p m c cX6_holeOf 3 s _ wsX6_holeOf RX6 := ⟨hx, hb, hml, hown, hts⟩
  have L2 : ∀ (n : Nat) (i : Nat) (hi : i + n = Y) (hv : scan (fun y => mT S N c0 y) Y 0 = scan (fun y => mT S N c0 y) n i) (H : Heap) (locs : List Loc) (ls : Array Slot), va_P (dC, dI) vwCl (xW (mLy cI cZ bd) 18 bd S) H → va_S (xA 18 bd) s.heap H locs → lv_has ls 3 [(0, .ref (bd 0)), (1, .int (nI c0)), (2, .int (nI i))] → W p l e ({ frames := 3, cells := 0, slots := 0, locals := 70 }) s m ([.ref (bd 0), .int (nI c0)] : List Value).toArray below meth c H locs 0 0 (MQ below (xQi (dC, dI) vwCl (mLy cI cZ bd) 18 bd (fun r S' => r = scan (fun y => mT S N c0 y) Y 0 ∧ S' = S)) ([.ref (bd 0), .int (nI c0)] : List Value).toArray s 0 0 (xA 18 bd)) (F0 m 2 ls []) := by
    intro n
    induction n with
    | zero =>
      intro i hi hv H locs ls hP hS hl
      refine lv_iload_n hx hb dX6_holeOf_2 rfl (lv_at hl 2 rfl) ?_
      refine lv_aload_n hx hb dX6_holeOf_3 rfl (lv_at hl 0 rfl) ?_
      refine x_get (v := .int (nI Y)) hx hb hts hinX6 hown hK hP 0 (by decide) rfl rfl 6 (by decide) (hts _ (List.mem_of_getElem? (i := 1) rfl)) (congrArg (fun z => some (Value.int z)) hY) dX6_holeOf_4 ?_
      refine lv_icmp_ge (tgt := 27) hx hb dX6_holeOf_7 (by decide) (fun _ => ?_) (fun hc => absurd (nI_le (by omega) (by omega)) hc)
      refine lv_bipush (v := (-9)) hx hb dX6_holeOf_27 (by decide +kernel) ?_
      refine x_iret hx hb hr hlocks hP hS dX6_holeOf_29 ?_
      exact ⟨hv.symm, rfl⟩
    | succ n ih =>
      intro i hi hv H locs ls hP hS hl
      refine lv_iload_n hx hb dX6_holeOf_2 rfl (lv_at hl 2 rfl) ?_
      refine lv_aload_n hx hb dX6_holeOf_3 rfl (lv_at hl 0 rfl) ?_
      refine x_get (v := .int (nI Y)) hx hb hts hinX6 hown hK hP 0 (by decide) rfl rfl 6 (by decide) (hts _ (List.mem_of_getElem? (i := 1) rfl)) (congrArg (fun z => some (Value.int z)) hY) dX6_holeOf_4 ?_
      refine lv_icmp_ge (tgt := 27) hx hb dX6_holeOf_7 (by decide) (fun hc => absurd hc (nI_ge (by omega) (by omega))) (fun _ => ?_)
      refine lv_aload_n hx hb dX6_holeOf_10 rfl (lv_at hl 0 rfl) ?_
      refine lv_iload_n hx hb dX6_holeOf_11 rfl (lv_at hl 1 rfl) ?_
      refine lv_iload_n hx hb dX6_holeOf_12 rfl (lv_at hl 2 rfl) ?_
      refine x_calli (x_runV (As := [.int (nI c0), .int (nI i)]) (rest := []) hF (c6_isTempted hI S N hN hN5 c0 i (by omega) (by omega) ) (cwV 2 hts gX6_holeOf_X6_isTempted rfl rfl rfl (by decide +kernel) ⟨Nat.le_of_ble_eq_true rfl, Nat.le_of_ble_eq_true rfl⟩) hK hP (by decide) rfl rfl rfl hl.1 rfl (Nat.le_of_ble_eq_true rfl) dX6_holeOf_13 ⟨Nat.zero_le _, Nat.zero_le _⟩) hS hAd (fun r13 S13 H locs hw hP _ hS => ?_)
      obtain ⟨hw, eS13⟩ := hw
      rw [eS13] at hP
      by_cases q13 : mT S N c0 i = true
      · have hw : r13 = 1 := hw.trans (if_pos q13)
        subst hw
        refine lv_if_eq (tgt := 21) hx hb dX6_holeOf_16 (by decide) (fun hc => absurd hc (by decide)) (fun _ => ?_)
        refine lv_iload_n hx hb dX6_holeOf_19 rfl (lv_at hl 2 rfl) ?_
        refine x_iret hx hb hr hlocks hP hS dX6_holeOf_20 ?_
        exact ⟨by rw [hv, scan, if_pos q13], rfl⟩
      · have hw : r13 = 0 := hw.trans (if_neg q13)
        subst hw
        refine lv_if_eq (tgt := 21) hx hb dX6_holeOf_16 (by decide) (fun _ => ?_) (fun hc => absurd (by decide) hc)
        refine lv_iinc (v := nI (i + 1)) (lv' := [(2, .int (nI (i + 1))), (0, .ref (bd 0)), (1, .int (nI c0))]) hx hb dX6_holeOf_21 hl (k := 2) rfl (nI_1 _) (by decide) rfl (fun ls hl => ?_)
        refine lv_goto (tgt := 2) hx hb dX6_holeOf_24 (by decide) ?_
        exact ih (i + 1) (by omega) (hv.trans (by rw [scan, if_neg q13])) H locs ls hP hS (lv_sub hl [1, 2, 0] rfl)
  refine lv_iconst (v := 0) hx hb dX6_holeOf_0 (by decide +kernel) ?_
  refine lv_istore_n (lv' := [(2, .int 0), (0, .ref (bd 0)), (1, .int (nI c0))]) hx hb dX6_holeOf_1 rfl hl (by decide) rfl (fun ls hl => ?_)
  exact L2 Y 0 (Nat.zero_add Y) rfl _ _ ls hP hS (lv_sub hl [1, 2, 0] rfl)

set_option maxHeartbeats 4000000 in
set_option maxRecDepth 100000 in
theorem c6_breakCourt (hI : xI 18 bd) (S : xSt) (N : Nat) (hN : S 0 7 = nI N) (hN5 : N ≤ 5) (C : Nat) (hC : S 0 5 = nI C) (hC4 : C ≤ 4) (Y : Nat) (hY : S 0 6 = nI Y) (hY6 : Y ≤ 6) : xMi l yX6_breakCourt wsX6_breakCourt ({ frames := 5, cells := 0, slots := 0, locals := 114 }) (dC, dI) vwCl (tyl cI cZ cS cG) (mLy cI cZ bd) 18 bd [.ref (bd 0)] S (fun r S' => r = mBC S N C Y ∧ S' = S) := by
  refine xM_of (cc := cX6_breakCourt) (nL := 3) (ret := (some .int)) (by decide) rfl (Nat.le_of_ble_eq_true rfl) ?_
  intro p e s m below meth c ls B hl hK hP
  obtain ⟨hx, hb, hml, hown, hts, hr, hlocks⟩ := B
  have hl : lv_has ls 3 [(0, .ref (bd 0))] := hl
  have hS : va_S (xA 18 bd) s.heap s.heap [] := va_S.rf
  have hAd : ∀ k, k < 18 → xA 18 bd (bd k) := xA_in
  have hinX6 : ∀ w ∈ wsX60, w ∈ wsX6_breakCourt := fun _ h => List.mem_cons_of_mem _ (List.mem_append_right _ h)
  have hF : CallFix p m c cX6_breakCourt 3 s _ wsX6_breakCourt RX6 := ⟨hx, hb, hml, hown, hts⟩
  have L7 : ∀ (n : Nat) (y0 : Nat) (hy0 : y0 < 0 + Y) (hb9 : mBrk S N C Y = nI y0) (i : Nat) (hi : i + n = C) (hv : mBC S N C Y = scan (fun c => mT S N c y0) n i) (H : Heap) (locs : List Loc) (ls : Array Slot), va_P (dC, dI) vwCl (xW (mLy cI cZ bd) 18 bd S) H → va_S (xA 18 bd) s.heap H locs → lv_has ls 3 [(0, .ref (bd 0)), (1, .int (nI y0)), (2, .int (nI i))] → W p l e ({ frames := 5, cells := 0, slots := 0, locals := 114 }) s m ([.ref (bd 0)] : List Value).toArray below meth c H locs 0 0 (MQ below (xQi (dC, dI) vwCl (mLy cI cZ bd) 18 bd (fun r S' => r = mBC S N C Y ∧ S' = S)) ([.ref (bd 0)] : List Value).toArray s 0 0 (xA 18 bd)) (F0 m 7 ls []) := by
    intro n
    induction n with
    | zero =>
      intro y0 hy0 hb9 i hi hv H locs ls hP hS hl
      refine lv_iload_n hx hb dX6_breakCourt_7 rfl (lv_at hl 2 rfl) ?_
      refine lv_aload_n hx hb dX6_breakCourt_8 rfl (lv_at hl 0 rfl) ?_
      refine x_get (v := .int (nI C)) hx hb hts hinX6 hown hK hP 0 (by decide) rfl rfl 5 (by decide) (hts _ (List.mem_of_getElem? (i := 1) rfl)) (congrArg (fun z => some (Value.int z)) hC) dX6_breakCourt_9 ?_
      refine lv_icmp_ge (tgt := 38) hx hb dX6_breakCourt_12 (by decide) (fun _ => ?_) (fun hc => absurd (nI_le (by omega) (by omega)) hc)
      refine lv_bipush (v := (-9)) hx hb dX6_breakCourt_38 (by decide +kernel) ?_
      refine x_iret hx hb hr hlocks hP hS dX6_breakCourt_40 ?_
      exact ⟨hv.symm, rfl⟩
    | succ n ih =>
      intro y0 hy0 hb9 i hi hv H locs ls hP hS hl
      refine lv_iload_n hx hb dX6_breakCourt_7 rfl (lv_at hl 2 rfl) ?_
      refine lv_aload_n hx hb dX6_breakCourt_8 rfl (lv_at hl 0 rfl) ?_
      refine x_get (v := .int (nI C)) hx hb hts hinX6 hown hK hP 0 (by decide) rfl rfl 5 (by decide) (hts _ (List.mem_of_getElem? (i := 1) rfl)) (congrArg (fun z => some (Value.int z)) hC) dX6_breakCourt_9 ?_
      refine lv_icmp_ge (tgt := 38) hx hb dX6_breakCourt_12 (by decide) (fun hc => absurd hc (nI_ge (by omega) (by omega))) (fun _ => ?_)
      refine lv_iload_n hx hb dX6_breakCourt_15 rfl (lv_at hl 1 rfl) ?_
      refine lv_bipush (v := (-9)) hx hb dX6_breakCourt_16 (by decide +kernel) ?_
      refine lv_icmp_eq (tgt := 38) hx hb dX6_breakCourt_18 (by decide) (fun hc => absurd hc (nI_ne9 (by omega))) (fun _ => ?_)
      refine lv_aload_n hx hb dX6_breakCourt_21 rfl (lv_at hl 0 rfl) ?_
      refine lv_iload_n hx hb dX6_breakCourt_22 rfl (lv_at hl 2 rfl) ?_
      refine lv_iload_n hx hb dX6_breakCourt_23 rfl (lv_at hl 1 rfl) ?_
      refine x_calli (x_runV (As := [.int (nI i), .int (nI y0)]) (rest := []) hF (c6_isTempted hI S N hN hN5 i y0 (by omega) (by omega) ) (cwV 2 hts gX6_breakCourt_X6_isTempted rfl rfl rfl (by decide +kernel) ⟨Nat.le_of_ble_eq_true rfl, Nat.le_of_ble_eq_true rfl⟩) hK hP (by decide) rfl rfl rfl hl.1 rfl (Nat.le_of_ble_eq_true rfl) dX6_breakCourt_24 ⟨Nat.zero_le _, Nat.zero_le _⟩) hS hAd (fun r24 S24 H locs hw hP _ hS => ?_)
      obtain ⟨hw, eS24⟩ := hw
      rw [eS24] at hP
      by_cases q24 : mT S N i y0 = true
      · have hw : r24 = 1 := hw.trans (if_pos q24)
        subst hw
        refine lv_if_eq (tgt := 32) hx hb dX6_breakCourt_27 (by decide) (fun hc => absurd hc (by decide)) (fun _ => ?_)
        refine lv_iload_n hx hb dX6_breakCourt_30 rfl (lv_at hl 2 rfl) ?_
        refine x_iret hx hb hr hlocks hP hS dX6_breakCourt_31 ?_
        exact ⟨by rw [hv, scan, if_pos q24], rfl⟩
      · have hw : r24 = 0 := hw.trans (if_neg q24)
        subst hw
        refine lv_if_eq (tgt := 32) hx hb dX6_breakCourt_27 (by decide) (fun _ => ?_) (fun hc => absurd (by decide) hc)
        refine lv_iinc (v := nI (i + 1)) (lv' := [(2, .int (nI (i + 1))), (0, .ref (bd 0)), (1, .int (nI y0))]) hx hb dX6_breakCourt_32 hl (k := 2) rfl (nI_1 _) (by decide) rfl (fun ls hl => ?_)
        refine lv_goto (tgt := 7) hx hb dX6_breakCourt_35 (by decide) ?_
        exact ih y0 hy0 hb9 (i + 1) (by omega) (hv.trans (by rw [scan, if_neg q24])) H locs ls hP hS (lv_sub hl [1, 2, 0] rfl)
  refine lv_aload_n hx hb dX6_breakCourt_0 rfl (lv_at hl 0 rfl) ?_
  refine x_calli (x_runV (As := []) (rest := []) hF (c6_breakYear hI S N hN hN5 C hC hC4 Y hY hY6 ) (cwV 0 hts gX6_breakCourt_X6_breakYear rfl rfl rfl (by decide +kernel) ⟨Nat.le_of_ble_eq_true rfl, Nat.le_of_ble_eq_true rfl⟩) hK hP (by decide) rfl rfl rfl hl.1 rfl (Nat.le_of_ble_eq_true rfl) dX6_breakCourt_1 ⟨Nat.zero_le _, Nat.zero_le _⟩) hS hAd (fun r1 S1 H locs hw hP _ hS => ?_)
  obtain ⟨hw, eS1⟩ := hw
  rw [eS1] at hP
  rcases scan_cases (fun y => decide (¬ mSet S N C y = 0)) Y 0 with hb9 | ⟨y0, -, hy0, -, hb9⟩
  · rw [show mBrk S N C Y = _ from hb9] at hw
    subst hw
    refine lv_istore_n (lv' := [(1, .int (-9)), (0, .ref (bd 0))]) hx hb dX6_breakCourt_4 rfl hl (by decide) rfl (fun ls hl => ?_)
    refine lv_iconst (v := 0) hx hb dX6_breakCourt_5 (by decide +kernel) ?_
    refine lv_istore_n (lv' := [(2, .int 0), (1, .int (-9)), (0, .ref (bd 0))]) hx hb dX6_breakCourt_6 rfl hl (by decide) rfl (fun ls hl => ?_)
    refine lv_iload_n hx hb dX6_breakCourt_7 rfl (lv_at hl 0 rfl) ?_
    refine lv_aload_n hx hb dX6_breakCourt_8 rfl (lv_at hl 2 rfl) ?_
    refine x_get (v := .int (nI C)) hx hb hts hinX6 hown hK hP 0 (by decide) rfl rfl 5 (by decide) (hts _ (List.mem_of_getElem? (i := 1) rfl)) (congrArg (fun z => some (Value.int z)) hC) dX6_breakCourt_9 ?_
    refine lv_icmp_ge (tgt := 38) hx hb dX6_breakCourt_12 (by decide) (fun c12 => ?_) (fun c12 => ?_)
    · have d12 := Int32.not_lt.mpr c12
      refine lv_bipush (v := (-9)) hx hb dX6_breakCourt_38 (by decide +kernel) ?_
      refine x_iret hx hb hr hlocks hP hS dX6_breakCourt_40 ?_
      exact ⟨by rw [mBC, if_pos (show mBrk S N C Y = -9 from hb9)], rfl⟩
    · have d12 := Int32.not_le.mp c12
      refine lv_iload_n hx hb dX6_breakCourt_15 rfl (lv_at hl 1 rfl) ?_
      refine lv_bipush (v := (-9)) hx hb dX6_breakCourt_16 (by decide +kernel) ?_
      refine lv_icmp_eq (tgt := 38) hx hb dX6_breakCourt_18 (by decide) (fun _ => ?_) (fun hc => absurd (by decide) hc)
      refine lv_bipush (v := (-9)) hx hb dX6_breakCourt_38 (by decide +kernel) ?_
      refine x_iret hx hb hr hlocks hP hS dX6_breakCourt_40 ?_
      exact ⟨by rw [mBC, if_pos (show mBrk S N C Y = -9 from hb9)], rfl⟩
  · rw [show mBrk S N C Y = _ from hb9] at hw
    subst hw
    refine lv_istore_n (lv' := [(1, .int (nI y0)), (0, .ref (bd 0))]) hx hb dX6_breakCourt_4 rfl hl (by decide) rfl (fun ls hl => ?_)
    refine lv_iconst (v := 0) hx hb dX6_breakCourt_5 (by decide +kernel) ?_
    refine lv_istore_n (lv' := [(2, .int 0), (1, .int (nI y0)), (0, .ref (bd 0))]) hx hb dX6_breakCourt_6 rfl hl (by decide) rfl (fun ls hl => ?_)
    exact L7 C y0 hy0 hb9 0 (Nat.zero_add C) (by rw [mBC, show mBrk S N C Y = _ from hb9, if_neg (nI_ne9 (by omega)), nN_nI (by omega)]) _ _ ls hP hS (lv_sub hl [2, 1, 0] rfl)

set_option maxHeartbeats 4000000 in
set_option maxRecDepth 100000 in
theorem c6_sentSet (hI : xI 18 bd) (S : xSt) (N : Nat) (hN : S 0 7 = nI N) (hN5 : N ≤ 5) : xMi l yX6_sentSet wsX6_sentSet ({ frames := 0, cells := 0, slots := 0, locals := 0 }) (dC, dI) vwCl (tyl cI cZ cS cG) (mLy cI cZ bd) 18 bd [.ref (bd 0)] S (fun r S' => r = mSent S N ∧ S' = S) := by
  refine xM_of (cc := cX6_sentSet) (nL := 3) (ret := (some .int)) (by decide) rfl (Nat.le_of_ble_eq_true rfl) ?_
  intro p e s m below meth c ls B hl hK hP
  obtain ⟨hx, hb, hml, hown, hts, hr, hlocks⟩ := B
  have hl : lv_has ls 3 [(0, .ref (bd 0))] := hl
  have hS : va_S (xA 18 bd) s.heap s.heap [] := va_S.rf
  have hAd : ∀ k, k < 18 → xA 18 bd (bd k) := xA_in
  have hinX6 : ∀ w ∈ wsX60, w ∈ wsX6_sentSet := fun _ h => List.mem_cons_of_mem _ (List.mem_append_right _ h)
  have hF : CallFix p m c cX6_sentSet 3 s _ wsX6_sentSet RX6 := ⟨hx, hb, hml, hown, hts⟩
  have L4 : ∀ (n : Nat) (i : Nat) (a : Int32) (hi : i + n = N) (hv : mSent S N = orL (fun s => if S 9 s = -9 then (0 : Int32) else 1 <<< (nI s &&& 31)) n i a) (H : Heap) (locs : List Loc) (ls : Array Slot), va_P (dC, dI) vwCl (xW (mLy cI cZ bd) 18 bd S) H → va_S (xA 18 bd) s.heap H locs → lv_has ls 3 [(0, .ref (bd 0)), (1, .int a), (2, .int (nI i))] → W p l e ({ frames := 0, cells := 0, slots := 0, locals := 0 }) s m ([.ref (bd 0)] : List Value).toArray below meth c H locs 0 0 (MQ below (xQi (dC, dI) vwCl (mLy cI cZ bd) 18 bd (fun r S' => r = mSent S N ∧ S' = S)) ([.ref (bd 0)] : List Value).toArray s 0 0 (xA 18 bd)) (F0 m 4 ls []) := by
    intro n
    induction n with
    | zero =>
      intro i a hi hv H locs ls hP hS hl
      refine lv_iload_n hx hb dX6_sentSet_4 rfl (lv_at hl 2 rfl) ?_
      refine lv_aload_n hx hb dX6_sentSet_5 rfl (lv_at hl 0 rfl) ?_
      refine x_get (v := .int (nI N)) hx hb hts hinX6 hown hK hP 0 (by decide) rfl rfl 7 (by decide) (hts _ (List.mem_of_getElem? (i := 1) rfl)) (congrArg (fun z => some (Value.int z)) hN) dX6_sentSet_6 ?_
      refine lv_icmp_ge (tgt := 39) hx hb dX6_sentSet_9 (by decide) (fun _ => ?_) (fun hc => absurd (nI_le (by omega) (by omega)) hc)
      refine lv_iload_n hx hb dX6_sentSet_39 rfl (lv_at hl 1 rfl) ?_
      refine x_iret hx hb hr hlocks hP hS dX6_sentSet_40 ?_
      exact ⟨hv.symm, rfl⟩
    | succ n ih =>
      intro i a hi hv H locs ls hP hS hl
      refine lv_iload_n hx hb dX6_sentSet_4 rfl (lv_at hl 2 rfl) ?_
      refine lv_aload_n hx hb dX6_sentSet_5 rfl (lv_at hl 0 rfl) ?_
      refine x_get (v := .int (nI N)) hx hb hts hinX6 hown hK hP 0 (by decide) rfl rfl 7 (by decide) (hts _ (List.mem_of_getElem? (i := 1) rfl)) (congrArg (fun z => some (Value.int z)) hN) dX6_sentSet_6 ?_
      refine lv_icmp_ge (tgt := 39) hx hb dX6_sentSet_9 (by decide) (fun hc => absurd hc (nI_ge (by omega) (by omega))) (fun _ => ?_)
      refine lv_iload_n hx hb dX6_sentSet_12 rfl (lv_at hl 1 rfl) ?_
      refine lv_aload_n hx hb dX6_sentSet_13 rfl (lv_at hl 0 rfl) ?_
      refine x_get (v := .ref (bd 9)) hx hb hts hinX6 hown hK hP 0 (by decide) rfl rfl 13 (by decide) (hts _ (List.mem_of_getElem? (i := 2) rfl)) rfl dX6_sentSet_14 ?_
      refine lv_iload_n hx hb dX6_sentSet_17 rfl (lv_at hl 2 rfl) ?_
      refine x_iald (v := S 9 i) hx hb hK hP 9 0 (by decide) rfl rfl i rfl (by omega) (by decide) rfl dX6_sentSet_18 ?_
      refine lv_bipush (v := (-9)) hx hb dX6_sentSet_19 (by decide +kernel) ?_
      refine lv_icmp_ne (tgt := 28) hx hb dX6_sentSet_21 (by decide) (fun c21 => ?_) (fun c21 => ?_)
      · refine lv_iconst (v := 1) hx hb dX6_sentSet_28 (by decide +kernel) ?_
        refine lv_iload_n hx hb dX6_sentSet_29 rfl (lv_at hl 2 rfl) ?_
        refine lv_ishl hx hb dX6_sentSet_30 ?_
        refine lv_ior hx hb dX6_sentSet_31 ?_
        refine lv_topi (fun x32 ex32 => ?_)
        refine lv_istore_n (lv' := [(1, .int x32), (0, .ref (bd 0)), (2, .int (nI i))]) hx hb dX6_sentSet_32 rfl hl (by decide) rfl (fun ls hl => ?_)
        refine lv_iinc (v := nI (i + 1)) (lv' := [(2, .int (nI (i + 1))), (1, .int x32), (0, .ref (bd 0))]) hx hb dX6_sentSet_33 hl (k := 2) rfl (nI_1 _) (by decide) rfl (fun ls hl => ?_)
        refine lv_goto (tgt := 4) hx hb dX6_sentSet_36 (by decide) ?_
        exact ih (i + 1) x32 (by omega) (hv.trans (congrArg (orL (fun s => if S 9 s = -9 then (0 : Int32) else 1 <<< (nI s &&& 31)) n (i + 1)) (show a ||| (fun s => if S 9 s = -9 then (0 : Int32) else 1 <<< (nI s &&& 31)) i = x32 from by subst ex32; simp [c21]))) H locs ls hP hS (lv_sub hl [2, 1, 0] rfl)
      · refine lv_iconst (v := 0) hx hb dX6_sentSet_24 (by decide +kernel) ?_
        refine lv_goto (tgt := 31) hx hb dX6_sentSet_25 (by decide) ?_
        refine lv_ior hx hb dX6_sentSet_31 ?_
        refine lv_topi (fun x32 ex32 => ?_)
        refine lv_istore_n (lv' := [(1, .int x32), (0, .ref (bd 0)), (2, .int (nI i))]) hx hb dX6_sentSet_32 rfl hl (by decide) rfl (fun ls hl => ?_)
        refine lv_iinc (v := nI (i + 1)) (lv' := [(2, .int (nI (i + 1))), (1, .int x32), (0, .ref (bd 0))]) hx hb dX6_sentSet_33 hl (k := 2) rfl (nI_1 _) (by decide) rfl (fun ls hl => ?_)
        refine lv_goto (tgt := 4) hx hb dX6_sentSet_36 (by decide) ?_
        exact ih (i + 1) x32 (by omega) (hv.trans (congrArg (orL (fun s => if S 9 s = -9 then (0 : Int32) else 1 <<< (nI s &&& 31)) n (i + 1)) (show a ||| (fun s => if S 9 s = -9 then (0 : Int32) else 1 <<< (nI s &&& 31)) i = x32 from by subst ex32; simp [c21]))) H locs ls hP hS (lv_sub hl [2, 1, 0] rfl)
  refine lv_iconst (v := 0) hx hb dX6_sentSet_0 (by decide +kernel) ?_
  refine lv_istore_n (lv' := [(1, .int 0), (0, .ref (bd 0))]) hx hb dX6_sentSet_1 rfl hl (by decide) rfl (fun ls hl => ?_)
  refine lv_iconst (v := 0) hx hb dX6_sentSet_2 (by decide +kernel) ?_
  refine lv_istore_n (lv' := [(2, .int 0), (1, .int 0), (0, .ref (bd 0))]) hx hb dX6_sentSet_3 rfl hl (by decide) rfl (fun ls hl => ?_)
  exact L4 N 0 0 (Nat.zero_add N) rfl _ _ ls hP hS (lv_sub hl [2, 1, 0] rfl)

set_option maxHeartbeats 4000000 in
set_option maxRecDepth 100000 in
theorem c6_size (hI : xI 18 bd) (S : xSt) (k0 : Nat) (hk0 : k0 < 64) : xMi l yX6_size wsX6_size ({ frames := 0, cells := 0, slots := 0, locals := 0 }) (dC, dI) vwCl (tyl cI cZ cS cG) (mLy cI cZ bd) 18 bd [.int (nI k0)] S (fun r S' => r = pcL 6 k0 0 ∧ S' = S) := by
  refine xM_of (cc := cX6_size) (nL := 3) (ret := (some .int)) (by decide) rfl (Nat.le_of_ble_eq_true rfl) ?_
  intro p e s m below meth c ls B hl hK hP
  obtain ⟨hx, hb, hml, hown, hts, hr, hlocks⟩ := B
  have hl : lv_has ls 3 [(0, .int (nI k0))] := hl
  have hS : va_S (xA 18 bd) s.heap s.heap [] := va_S.rf
  have hAd : ∀ k, k < 18 → xA 18 bd (bd k) := xA_in
  have hF : CallFix p m c cX6_size 3 s _ wsX6_size RX6 := ⟨hx, hb, hml, hown, hts⟩
  have L4 : ∀ (n : Nat) (k : Nat) (a : Int32) (hn : n ≤ 6) (hk : k < 2 ^ n) (hv : pcL 6 k0 0 = pcL n k a) (H : Heap) (locs : List Loc) (ls : Array Slot), va_P (dC, dI) vwCl (xW (mLy cI cZ bd) 18 bd S) H → va_S (xA 18 bd) s.heap H locs → lv_has ls 3 [(0, .int (nI k0)), (1, .int a), (2, .int (nI k))] → W p l e ({ frames := 0, cells := 0, slots := 0, locals := 0 }) s m ([.int (nI k0)] : List Value).toArray below meth c H locs 0 0 (MQ below (xQi (dC, dI) vwCl (mLy cI cZ bd) 18 bd (fun r S' => r = pcL 6 k0 0 ∧ S' = S)) ([.int (nI k0)] : List Value).toArray s 0 0 (xA 18 bd)) (F0 m 4 ls []) := by
    intro n
    induction n with
    | zero =>
      intro k a hn hk hv H locs ls hP hS hl
      refine lv_iload_n hx hb dX6_size_4 rfl (lv_at hl 2 rfl) ?_
      refine lv_if_le (tgt := 21) hx hb dX6_size_5 (by decide) (fun _ => ?_) (fun hc => absurd (by rw [show k = 0 by omega]; decide +kernel) hc)
      refine lv_iload_n hx hb dX6_size_21 rfl (lv_at hl 1 rfl) ?_
      refine x_iret hx hb hr hlocks hP hS dX6_size_22 ?_
      exact ⟨hv.symm, rfl⟩
    | succ n ih =>
      intro k a hn hk hv H locs ls hP hS hl
      have hk64 : k < 64 := Nat.lt_of_lt_of_le hk (Nat.pow_le_pow_right (n := 2) (by decide) (show n + 1 ≤ 6 from hn))
      refine lv_iload_n hx hb dX6_size_4 rfl (lv_at hl 2 rfl) ?_
      refine lv_if_le (tgt := 21) hx hb dX6_size_5 (by decide) (fun c5 => ?_) (fun c5 => ?_)
      · have d5 := Int32.not_lt.mpr c5
        refine lv_iload_n hx hb dX6_size_21 rfl (lv_at hl 1 rfl) ?_
        refine x_iret hx hb hr hlocks hP hS dX6_size_22 ?_
        exact ⟨by rw [hv, pcL, if_pos (nI_le0 c5 (by omega))], rfl⟩
      · have d5 := Int32.not_le.mp c5
        refine lv_iload_n hx hb dX6_size_8 rfl (lv_at hl 1 rfl) ?_
        refine lv_iload_n hx hb dX6_size_9 rfl (lv_at hl 2 rfl) ?_
        refine lv_iconst (v := 1) hx hb dX6_size_10 (by decide +kernel) ?_
        refine lv_iand hx hb dX6_size_11 ?_
        refine lv_iadd hx hb dX6_size_12 ?_
        refine lv_topi (fun x13 ex13 => ?_)
        obtain rfl : x13 = a + nI (k % 2) := by rw [ex13, show (nI k &&& 1) = nI (k % 2 ^ 1) from pk_andN (by omega) 1 (by decide +kernel)]
        refine lv_istore_n (lv' := [(1, .int (a + nI (k % 2))), (0, .int (nI k0)), (2, .int (nI k))]) hx hb dX6_size_13 rfl hl (by decide) rfl (fun ls hl => ?_)
        refine lv_iload_n hx hb dX6_size_14 rfl (lv_at hl 2 rfl) ?_
        refine lv_iconst (v := 1) hx hb dX6_size_15 (by decide +kernel) ?_
        refine lv_ishr hx hb dX6_size_16 ?_
        refine lv_topi (fun x17 ex17 => ?_)
        obtain rfl : x17 = nI (k / 2) := by rw [ex17, show (nI k >>> (1 &&& 31)) = nI (k / 2 ^ 1) from pk_shrN (by omega) _ 1 (by decide +kernel)]
        refine lv_istore_n (lv' := [(2, .int (nI (k / 2))), (1, .int (a + nI (k % 2))), (0, .int (nI k0))]) hx hb dX6_size_17 rfl hl (by decide) rfl (fun ls hl => ?_)
        refine lv_goto (tgt := 4) hx hb dX6_size_18 (by decide) ?_
        exact ih (k / 2) (a + nI (k % 2)) (by omega) (by rw [Nat.pow_succ] at hk; omega) (hv.trans (by rw [pcL, if_neg (fun hz => c5 (by rw [hz]; decide +kernel))])) H locs ls hP hS (lv_sub hl [2, 1, 0] rfl)
  refine lv_iconst (v := 0) hx hb dX6_size_0 (by decide +kernel) ?_
  refine lv_istore_n (lv' := [(1, .int 0), (0, .int (nI k0))]) hx hb dX6_size_1 rfl hl (by decide) rfl (fun ls hl => ?_)
  refine lv_iload_n hx hb dX6_size_2 rfl (lv_at hl 1 rfl) ?_
  refine lv_istore_n (lv' := [(2, .int (nI k0)), (1, .int 0), (0, .int (nI k0))]) hx hb dX6_size_3 rfl hl (by decide) rfl (fun ls hl => ?_)
  exact L4 6 k0 0 (Nat.le_refl 6) hk0 rfl _ _ ls hP hS (lv_sub hl [2, 1, 0] rfl)

set_option maxHeartbeats 4000000 in
set_option maxRecDepth 100000 in
theorem c6_areSo (hI : xI 18 bd) (S : xSt) (N : Nat) (hN : S 0 7 = nI N) (hN5 : N ≤ 5) (R : Nat) (hR : S 0 22 = nI R) (hR8 : R ≤ 8) (hrd : ∀ q, q < R → okN (S 14 q) 4 ∧ okN (S 15 q) 6) : xMi l yX6_areSo wsX6_areSo ({ frames := 3, cells := 0, slots := 0, locals := 70 }) (dC, dI) vwCl (tyl cI cZ cS cG) (mLy cI cZ bd) 18 bd [.ref (bd 0)] S (fun r S' => r = (if mSo (sr S 13 (askF S N)) N R = true then 1 else 0) ∧ S' = (sr S 13 (askF S N))) := by
  refine xM_of (cc := cX6_areSo) (nL := 2) (ret := (some .boolean)) (by decide) rfl (Nat.le_of_ble_eq_true rfl) ?_
  intro p e s m below meth c ls B hl hK hP
  obtain ⟨hx, hb, hml, hown, hts, hr, hlocks⟩ := B
  have hl : lv_has ls 2 [(0, .ref (bd 0))] := hl
  have hS : va_S (xA 18 bd) s.heap s.heap [] := va_S.rf
  have hAd : ∀ k, k < 18 → xA 18 bd (bd k) := xA_in
  have hinX6 : ∀ w ∈ wsX60, w ∈ wsX6_areSo := fun _ h => List.mem_cons_of_mem _ (List.mem_append_right _ h)
  have hF : CallFix p m c cX6_areSo 2 s _ wsX6_areSo RX6 := ⟨hx, hb, hml, hown, hts⟩
  have L6 : ∀ (n : Nat) (i : Nat) (hi : i + n = R) (hv : mSo (sr S 13 (askF S N)) N R = allL (fun q => decide ((if mT (sr S 13 (askF S N)) N (nN ((sr S 13 (askF S N)) 14 q)) (nN ((sr S 13 (askF S N)) 15 q)) = true then (1 : Int32) else 0) = (sr S 13 (askF S N)) 16 q)) n i) (H : Heap) (locs : List Loc) (ls : Array Slot), va_P (dC, dI) vwCl (xW (mLy cI cZ bd) 18 bd (sr S 13 (askF S N))) H → va_S (xA 18 bd) s.heap H locs → lv_has ls 2 [(0, .ref (bd 0)), (1, .int (nI i))] → W p l e ({ frames := 3, cells := 0, slots := 0, locals := 70 }) s m ([.ref (bd 0)] : List Value).toArray below meth c H locs 0 0 (MQ below (xQi (dC, dI) vwCl (mLy cI cZ bd) 18 bd (fun r S' => r = (if mSo (sr S 13 (askF S N)) N R = true then 1 else 0) ∧ S' = (sr S 13 (askF S N)))) ([.ref (bd 0)] : List Value).toArray s 0 0 (xA 18 bd)) (F0 m 6 ls []) := by
    intro n
    induction n with
    | zero =>
      intro i hi hv H locs ls hP hS hl
      refine lv_iload_n hx hb dX6_areSo_6 rfl (lv_at hl 1 rfl) ?_
      refine lv_aload_n hx hb dX6_areSo_7 rfl (lv_at hl 0 rfl) ?_
      refine x_get (v := .int (nI R)) hx hb hts hinX6 hown hK hP 0 (by decide) rfl rfl 22 (by decide) (hts _ (List.mem_of_getElem? (i := 1) rfl)) (congrArg (fun z => some (Value.int z)) hR) dX6_areSo_8 ?_
      refine lv_icmp_ge (tgt := 47) hx hb dX6_areSo_11 (by decide) (fun _ => ?_) (fun hc => absurd (nI_le (by omega) (by omega)) hc)
      refine lv_iconst (v := 1) hx hb dX6_areSo_47 (by decide +kernel) ?_
      refine x_zret hx hb hr hlocks hP hS dX6_areSo_48 (Or.inr rfl) ?_
      exact ⟨by rw [if_pos (show mSo (sr S 13 (askF S N)) N R = true from hv)], rfl⟩
    | succ n ih =>
      intro i hi hv H locs ls hP hS hl
      obtain ⟨⟨c0, hc0, ec0⟩, ⟨y0, hy0, ey0⟩⟩ := hrd i (by omega)
      have en : nN ((sr S 13 (askF S N)) 14 i) = c0 := by rw [show (sr S 13 (askF S N)) 14 i = nI c0 from ec0]; exact nN_nI (by omega)
      have em : nN ((sr S 13 (askF S N)) 15 i) = y0 := by rw [show (sr S 13 (askF S N)) 15 i = nI y0 from ey0]; exact nN_nI (by omega)
      refine lv_iload_n hx hb dX6_areSo_6 rfl (lv_at hl 1 rfl) ?_
      refine lv_aload_n hx hb dX6_areSo_7 rfl (lv_at hl 0 rfl) ?_
      refine x_get (v := .int (nI R)) hx hb hts hinX6 hown hK hP 0 (by decide) rfl rfl 22 (by decide) (hts _ (List.mem_of_getElem? (i := 1) rfl)) (congrArg (fun z => some (Value.int z)) hR) dX6_areSo_8 ?_
      refine lv_icmp_ge (tgt := 47) hx hb dX6_areSo_11 (by decide) (fun hc => absurd hc (nI_ge (by omega) (by omega))) (fun _ => ?_)
      refine lv_aload_n hx hb dX6_areSo_14 rfl (lv_at hl 0 rfl) ?_
      refine lv_aload_n hx hb dX6_areSo_15 rfl (lv_at hl 0 rfl) ?_
      refine x_get (v := .ref (bd 14)) hx hb hts hinX6 hown hK hP 0 (by decide) rfl rfl 23 (by decide) (hts _ (List.mem_of_getElem? (i := 2) rfl)) rfl dX6_areSo_16 ?_
      refine lv_iload_n hx hb dX6_areSo_19 rfl (lv_at hl 1 rfl) ?_
      refine x_iald (v := nI c0) hx hb hK hP 14 0 (by decide) rfl rfl i rfl (by omega) (by decide) ec0 dX6_areSo_20 ?_
      refine lv_aload_n hx hb dX6_areSo_21 rfl (lv_at hl 0 rfl) ?_
      refine x_get (v := .ref (bd 15)) hx hb hts hinX6 hown hK hP 0 (by decide) rfl rfl 24 (by decide) (hts _ (List.mem_of_getElem? (i := 3) rfl)) rfl dX6_areSo_22 ?_
      refine lv_iload_n hx hb dX6_areSo_25 rfl (lv_at hl 1 rfl) ?_
      refine x_iald (v := nI y0) hx hb hK hP 15 0 (by decide) rfl rfl i rfl (by omega) (by decide) ey0 dX6_areSo_26 ?_
      refine x_calli (x_runV (As := [.int (nI c0), .int (nI y0)]) (rest := []) hF (c6_isTempted hI (sr S 13 (askF S N)) N hN hN5 c0 y0 (by omega) (by omega) ) (cwV 2 hts gX6_areSo_X6_isTempted rfl rfl rfl (by decide +kernel) ⟨Nat.le_of_ble_eq_true rfl, Nat.le_of_ble_eq_true rfl⟩) hK hP (by decide) rfl rfl rfl hl.1 rfl (Nat.le_of_ble_eq_true rfl) dX6_areSo_27 ⟨Nat.zero_le _, Nat.zero_le _⟩) hS hAd (fun r27 S27 H locs hw hP _ hS => ?_)
      obtain ⟨hw, eS27⟩ := hw
      rw [eS27] at hP
      by_cases q27 : mT (sr S 13 (askF S N)) N c0 y0 = true
      · have hw : r27 = 1 := hw.trans (if_pos q27)
        subst hw
        refine lv_aload_n hx hb dX6_areSo_30 rfl (lv_at hl 0 rfl) ?_
        refine x_get (v := .ref (bd 16)) hx hb hts hinX6 hown hK hP 0 (by decide) rfl rfl 25 (by decide) (hts _ (List.mem_of_getElem? (i := 4) rfl)) rfl dX6_areSo_31 ?_
        refine lv_iload_n hx hb dX6_areSo_34 rfl (lv_at hl 1 rfl) ?_
        refine x_zald (v := S 16 i) hx hb hK hP 16 1 (by decide) rfl rfl i rfl (by omega) (by decide) rfl dX6_areSo_35 ?_
        refine lv_icmp_eq (tgt := 41) hx hb dX6_areSo_36 (by decide) (fun c36 => ?_) (fun c36 => ?_)
        · refine lv_iinc (v := nI (i + 1)) (lv' := [(1, .int (nI (i + 1))), (0, .ref (bd 0))]) hx hb dX6_areSo_41 hl (k := 1) rfl (nI_1 _) (by decide) rfl (fun ls hl => ?_)
          refine lv_goto (tgt := 6) hx hb dX6_areSo_44 (by decide) ?_
          exact ih (i + 1) (by omega) (hv.trans (by have c36 : _ = (sr S 13 (askF S N)) 16 i := c36; rw [allL]; simp [en, em, q27, ← c36])) H locs ls hP hS (lv_sub hl [1, 0] rfl)
        · refine lv_iconst (v := 0) hx hb dX6_areSo_39 (by decide +kernel) ?_
          refine x_zret hx hb hr hlocks hP hS dX6_areSo_40 (Or.inl rfl) ?_
          have c36 : ¬ _ = (sr S 13 (askF S N)) 16 i := c36
          exact ⟨by rw [hv, allL]; simp [en, em, q27, c36], rfl⟩
      · have hw : r27 = 0 := hw.trans (if_neg q27)
        subst hw
        refine lv_aload_n hx hb dX6_areSo_30 rfl (lv_at hl 0 rfl) ?_
        refine x_get (v := .ref (bd 16)) hx hb hts hinX6 hown hK hP 0 (by decide) rfl rfl 25 (by decide) (hts _ (List.mem_of_getElem? (i := 4) rfl)) rfl dX6_areSo_31 ?_
        refine lv_iload_n hx hb dX6_areSo_34 rfl (lv_at hl 1 rfl) ?_
        refine x_zald (v := S 16 i) hx hb hK hP 16 1 (by decide) rfl rfl i rfl (by omega) (by decide) rfl dX6_areSo_35 ?_
        refine lv_icmp_eq (tgt := 41) hx hb dX6_areSo_36 (by decide) (fun c36 => ?_) (fun c36 => ?_)
        · refine lv_iinc (v := nI (i + 1)) (lv' := [(1, .int (nI (i + 1))), (0, .ref (bd 0))]) hx hb dX6_areSo_41 hl (k := 1) rfl (nI_1 _) (by decide) rfl (fun ls hl => ?_)
          refine lv_goto (tgt := 6) hx hb dX6_areSo_44 (by decide) ?_
          exact ih (i + 1) (by omega) (hv.trans (by have c36 : _ = (sr S 13 (askF S N)) 16 i := c36; rw [allL]; simp [en, em, q27, ← c36])) H locs ls hP hS (lv_sub hl [1, 0] rfl)
        · refine lv_iconst (v := 0) hx hb dX6_areSo_39 (by decide +kernel) ?_
          refine x_zret hx hb hr hlocks hP hS dX6_areSo_40 (Or.inl rfl) ?_
          have c36 : ¬ _ = (sr S 13 (askF S N)) 16 i := c36
          exact ⟨by rw [hv, allL]; simp [en, em, q27, c36], rfl⟩
  refine lv_aload_n hx hb dX6_areSo_0 rfl (lv_at hl 0 rfl) ?_
  refine x_callv (x_runV (As := []) (rest := []) hF (c6_askNow hI S N hN hN5 ) (cwV 0 hts gX6_areSo_X6_askNow rfl rfl rfl (by decide +kernel) ⟨Nat.le_of_ble_eq_true rfl, Nat.le_of_ble_eq_true rfl⟩) hK hP (by decide) rfl rfl rfl hl.1 rfl (Nat.le_of_ble_eq_true rfl) dX6_areSo_1 ⟨Nat.zero_le _, Nat.zero_le _⟩) hS hAd (fun S1 H locs hw hP _ hS => ?_)
  rw [hw] at hP
  refine lv_iconst (v := 0) hx hb dX6_areSo_4 (by decide +kernel) ?_
  refine lv_istore_n (lv' := [(1, .int 0), (0, .ref (bd 0))]) hx hb dX6_areSo_5 rfl hl (by decide) rfl (fun ls hl => ?_)
  exact L6 R 0 (Nat.zero_add R) rfl _ _ ls hP hS (lv_sub hl [1, 0] rfl)

end M2
