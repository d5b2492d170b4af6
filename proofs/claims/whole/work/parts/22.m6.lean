section M6
variable {l : Launch} {dC : Nat → ClassId} {dI : Nat → Nat → Nat} {cI cZ cS cG : ClassId} {ad bd : Nat → Nat}
set_option maxHeartbeats 4000000 in
set_option maxRecDepth 100000 in
theorem c6_odds_t (hI : xI 18 bd) (S : xSt) (N : Nat) (hN : S 0 7 = nI N) (hN5 : N ≤ 5) (C : Nat) (hC : S 0 5 = nI C) (hC4 : C ≤ 4) (hC0 : 0 < C) (Y : Nat) (hY : S 0 6 = nI Y) (hY6 : Y ≤ 6) (y0 : Nat) (hy0 : y0 < Y) (wn : Int32) (hwn : wit wn 0 1 = true) : xMl l yX6_odds wsX6_odds ({ frames := 5, cells := 0, slots := 0, locals := 114 }) (dC, dI) vwCl (tyl cI cZ cS cG) (mLy cI cZ bd) 18 bd [.ref (bd 0), .int (nI y0), .int wn] S (fun r S' => r = (if wn = 0 then lN ((oddM (fun i => decide (nI i &&& (mSent S N ^^^ (-1)) = 0)) (fun i => decide (¬ oBm S N C Y i = -9 ∧ ¬ nI y0 < oBm S N C Y i)) (2 ^ N) 0 0) / euc 64 (oddM (fun i => decide (nI i &&& (mSent S N ^^^ (-1)) = 0)) (fun i => decide (¬ oBm S N C Y i = -9 ∧ ¬ nI y0 < oBm S N C Y i)) (2 ^ N) 0 0) (pw (nN (mSent S N)))) else lN (pw (nN (mSent S N)) / euc 64 (oddM (fun i => decide (nI i &&& (mSent S N ^^^ (-1)) = 0)) (fun i => decide (¬ oBm S N C Y i = -9 ∧ ¬ nI y0 < oBm S N C Y i)) (2 ^ N) 0 0) (pw (nN (mSent S N))))) ∧ S' = oA S N) := by
  refine xM_of (cc := cX6_odds) (nL := 7) (ret := (some .long)) (by decide) rfl (Nat.le_of_ble_eq_true rfl) ?_
  intro p e s m below meth c ls B hl hK hP
  obtain ⟨hx, hb, hml, hown, hts, hr, hlocks⟩ := B
  have hl : lv_has ls 7 [(0, .ref (bd 0)), (1, .int (nI y0)), (2, .int wn)] := hl
  have hS : va_S (xA 18 bd) s.heap s.heap [] := va_S.rf
  have hAd : ∀ k, k < 18 → xA 18 bd (bd k) := xA_in
  have hinX6 : ∀ w ∈ wsX60, w ∈ wsX6_odds := fun _ h => List.mem_cons_of_mem _ (List.mem_append_right _ h)
  have hF : CallFix p m c cX6_odds 7 s _ wsX6_odds RX6 := ⟨hx, hb, hml, hown, hts⟩
  have h32 : 2 ^ N ≤ 2 ^ 5 := Nat.pow_le_pow_right (by decide) hN5
  obtain ⟨k0, hk0, ek0⟩ := mSent_ex S hN5
  have L176 : ∀ (n : Nat) (i : Nat) (h : Nat → Int32) (u : Nat) (hi : i + n = N) (hh : ∀ s, N ≤ s → h s = S 5 s) (hu : u ≤ 32) (hv : oddM (fun i => decide (nI i &&& (mSent S N ^^^ (-1)) = 0)) (fun i => decide (¬ oBm S N C Y i = -9 ∧ ¬ nI y0 < oBm S N C Y i)) (2 ^ N) 0 0 = u) (H : Heap) (locs : List Loc) (ls : Array Slot), va_P (dC, dI) vwCl (xW (mLy cI cZ bd) 18 bd (sr (oA S N) 5 (fil (S 5) h i))) H → va_S (xA 18 bd) s.heap H locs → lv_has ls 7 [(0, .ref (bd 0)), (1, .int (nI y0)), (2, .int wn), (3, .int (nI k0)), (4, .int (nI u)), (5, .int (nI i))] → W p l e ({ frames := 5, cells := 0, slots := 0, locals := 114 }) s m ([.ref (bd 0), .int (nI y0), .int wn] : List Value).toArray below meth c H locs 0 0 (MQ below (xQl (dC, dI) vwCl (mLy cI cZ bd) 18 bd (fun r S' => r = (if wn = 0 then lN ((oddM (fun i => decide (nI i &&& (mSent S N ^^^ (-1)) = 0)) (fun i => decide (¬ oBm S N C Y i = -9 ∧ ¬ nI y0 < oBm S N C Y i)) (2 ^ N) 0 0) / euc 64 (oddM (fun i => decide (nI i &&& (mSent S N ^^^ (-1)) = 0)) (fun i => decide (¬ oBm S N C Y i = -9 ∧ ¬ nI y0 < oBm S N C Y i)) (2 ^ N) 0 0) (pw (nN (mSent S N)))) else lN (pw (nN (mSent S N)) / euc 64 (oddM (fun i => decide (nI i &&& (mSent S N ^^^ (-1)) = 0)) (fun i => decide (¬ oBm S N C Y i = -9 ∧ ¬ nI y0 < oBm S N C Y i)) (2 ^ N) 0 0) (pw (nN (mSent S N))))) ∧ S' = oA S N)) ([.ref (bd 0), .int (nI y0), .int wn] : List Value).toArray s 0 0 (xA 18 bd)) (F0 m 176 ls []) := by
    intro n
    induction n with
    | zero =>
      intro i h u hi hh hu hv H locs ls hP hS hl
      refine lv_iload hx hb dX6_odds_176 (lv_at hl 5 rfl) ?_
      refine lv_aload_n hx hb dX6_odds_178 rfl (lv_at hl 0 rfl) ?_
      refine x_get (v := .int (nI N)) hx hb hts hinX6 hown hK hP 0 (by decide) rfl rfl 7 (by decide) (hts _ (List.mem_of_getElem? (i := 3) rfl)) (congrArg (fun z => some (Value.int z)) hN) dX6_odds_179 ?_
      refine lv_icmp_ge (tgt := 205) hx hb dX6_odds_182 (by decide) (fun _ => ?_) (fun hc => absurd (nI_le (by omega) (by omega)) hc)
      obtain rfl : i = N := by omega
      rw [fil_self hh, sr_same' (show S 5 = (oA S i) 5 from rfl)] at hP
      refine lv_iload hx hb dX6_odds_205 (lv_at hl 4 rfl) ?_
      refine lv_i2l hx hb dX6_odds_207 rfl ?_
      rw [nI_l (show u < 2 ^ 31 by omega)]
      refine lv_lconst (v := 1) hx hb dX6_odds_208 (by decide +kernel) ?_
      refine lv_iload_n hx hb dX6_odds_209 rfl (lv_at hl 3 rfl) ?_
      refine x_calli (x_runS (As := [.int (nI k0)]) (rest := [.long 1, .long (lN u)]) hF (c6_size hI (oA S i) k0 (by omega)) (va_cwS 1 hts gX6_odds_X6_size rfl rfl rfl (by decide +kernel) ⟨Nat.le_of_ble_eq_true rfl, Nat.le_of_ble_eq_true rfl⟩) hK hP rfl hl.1 rfl (Nat.le_of_ble_eq_true rfl) dX6_odds_210 ⟨Nat.zero_le _, Nat.zero_le _⟩) hS hAd (fun r210 S210 H locs hw hP _ hS => ?_)
      obtain ⟨er210, eS210⟩ := hw
      rw [eS210] at hP
      subst er210
      refine lv_lshl (v := lN (pw k0)) hx hb dX6_odds_213 (pw_ok k0 (by omega)).1 ?_
      refine lv_iload_n hx hb dX6_odds_214 rfl (lv_at hl 2 rfl) ?_
      refine x_calll (x_runS (As := [.long (lN u), .long (lN (pw k0)), .int wn]) (rest := []) hF (c6_inLeastTerms hI (oA S i) u (pw k0) wn hu (pw_ok k0 (by omega)).2.2 (pw_ok k0 (by omega)).2.1) (va_cwS 3 hts gX6_odds_X6_inLeastTerms rfl rfl rfl (by decide +kernel) ⟨Nat.le_of_ble_eq_true rfl, Nat.le_of_ble_eq_true rfl⟩) hK hP rfl hl.1 rfl (Nat.le_of_ble_eq_true rfl) dX6_odds_215 ⟨Nat.zero_le _, Nat.zero_le _⟩) hS hAd (fun r215 S215 H locs hw hP _ hS => ?_)
      obtain ⟨er215, eS215⟩ := hw
      rw [eS215] at hP
      refine x_lret hx hb hr hlocks hP hS dX6_odds_218 ?_
      subst er215
      exact ⟨by rw [ek0, nN_nI (show k0 < 2 ^ 31 by omega)] at *; rw [hv], rfl⟩
    | succ n ih =>
      intro i h u hi hh hu hv H locs ls hP hS hl
      refine lv_iload hx hb dX6_odds_176 (lv_at hl 5 rfl) ?_
      refine lv_aload_n hx hb dX6_odds_178 rfl (lv_at hl 0 rfl) ?_
      refine x_get (v := .int (nI N)) hx hb hts hinX6 hown hK hP 0 (by decide) rfl rfl 7 (by decide) (hts _ (List.mem_of_getElem? (i := 3) rfl)) (congrArg (fun z => some (Value.int z)) hN) dX6_odds_179 ?_
      refine lv_icmp_ge (tgt := 205) hx hb dX6_odds_182 (by decide) (fun hc => absurd hc (nI_ge (by omega) (by omega))) (fun _ => ?_)
      refine lv_aload_n hx hb dX6_odds_185 rfl (lv_at hl 0 rfl) ?_
      refine x_get (v := .ref (bd 5)) hx hb hts hinX6 hown hK hP 0 (by decide) rfl rfl 9 (by decide) (hts _ (List.mem_of_getElem? (i := 5) rfl)) rfl dX6_odds_186 ?_
      refine lv_iload hx hb dX6_odds_189 (lv_at hl 5 rfl) ?_
      refine lv_aload_n hx hb dX6_odds_191 rfl (lv_at hl 0 rfl) ?_
      refine x_get (v := .ref (bd 17)) hx hb hts hinX6 hown hK hP 0 (by decide) rfl rfl 26 (by decide) (hts _ (List.mem_of_getElem? (i := 4) rfl)) rfl dX6_odds_192 ?_
      refine lv_iload hx hb dX6_odds_195 (lv_at hl 5 rfl) ?_
      refine x_iald (v := S 5 i) hx hb hK hP 17 0 (by decide) rfl rfl i rfl (by omega) (by decide) (fil_in (f := S 17) (by omega)) dX6_odds_197 ?_
      refine x_iast hx hb hK hI hAd hP hS 5 0 (by decide) (fun _ => rfl) rfl i rfl (by omega) (by decide) dX6_odds_198 (fun H locs hP hS => ?_)
      refine lv_iinc (v := nI (i + 1)) (lv' := [(5, .int (nI (i + 1))), (0, .ref (bd 0)), (1, .int (nI y0)), (2, .int wn), (3, .int (nI k0)), (4, .int (nI u))]) hx hb dX6_odds_199 hl (k := 5) rfl (nI_1 _) (by decide) rfl (fun ls hl => ?_)
      refine lv_goto (tgt := 176) hx hb dX6_odds_202 (by decide) ?_
      have eST : (su (sr (oA S N) 5 (fil (S 5) h i)) 5 i (S 5 i)) = (sr (oA S N) 5 (fil (S 5) h (i + 1))) := su_fil rfl
      rw [eST] at hP
      exact ih (i + 1) h u (by omega) hh hu hv H locs ls hP hS (lv_sub hl [1, 2, 3, 4, 5, 0] rfl)
  have L94 : ∀ (n : Nat) (z : Nat) (h : Nat → Int32) (u : Nat) (i : Nat) (hi : z + n = N) (kt : ∀ (H : Heap) (locs : List Loc) (ls : Array Slot), va_P (dC, dI) vwCl (xW (mLy cI cZ bd) 18 bd (sr (oA S N) 5 (fil (kpg (nI i) (S 5)) h N))) H → va_S (xA 18 bd) s.heap H locs → lv_has ls 7 [(0, .ref (bd 0)), (1, .int (nI y0)), (2, .int wn), (3, .int (nI k0)), (4, .int (nI u)), (5, .int (nI i)), (6, .int (nI N))] → W p l e ({ frames := 5, cells := 0, slots := 0, locals := 114 }) s m ([.ref (bd 0), .int (nI y0), .int wn] : List Value).toArray below meth c H locs 0 0 (MQ below (xQl (dC, dI) vwCl (mLy cI cZ bd) 18 bd (fun r S' => r = (if wn = 0 then lN ((oddM (fun i => decide (nI i &&& (mSent S N ^^^ (-1)) = 0)) (fun i => decide (¬ oBm S N C Y i = -9 ∧ ¬ nI y0 < oBm S N C Y i)) (2 ^ N) 0 0) / euc 64 (oddM (fun i => decide (nI i &&& (mSent S N ^^^ (-1)) = 0)) (fun i => decide (¬ oBm S N C Y i = -9 ∧ ¬ nI y0 < oBm S N C Y i)) (2 ^ N) 0 0) (pw (nN (mSent S N)))) else lN (pw (nN (mSent S N)) / euc 64 (oddM (fun i => decide (nI i &&& (mSent S N ^^^ (-1)) = 0)) (fun i => decide (¬ oBm S N C Y i = -9 ∧ ¬ nI y0 < oBm S N C Y i)) (2 ^ N) 0 0) (pw (nN (mSent S N))))) ∧ S' = oA S N)) ([.ref (bd 0), .int (nI y0), .int wn] : List Value).toArray s 0 0 (xA 18 bd)) (F0 m 138 ls [])) (H : Heap) (locs : List Loc) (ls : Array Slot), va_P (dC, dI) vwCl (xW (mLy cI cZ bd) 18 bd (sr (oA S N) 5 (fil (kpg (nI i) (S 5)) h z))) H → va_S (xA 18 bd) s.heap H locs → lv_has ls 7 [(0, .ref (bd 0)), (1, .int (nI y0)), (2, .int wn), (3, .int (nI k0)), (4, .int (nI u)), (5, .int (nI i)), (6, .int (nI z))] → W p l e ({ frames := 5, cells := 0, slots := 0, locals := 114 }) s m ([.ref (bd 0), .int (nI y0), .int wn] : List Value).toArray below meth c H locs 0 0 (MQ below (xQl (dC, dI) vwCl (mLy cI cZ bd) 18 bd (fun r S' => r = (if wn = 0 then lN ((oddM (fun i => decide (nI i &&& (mSent S N ^^^ (-1)) = 0)) (fun i => decide (¬ oBm S N C Y i = -9 ∧ ¬ nI y0 < oBm S N C Y i)) (2 ^ N) 0 0) / euc 64 (oddM (fun i => decide (nI i &&& (mSent S N ^^^ (-1)) = 0)) (fun i => decide (¬ oBm S N C Y i = -9 ∧ ¬ nI y0 < oBm S N C Y i)) (2 ^ N) 0 0) (pw (nN (mSent S N)))) else lN (pw (nN (mSent S N)) / euc 64 (oddM (fun i => decide (nI i &&& (mSent S N ^^^ (-1)) = 0)) (fun i => decide (¬ oBm S N C Y i = -9 ∧ ¬ nI y0 < oBm S N C Y i)) (2 ^ N) 0 0) (pw (nN (mSent S N))))) ∧ S' = oA S N)) ([.ref (bd 0), .int (nI y0), .int wn] : List Value).toArray s 0 0 (xA 18 bd)) (F0 m 94 ls []) := by
    intro n
    induction n with
    | zero =>
      intro z h u i hi kt H locs ls hP hS hl
      refine lv_iload hx hb dX6_odds_94 (lv_at hl 6 rfl) ?_
      refine lv_aload_n hx hb dX6_odds_96 rfl (lv_at hl 0 rfl) ?_
      refine x_get (v := .int (nI N)) hx hb hts hinX6 hown hK hP 0 (by decide) rfl rfl 7 (by decide) (hts _ (List.mem_of_getElem? (i := 3) rfl)) (congrArg (fun z => some (Value.int z)) hN) dX6_odds_97 ?_
      refine lv_icmp_ge (tgt := 138) hx hb dX6_odds_100 (by decide) (fun _ => ?_) (fun hc => absurd (nI_le (by omega) (by omega)) hc)
      obtain rfl : z = N := by omega
      exact kt H locs ls hP hS (lv_sub hl [0, 1, 2, 3, 4, 5, 6] rfl)
    | succ n ih =>
      intro z h u i hi kt H locs ls hP hS hl
      refine lv_iload hx hb dX6_odds_94 (lv_at hl 6 rfl) ?_
      refine lv_aload_n hx hb dX6_odds_96 rfl (lv_at hl 0 rfl) ?_
      refine x_get (v := .int (nI N)) hx hb hts hinX6 hown hK hP 0 (by decide) rfl rfl 7 (by decide) (hts _ (List.mem_of_getElem? (i := 3) rfl)) (congrArg (fun z => some (Value.int z)) hN) dX6_odds_97 ?_
      refine lv_icmp_ge (tgt := 138) hx hb dX6_odds_100 (by decide) (fun hc => absurd hc (nI_ge (by omega) (by omega))) (fun _ => ?_)
      refine lv_aload_n hx hb dX6_odds_103 rfl (lv_at hl 0 rfl) ?_
      refine x_get (v := .ref (bd 5)) hx hb hts hinX6 hown hK hP 0 (by decide) rfl rfl 9 (by decide) (hts _ (List.mem_of_getElem? (i := 5) rfl)) rfl dX6_odds_104 ?_
      refine lv_iload hx hb dX6_odds_107 (lv_at hl 6 rfl) ?_
      refine lv_iload hx hb dX6_odds_109 (lv_at hl 5 rfl) ?_
      refine lv_iload hx hb dX6_odds_111 (lv_at hl 6 rfl) ?_
      refine lv_ishr hx hb dX6_odds_113 ?_
      refine lv_iconst (v := 1) hx hb dX6_odds_114 (by decide +kernel) ?_
      refine lv_iand hx hb dX6_odds_115 ?_
      refine lv_iconst (v := 1) hx hb dX6_odds_116 (by decide +kernel) ?_
      refine lv_icmp_ne (tgt := 124) hx hb dX6_odds_117 (by decide) (fun c117 => ?_) (fun c117 => ?_)
      · refine lv_aload_n hx hb dX6_odds_124 rfl (lv_at hl 0 rfl) ?_
        refine x_get (v := .ref (bd 17)) hx hb hts hinX6 hown hK hP 0 (by decide) rfl rfl 26 (by decide) (hts _ (List.mem_of_getElem? (i := 4) rfl)) rfl dX6_odds_125 ?_
        refine lv_iload hx hb dX6_odds_128 (lv_at hl 6 rfl) ?_
        refine x_iald (v := S 5 z) hx hb hK hP 17 0 (by decide) rfl rfl z rfl (by omega) (by decide) (fil_in (f := S 17) (by omega)) dX6_odds_130 ?_
        refine x_iast hx hb hK hI hAd hP hS 5 0 (by decide) (fun _ => rfl) rfl z rfl (by omega) (by decide) dX6_odds_131 (fun H locs hP hS => ?_)
        refine lv_iinc (v := nI (z + 1)) (lv' := [(6, .int (nI (z + 1))), (0, .ref (bd 0)), (1, .int (nI y0)), (2, .int wn), (3, .int (nI k0)), (4, .int (nI u)), (5, .int (nI i))]) hx hb dX6_odds_132 hl (k := 6) rfl (nI_1 _) (by decide) rfl (fun ls hl => ?_)
        refine lv_goto (tgt := 94) hx hb dX6_odds_135 (by decide) ?_
        have eST : (su (sr (oA S N) 5 (fil (kpg (nI i) (S 5)) h z)) 5 z (S 5 z)) = (sr (oA S N) 5 (fil (kpg (nI i) (S 5)) h (z + 1))) := su_fil (by simp [kpg, c117])
        rw [eST] at hP
        exact ih (z + 1) h u i (by omega) kt H locs ls hP hS (lv_sub hl [1, 2, 3, 4, 5, 6, 0] rfl)
      · refine lv_iconst (v := 2) hx hb dX6_odds_120 (by decide +kernel) ?_
        refine lv_goto (tgt := 131) hx hb dX6_odds_121 (by decide) ?_
        refine x_iast hx hb hK hI hAd hP hS 5 0 (by decide) (fun _ => rfl) rfl z rfl (by omega) (by decide) dX6_odds_131 (fun H locs hP hS => ?_)
        refine lv_iinc (v := nI (z + 1)) (lv' := [(6, .int (nI (z + 1))), (0, .ref (bd 0)), (1, .int (nI y0)), (2, .int wn), (3, .int (nI k0)), (4, .int (nI u)), (5, .int (nI i))]) hx hb dX6_odds_132 hl (k := 6) rfl (nI_1 _) (by decide) rfl (fun ls hl => ?_)
        refine lv_goto (tgt := 94) hx hb dX6_odds_135 (by decide) ?_
        have eST : (su (sr (oA S N) 5 (fil (kpg (nI i) (S 5)) h z)) 5 z 2) = (sr (oA S N) 5 (fil (kpg (nI i) (S 5)) h (z + 1))) := su_fil (by simp [kpg, c117])
        rw [eST] at hP
        exact ih (z + 1) h u i (by omega) kt H locs ls hP hS (lv_sub hl [1, 2, 3, 4, 5, 6, 0] rfl)
  have L71 : ∀ (n : Nat) (i : Nat) (h : Nat → Int32) (u : Nat) (hi : i + n = 2 ^ N) (hh : ∀ s, N ≤ s → h s = S 5 s) (hu : u ≤ i) (hv : oddM (fun i => decide (nI i &&& (mSent S N ^^^ (-1)) = 0)) (fun i => decide (¬ oBm S N C Y i = -9 ∧ ¬ nI y0 < oBm S N C Y i)) (2 ^ N) 0 0 = oddM (fun i => decide (nI i &&& (mSent S N ^^^ (-1)) = 0)) (fun i => decide (¬ oBm S N C Y i = -9 ∧ ¬ nI y0 < oBm S N C Y i)) n i u) (H : Heap) (locs : List Loc) (ls : Array Slot), va_P (dC, dI) vwCl (xW (mLy cI cZ bd) 18 bd (sr (oA S N) 5 h)) H → va_S (xA 18 bd) s.heap H locs → lv_has ls 7 [(0, .ref (bd 0)), (1, .int (nI y0)), (2, .int wn), (3, .int (nI k0)), (4, .int (nI u)), (5, .int (nI i))] → W p l e ({ frames := 5, cells := 0, slots := 0, locals := 114 }) s m ([.ref (bd 0), .int (nI y0), .int wn] : List Value).toArray below meth c H locs 0 0 (MQ below (xQl (dC, dI) vwCl (mLy cI cZ bd) 18 bd (fun r S' => r = (if wn = 0 then lN ((oddM (fun i => decide (nI i &&& (mSent S N ^^^ (-1)) = 0)) (fun i => decide (¬ oBm S N C Y i = -9 ∧ ¬ nI y0 < oBm S N C Y i)) (2 ^ N) 0 0) / euc 64 (oddM (fun i => decide (nI i &&& (mSent S N ^^^ (-1)) = 0)) (fun i => decide (¬ oBm S N C Y i = -9 ∧ ¬ nI y0 < oBm S N C Y i)) (2 ^ N) 0 0) (pw (nN (mSent S N)))) else lN (pw (nN (mSent S N)) / euc 64 (oddM (fun i => decide (nI i &&& (mSent S N ^^^ (-1)) = 0)) (fun i => decide (¬ oBm S N C Y i = -9 ∧ ¬ nI y0 < oBm S N C Y i)) (2 ^ N) 0 0) (pw (nN (mSent S N))))) ∧ S' = oA S N)) ([.ref (bd 0), .int (nI y0), .int wn] : List Value).toArray s 0 0 (xA 18 bd)) (F0 m 71 ls []) := by
    intro n
    induction n with
    | zero =>
      intro i h u hi hh hu hv H locs ls hP hS hl
      have hu : u ≤ 32 := by omega
      refine lv_iload hx hb dX6_odds_71 (lv_at hl 5 rfl) ?_
      refine lv_iconst (v := 1) hx hb dX6_odds_73 (by decide +kernel) ?_
      refine lv_aload_n hx hb dX6_odds_74 rfl (lv_at hl 0 rfl) ?_
      refine x_get (v := .int (nI N)) hx hb hts hinX6 hown hK hP 0 (by decide) rfl rfl 7 (by decide) (hts _ (List.mem_of_getElem? (i := 3) rfl)) (congrArg (fun z => some (Value.int z)) hN) dX6_odds_75 ?_
      refine lv_ishl hx hb dX6_odds_78 ?_
      rw [shl1 N (by omega)]
      refine lv_icmp_ge (tgt := 173) hx hb dX6_odds_79 (by decide) (fun _ => ?_) (fun hc => absurd (nI_le (by omega) (by omega)) hc)
      refine lv_iconst (v := 0) hx hb dX6_odds_173 (by decide +kernel) ?_
      refine lv_istore (lv' := [(5, .int 0), (0, .ref (bd 0)), (1, .int (nI y0)), (2, .int wn), (3, .int (nI k0)), (4, .int (nI u))]) hx hb dX6_odds_174 hl (by decide) rfl (fun ls hl => ?_)
      have hP : va_P (dC, dI) vwCl (xW (mLy cI cZ bd) 18 bd (sr (oA S N) 5 (fil (S 5) h 0))) H := by rw [fil_0]; exact hP
      exact L176 N 0 h u (Nat.zero_add _) hh hu hv _ _ ls hP hS (lv_sub hl [1, 2, 3, 4, 5, 0] rfl)
    | succ n ih =>
      intro i h u hi hh hu hv H locs ls hP hS hl
      refine lv_iload hx hb dX6_odds_71 (lv_at hl 5 rfl) ?_
      refine lv_iconst (v := 1) hx hb dX6_odds_73 (by decide +kernel) ?_
      refine lv_aload_n hx hb dX6_odds_74 rfl (lv_at hl 0 rfl) ?_
      refine x_get (v := .int (nI N)) hx hb hts hinX6 hown hK hP 0 (by decide) rfl rfl 7 (by decide) (hts _ (List.mem_of_getElem? (i := 3) rfl)) (congrArg (fun z => some (Value.int z)) hN) dX6_odds_75 ?_
      refine lv_ishl hx hb dX6_odds_78 ?_
      rw [shl1 N (by omega)]
      refine lv_icmp_ge (tgt := 173) hx hb dX6_odds_79 (by decide) (fun hc => absurd hc (nI_ge (by omega) (by omega))) (fun _ => ?_)
      refine lv_iload hx hb dX6_odds_82 (lv_at hl 5 rfl) ?_
      refine lv_iload_n hx hb dX6_odds_84 rfl (lv_at hl 3 rfl) ?_
      refine lv_iconst (v := (-1)) hx hb dX6_odds_85 (by decide +kernel) ?_
      refine lv_ixor hx hb dX6_odds_86 ?_
      refine lv_iand hx hb dX6_odds_87 ?_
      refine lv_if_ne (tgt := 167) hx hb dX6_odds_88 (by decide) (fun c88 => ?_) (fun c88 => ?_)
      · refine lv_iinc (v := nI (i + 1)) (lv' := [(5, .int (nI (i + 1))), (0, .ref (bd 0)), (1, .int (nI y0)), (2, .int wn), (3, .int (nI k0)), (4, .int (nI u))]) hx hb dX6_odds_167 hl (k := 5) rfl (nI_1 _) (by decide) rfl (fun ls hl => ?_)
        refine lv_goto (tgt := 71) hx hb dX6_odds_170 (by decide) ?_
        exact ih (i + 1) h u (by omega) hh (by omega) (hv.trans (by rw [oddM, if_neg (fun hz => c88 (by rw [← ek0]; exact of_decide_eq_true hz))])) H locs ls hP hS (lv_sub hl [1, 2, 3, 4, 5, 0] rfl)
      · refine lv_iconst (v := 0) hx hb dX6_odds_91 (by decide +kernel) ?_
        refine lv_istore (lv' := [(6, .int 0), (0, .ref (bd 0)), (1, .int (nI y0)), (2, .int wn), (3, .int (nI k0)), (4, .int (nI u)), (5, .int (nI i))]) hx hb dX6_odds_92 hl (by decide) rfl (fun ls hl => ?_)
        have hP : va_P (dC, dI) vwCl (xW (mLy cI cZ bd) 18 bd (sr (oA S N) 5 (fil (kpg (nI i) (S 5)) h 0))) H := by rw [fil_0]; exact hP
        refine L94 N 0 h u i (Nat.zero_add _) ?_ _ _ ls hP hS (lv_sub hl [1, 2, 3, 4, 5, 6, 0] rfl)
        intro H locs ls hP hS hl
        rw [fil_eq hh] at hP
        have hP : va_P (dC, dI) vwCl (xW (mLy cI cZ bd) 18 bd (sr (oA S N) 5 (oK S N i))) H := hP
        refine lv_aload_n hx hb dX6_odds_138 rfl (lv_at hl 0 rfl) ?_
        refine x_calli (x_runV (As := []) (rest := []) hF (c6_breakYear hI (sr (oA S N) 5 (oK S N i)) N hN hN5 C hC hC4 Y hY hY6) (cwV 0 hts gX6_odds_X6_breakYear rfl rfl rfl (by decide +kernel) ⟨Nat.le_of_ble_eq_true rfl, Nat.le_of_ble_eq_true rfl⟩) hK hP (by decide) rfl rfl rfl hl.1 rfl (Nat.le_of_ble_eq_true rfl) dX6_odds_139 ⟨Nat.zero_le _, Nat.zero_le _⟩) hS hAd (fun r139 S139 H locs hw hP _ hS => ?_)
        obtain ⟨er139, eS139⟩ := hw
        rw [eS139] at hP
        refine lv_istore (lv' := [(6, .int r139), (0, .ref (bd 0)), (1, .int (nI y0)), (2, .int wn), (3, .int (nI k0)), (4, .int (nI u)), (5, .int (nI i))]) hx hb dX6_odds_142 hl (by decide) rfl (fun ls hl => ?_)
        refine lv_iload hx hb dX6_odds_144 (lv_at hl 5 rfl) ?_
        refine lv_iload hx hb dX6_odds_146 (lv_at hl 0 rfl) ?_
        refine lv_bipush (v := (-9)) hx hb dX6_odds_148 (by decide +kernel) ?_
        refine lv_icmp_eq (tgt := 163) hx hb dX6_odds_150 (by decide) (fun c150 => ?_) (fun c150 => ?_)
        · refine lv_iconst (v := 0) hx hb dX6_odds_163 (by decide +kernel) ?_
          refine lv_iadd hx hb dX6_odds_164 ?_
          refine lv_topi (fun x165 ex165 => ?_)
          obtain rfl : x165 = nI (u) := by rw [ex165]; exact Int32.add_zero _
          refine lv_istore (lv' := [(4, .int (nI u)), (6, .int r139), (0, .ref (bd 0)), (1, .int (nI y0)), (2, .int wn), (3, .int (nI k0)), (5, .int (nI i))]) hx hb dX6_odds_165 hl (by decide) rfl (fun ls hl => ?_)
          refine lv_iinc (v := nI (i + 1)) (lv' := [(5, .int (nI (i + 1))), (4, .int (nI u)), (6, .int r139), (0, .ref (bd 0)), (1, .int (nI y0)), (2, .int wn), (3, .int (nI k0))]) hx hb dX6_odds_167 hl (k := 6) rfl (nI_1 _) (by decide) rfl (fun ls hl => ?_)
          refine lv_goto (tgt := 71) hx hb dX6_odds_170 (by decide) ?_
          exact ih (i + 1) (oK S N i) (u) (by omega) (fun s hs => fil_out hs) (by omega) (hv.trans (by rw [oddM, if_pos (decide_eq_true (by rw [ek0]; exact c88))]; subst er139; first | (simp [oBm, c88, c150]; done) | grind [oBm])) H locs ls hP hS (lv_sub hl [3, 4, 5, 6, 1, 0] rfl)
        · refine lv_iload hx hb dX6_odds_153 (lv_at hl 0 rfl) ?_
          refine lv_iload_n hx hb dX6_odds_155 rfl (lv_at hl 2 rfl) ?_
          refine lv_icmp_gt (tgt := 163) hx hb dX6_odds_156 (by decide) (fun c156 => ?_) (fun c156 => ?_)
          · have d156 := Int32.not_le.mpr c156
            refine lv_iconst (v := 0) hx hb dX6_odds_163 (by decide +kernel) ?_
            refine lv_iadd hx hb dX6_odds_164 ?_
            refine lv_topi (fun x165 ex165 => ?_)
            obtain rfl : x165 = nI (u) := by rw [ex165]; exact Int32.add_zero _
            refine lv_istore (lv' := [(4, .int (nI u)), (6, .int r139), (0, .ref (bd 0)), (1, .int (nI y0)), (2, .int wn), (3, .int (nI k0)), (5, .int (nI i))]) hx hb dX6_odds_165 hl (by decide) rfl (fun ls hl => ?_)
            refine lv_iinc (v := nI (i + 1)) (lv' := [(5, .int (nI (i + 1))), (4, .int (nI u)), (6, .int r139), (0, .ref (bd 0)), (1, .int (nI y0)), (2, .int wn), (3, .int (nI k0))]) hx hb dX6_odds_167 hl (k := 6) rfl (nI_1 _) (by decide) rfl (fun ls hl => ?_)
            refine lv_goto (tgt := 71) hx hb dX6_odds_170 (by decide) ?_
            exact ih (i + 1) (oK S N i) (u) (by omega) (fun s hs => fil_out hs) (by omega) (hv.trans (by rw [oddM, if_pos (decide_eq_true (by rw [ek0]; exact c88))]; subst er139; first | (simp [oBm, c88, c150, c156, d156]; done) | grind [oBm])) H locs ls hP hS (lv_sub hl [3, 4, 5, 6, 1, 0] rfl)
          · have d156 := Int32.not_lt.mp c156
            refine lv_iconst (v := 1) hx hb dX6_odds_159 (by decide +kernel) ?_
            refine lv_goto (tgt := 164) hx hb dX6_odds_160 (by decide) ?_
            refine lv_iadd hx hb dX6_odds_164 ?_
            refine lv_topi (fun x165 ex165 => ?_)
            obtain rfl : x165 = nI (u + 1) := by rw [ex165]; exact nI_1 u
            refine lv_istore (lv' := [(4, .int (nI (u + 1))), (6, .int r139), (0, .ref (bd 0)), (1, .int (nI y0)), (2, .int wn), (3, .int (nI k0)), (5, .int (nI i))]) hx hb dX6_odds_165 hl (by decide) rfl (fun ls hl => ?_)
            refine lv_iinc (v := nI (i + 1)) (lv' := [(5, .int (nI (i + 1))), (4, .int (nI (u + 1))), (6, .int r139), (0, .ref (bd 0)), (1, .int (nI y0)), (2, .int wn), (3, .int (nI k0))]) hx hb dX6_odds_167 hl (k := 6) rfl (nI_1 _) (by decide) rfl (fun ls hl => ?_)
            refine lv_goto (tgt := 71) hx hb dX6_odds_170 (by decide) ?_
            exact ih (i + 1) (oK S N i) (u + 1) (by omega) (fun s hs => fil_out hs) (by omega) (hv.trans (by rw [oddM, if_pos (decide_eq_true (by rw [ek0]; exact c88))]; subst er139; first | (simp [oBm, c88, c150, c156, d156]; done) | grind [oBm])) H locs ls hP hS (lv_sub hl [3, 4, 5, 6, 1, 0] rfl)
  have L34 : ∀ (n : Nat) (i : Nat) (hi : i + n = N) (H : Heap) (locs : List Loc) (ls : Array Slot), va_P (dC, dI) vwCl (xW (mLy cI cZ bd) 18 bd (sr (sr S 13 (askF S N)) 17 (fil (S 5) (S 17) i))) H → va_S (xA 18 bd) s.heap H locs → lv_has ls 7 [(0, .ref (bd 0)), (1, .int (nI y0)), (2, .int wn), (3, .int (nI i))] → W p l e ({ frames := 5, cells := 0, slots := 0, locals := 114 }) s m ([.ref (bd 0), .int (nI y0), .int wn] : List Value).toArray below meth c H locs 0 0 (MQ below (xQl (dC, dI) vwCl (mLy cI cZ bd) 18 bd (fun r S' => r = (if wn = 0 then lN ((oddM (fun i => decide (nI i &&& (mSent S N ^^^ (-1)) = 0)) (fun i => decide (¬ oBm S N C Y i = -9 ∧ ¬ nI y0 < oBm S N C Y i)) (2 ^ N) 0 0) / euc 64 (oddM (fun i => decide (nI i &&& (mSent S N ^^^ (-1)) = 0)) (fun i => decide (¬ oBm S N C Y i = -9 ∧ ¬ nI y0 < oBm S N C Y i)) (2 ^ N) 0 0) (pw (nN (mSent S N)))) else lN (pw (nN (mSent S N)) / euc 64 (oddM (fun i => decide (nI i &&& (mSent S N ^^^ (-1)) = 0)) (fun i => decide (¬ oBm S N C Y i = -9 ∧ ¬ nI y0 < oBm S N C Y i)) (2 ^ N) 0 0) (pw (nN (mSent S N))))) ∧ S' = oA S N)) ([.ref (bd 0), .int (nI y0), .int wn] : List Value).toArray s 0 0 (xA 18 bd)) (F0 m 34 ls []) := by
    intro n
    induction n with
    | zero =>
      intro i hi H locs ls hP hS hl
      refine lv_iload_n hx hb dX6_odds_34 rfl (lv_at hl 3 rfl) ?_
      refine lv_aload_n hx hb dX6_odds_35 rfl (lv_at hl 0 rfl) ?_
      refine x_get (v := .int (nI N)) hx hb hts hinX6 hown hK hP 0 (by decide) rfl rfl 7 (by decide) (hts _ (List.mem_of_getElem? (i := 3) rfl)) (congrArg (fun z => some (Value.int z)) hN) dX6_odds_36 ?_
      refine lv_icmp_ge (tgt := 60) hx hb dX6_odds_39 (by decide) (fun _ => ?_) (fun hc => absurd (nI_le (by omega) (by omega)) hc)
      have hP : va_P (dC, dI) vwCl (xW (mLy cI cZ bd) 18 bd (oA S N)) H := by rw [show i = N by omega] at hP; exact hP
      refine lv_aload_n hx hb dX6_odds_60 rfl (lv_at hl 0 rfl) ?_
      refine x_calli (x_runV (As := []) (rest := []) hF (c6_sentSet hI (oA S N) N hN hN5 ) (cwV 0 hts gX6_odds_X6_sentSet rfl rfl rfl (by decide +kernel) ⟨Nat.le_of_ble_eq_true rfl, Nat.le_of_ble_eq_true rfl⟩) hK hP (by decide) rfl rfl rfl hl.1 rfl (Nat.le_of_ble_eq_true rfl) dX6_odds_61 ⟨Nat.zero_le _, Nat.zero_le _⟩) hS hAd (fun r61 S61 H locs hw hP _ hS => ?_)
      obtain ⟨er61, eS61⟩ := hw
      rw [eS61] at hP
      have er61 : r61 = nI k0 := er61.trans ek0
      subst er61
      refine lv_istore_n (lv' := [(3, .int (nI k0)), (0, .ref (bd 0)), (1, .int (nI y0)), (2, .int wn)]) hx hb dX6_odds_64 rfl hl (by decide) rfl (fun ls hl => ?_)
      refine lv_iconst (v := 0) hx hb dX6_odds_65 (by decide +kernel) ?_
      refine lv_istore (lv' := [(4, .int 0), (3, .int (nI k0)), (0, .ref (bd 0)), (1, .int (nI y0)), (2, .int wn)]) hx hb dX6_odds_66 hl (by decide) rfl (fun ls hl => ?_)
      refine lv_iconst (v := 0) hx hb dX6_odds_68 (by decide +kernel) ?_
      refine lv_istore (lv' := [(5, .int 0), (4, .int 0), (3, .int (nI k0)), (0, .ref (bd 0)), (1, .int (nI y0)), (2, .int wn)]) hx hb dX6_odds_69 hl (by decide) rfl (fun ls hl => ?_)
      have hP : va_P (dC, dI) vwCl (xW (mLy cI cZ bd) 18 bd (sr (oA S N) 5 (S 5))) H := by rw [sr_same' (show S 5 = (oA S N) 5 from rfl)]; exact hP
      exact L71 (2 ^ N) 0 (S 5) 0 (Nat.zero_add _) (fun _ _ => rfl) (Nat.le_refl _) rfl _ _ ls hP hS (lv_sub hl [3, 4, 5, 2, 1, 0] rfl)
    | succ n ih =>
      intro i hi H locs ls hP hS hl
      refine lv_iload_n hx hb dX6_odds_34 rfl (lv_at hl 3 rfl) ?_
      refine lv_aload_n hx hb dX6_odds_35 rfl (lv_at hl 0 rfl) ?_
      refine x_get (v := .int (nI N)) hx hb hts hinX6 hown hK hP 0 (by decide) rfl rfl 7 (by decide) (hts _ (List.mem_of_getElem? (i := 3) rfl)) (congrArg (fun z => some (Value.int z)) hN) dX6_odds_36 ?_
      refine lv_icmp_ge (tgt := 60) hx hb dX6_odds_39 (by decide) (fun hc => absurd hc (nI_ge (by omega) (by omega))) (fun _ => ?_)
      refine lv_aload_n hx hb dX6_odds_42 rfl (lv_at hl 0 rfl) ?_
      refine x_get (v := .ref (bd 17)) hx hb hts hinX6 hown hK hP 0 (by decide) rfl rfl 26 (by decide) (hts _ (List.mem_of_getElem? (i := 4) rfl)) rfl dX6_odds_43 ?_
      refine lv_iload_n hx hb dX6_odds_46 rfl (lv_at hl 3 rfl) ?_
      refine lv_aload_n hx hb dX6_odds_47 rfl (lv_at hl 0 rfl) ?_
      refine x_get (v := .ref (bd 5)) hx hb hts hinX6 hown hK hP 0 (by decide) rfl rfl 9 (by decide) (hts _ (List.mem_of_getElem? (i := 5) rfl)) rfl dX6_odds_48 ?_
      refine lv_iload_n hx hb dX6_odds_51 rfl (lv_at hl 3 rfl) ?_
      refine x_iald (v := S 5 i) hx hb hK hP 5 0 (by decide) rfl rfl i rfl (by omega) (by decide) rfl dX6_odds_52 ?_
      refine x_iast hx hb hK hI hAd hP hS 17 0 (by decide) (fun _ => rfl) rfl i rfl (by omega) (by decide) dX6_odds_53 (fun H locs hP hS => ?_)
      refine lv_iinc (v := nI (i + 1)) (lv' := [(3, .int (nI (i + 1))), (0, .ref (bd 0)), (1, .int (nI y0)), (2, .int wn)]) hx hb dX6_odds_54 hl (k := 3) rfl (nI_1 _) (by decide) rfl (fun ls hl => ?_)
      refine lv_goto (tgt := 34) hx hb dX6_odds_57 (by decide) ?_
      have eST : (su (sr (sr S 13 (askF S N)) 17 (fil (S 5) (S 17) i)) 17 i (S 5 i)) = (sr (sr S 13 (askF S N)) 17 (fil (S 5) (S 17) (i + 1))) := su_fil rfl
      rw [eST] at hP
      exact ih (i + 1) (by omega) H locs ls hP hS (lv_sub hl [1, 2, 3, 0] rfl)
  refine lv_aload_n hx hb dX6_odds_0 rfl (lv_at hl 0 rfl) ?_
  refine x_get (v := .int (nI C)) hx hb hts hinX6 hown hK hP 0 (by decide) rfl rfl 5 (by decide) (hts _ (List.mem_of_getElem? (i := 1) rfl)) (congrArg (fun z => some (Value.int z)) hC) dX6_odds_1 ?_
  refine lv_if_eq (tgt := 24) hx hb dX6_odds_4 (by decide) (fun hc => absurd hc (nI_ne0 hC0 (by omega))) (fun _ => ?_)
  refine lv_aload_n hx hb dX6_odds_7 rfl (lv_at hl 0 rfl) ?_
  refine lv_iload_n hx hb dX6_odds_8 rfl (lv_at hl 1 rfl) ?_
  refine x_calli (x_runV (As := [.int (nI y0)]) (rest := []) hF (c6_isYear hI S (nI y0) ) (cwV 1 hts gX6_odds_X6_isYear rfl rfl rfl (by decide +kernel) ⟨Nat.le_of_ble_eq_true rfl, Nat.le_of_ble_eq_true rfl⟩) hK hP (by decide) rfl rfl rfl hl.1 rfl (Nat.le_of_ble_eq_true rfl) dX6_odds_9 ⟨Nat.zero_le _, Nat.zero_le _⟩) hS hAd (fun r9 S9 H locs hw hP _ hS => ?_)
  obtain ⟨hw, eS9⟩ := hw
  rw [eS9] at hP
  by_cases q9 : inR (nI y0) (S 0 6) = true
  · have hw : r9 = 1 := hw.trans (if_pos q9)
    subst hw
    refine lv_if_eq (tgt := 24) hx hb dX6_odds_12 (by decide) (fun hc => absurd hc (by decide)) (fun _ => ?_)
    refine lv_iload_n hx hb dX6_odds_15 rfl (lv_at hl 2 rfl) ?_
    refine lv_iconst (v := 0) hx hb dX6_odds_16 (by decide +kernel) ?_
    refine lv_iconst (v := 1) hx hb dX6_odds_17 (by decide +kernel) ?_
    refine x_calli (x_runS (As := [.int wn, .int 0, .int 1]) (rest := []) hF (c6_within hI S wn 0 1 ) (va_cwS 3 hts gX6_odds_X6_within rfl rfl rfl (by decide +kernel) ⟨Nat.le_of_ble_eq_true rfl, Nat.le_of_ble_eq_true rfl⟩) hK hP rfl hl.1 rfl (Nat.le_of_ble_eq_true rfl) dX6_odds_18 ⟨Nat.zero_le _, Nat.zero_le _⟩) hS hAd (fun r18 S18 H locs hw hP _ hS => ?_)
    obtain ⟨hw, eS18⟩ := hw
    rw [eS18] at hP
    by_cases q18 : wit wn 0 1 = true
    · have hw : r18 = 1 := hw.trans (if_pos q18)
      subst hw
      refine lv_if_ne (tgt := 28) hx hb dX6_odds_21 (by decide) (fun _ => ?_) (fun hc => absurd hc (by decide))
      refine lv_aload_n hx hb dX6_odds_28 rfl (lv_at hl 0 rfl) ?_
      refine x_callv (x_runV (As := []) (rest := []) hF (c6_askNow hI S N hN hN5 ) (cwV 0 hts gX6_odds_X6_askNow rfl rfl rfl (by decide +kernel) ⟨Nat.le_of_ble_eq_true rfl, Nat.le_of_ble_eq_true rfl⟩) hK hP (by decide) rfl rfl rfl hl.1 rfl (Nat.le_of_ble_eq_true rfl) dX6_odds_29 ⟨Nat.zero_le _, Nat.zero_le _⟩) hS hAd (fun S29 H locs hw hP _ hS => ?_)
      rw [hw] at hP
      refine lv_iconst (v := 0) hx hb dX6_odds_32 (by decide +kernel) ?_
      refine lv_istore_n (lv' := [(3, .int 0), (0, .ref (bd 0)), (1, .int (nI y0)), (2, .int wn)]) hx hb dX6_odds_33 rfl hl (by decide) rfl (fun ls hl => ?_)
      have hP : va_P (dC, dI) vwCl (xW (mLy cI cZ bd) 18 bd (sr (sr S 13 (askF S N)) 17 (fil (S 5) (S 17) 0))) H := by rw [fil_0, sr_same' (show S 17 = (sr S 13 (askF S N)) 17 from rfl)]; exact hP
      exact L34 N 0 (Nat.zero_add _) _ _ ls hP hS (lv_sub hl [1, 2, 3, 0] rfl)
    · have hw : r18 = 0 := hw.trans (if_neg q18)
      subst hw
      exact absurd (hwn) q18
  · have hw : r9 = 0 := hw.trans (if_neg q9)
    subst hw
    exact absurd (by rw [hY]; exact inR_nI hy0 (by omega)) q9

set_option maxHeartbeats 4000000 in
set_option maxRecDepth 100000 in
theorem c6_odds_f (hI : xI 18 bd) (S : xSt) (yn wn : Int32) (hno : S 0 5 = 0 ∨ ¬ inR yn (S 0 6) = true ∨ ¬ wit wn 0 1 = true) : xMl l yX6_odds wsX6_odds ({ frames := 5, cells := 0, slots := 0, locals := 114 }) (dC, dI) vwCl (tyl cI cZ cS cG) (mLy cI cZ bd) 18 bd [.ref (bd 0), .int yn, .int wn] S (fun r S' => r = -9223372036854775808 ∧ S' = S) := by
  refine xM_of (cc := cX6_odds) (nL := 7) (ret := (some .long)) (by decide) rfl (Nat.le_of_ble_eq_true rfl) ?_
  intro p e s m below meth c ls B hl hK hP
  obtain ⟨hx, hb, hml, hown, hts, hr, hlocks⟩ := B
  have hl : lv_has ls 7 [(0, .ref (bd 0)), (1, .int yn), (2, .int wn)] := hl
  have hS : va_S (xA 18 bd) s.heap s.heap [] := va_S.rf
  have hAd : ∀ k, k < 18 → xA 18 bd (bd k) := xA_in
  have hinX6 : ∀ w ∈ wsX60, w ∈ wsX6_odds := fun _ h => List.mem_cons_of_mem _ (List.mem_append_right _ h)
  have hF : CallFix p m c cX6_odds 7 s _ wsX6_odds RX6 := ⟨hx, hb, hml, hown, hts⟩
  refine lv_aload_n hx hb dX6_odds_0 rfl (lv_at hl 0 rfl) ?_
  refine x_get (v := .int (S 0 5)) hx hb hts hinX6 hown hK hP 0 (by decide) rfl rfl 5 (by decide) (hts _ (List.mem_of_getElem? (i := 1) rfl)) rfl dX6_odds_1 ?_
  refine lv_if_eq (tgt := 24) hx hb dX6_odds_4 (by decide) (fun c4 => ?_) (fun c4 => ?_)
  · refine lv_ldc2 (v := (-9223372036854775808)) hx hb hown (hts _ (List.mem_of_getElem? (i := 2) rfl)) dX6_odds_24 ?_
    refine x_lret hx hb hr hlocks hP hS dX6_odds_27 ?_
    exact ⟨rfl, rfl⟩
  · refine lv_aload_n hx hb dX6_odds_7 rfl (lv_at hl 0 rfl) ?_
    refine lv_iload_n hx hb dX6_odds_8 rfl (lv_at hl 1 rfl) ?_
    refine x_calli (x_runV (As := [.int yn]) (rest := []) hF (c6_isYear hI S yn ) (cwV 1 hts gX6_odds_X6_isYear rfl rfl rfl (by decide +kernel) ⟨Nat.le_of_ble_eq_true rfl, Nat.le_of_ble_eq_true rfl⟩) hK hP (by decide) rfl rfl rfl hl.1 rfl (Nat.le_of_ble_eq_true rfl) dX6_odds_9 ⟨Nat.zero_le _, Nat.zero_le _⟩) hS hAd (fun r9 S9 H locs hw hP _ hS => ?_)
    obtain ⟨hw, eS9⟩ := hw
    rw [eS9] at hP
    by_cases q9 : inR yn (S 0 6) = true
    · have hw : r9 = 1 := hw.trans (if_pos q9)
      subst hw
      refine lv_if_eq (tgt := 24) hx hb dX6_odds_12 (by decide) (fun hc => absurd hc (by decide)) (fun _ => ?_)
      refine lv_iload_n hx hb dX6_odds_15 rfl (lv_at hl 2 rfl) ?_
      refine lv_iconst (v := 0) hx hb dX6_odds_16 (by decide +kernel) ?_
      refine lv_iconst (v := 1) hx hb dX6_odds_17 (by decide +kernel) ?_
      refine x_calli (x_runS (As := [.int wn, .int 0, .int 1]) (rest := []) hF (c6_within hI S wn 0 1 ) (va_cwS 3 hts gX6_odds_X6_within rfl rfl rfl (by decide +kernel) ⟨Nat.le_of_ble_eq_true rfl, Nat.le_of_ble_eq_true rfl⟩) hK hP rfl hl.1 rfl (Nat.le_of_ble_eq_true rfl) dX6_odds_18 ⟨Nat.zero_le _, Nat.zero_le _⟩) hS hAd (fun r18 S18 H locs hw hP _ hS => ?_)
      obtain ⟨hw, eS18⟩ := hw
      rw [eS18] at hP
      by_cases q18 : wit wn 0 1 = true
      · have hw : r18 = 1 := hw.trans (if_pos q18)
        subst hw
        refine lv_if_ne (tgt := 28) hx hb dX6_odds_21 (by decide) (fun _ => ?_) (fun hc => absurd hc (by decide))
        exact absurd hno (by simp [c4, q9, q18])
      · have hw : r18 = 0 := hw.trans (if_neg q18)
        subst hw
        refine lv_if_ne (tgt := 28) hx hb dX6_odds_21 (by decide) (fun hc => absurd (by decide) hc) (fun _ => ?_)
        refine lv_ldc2 (v := (-9223372036854775808)) hx hb hown (hts _ (List.mem_of_getElem? (i := 2) rfl)) dX6_odds_24 ?_
        refine x_lret hx hb hr hlocks hP hS dX6_odds_27 ?_
        exact ⟨rfl, rfl⟩
    · have hw : r9 = 0 := hw.trans (if_neg q9)
      subst hw
      refine lv_if_eq (tgt := 24) hx hb dX6_odds_12 (by decide) (fun _ => ?_) (fun hc => absurd (by decide) hc)
      refine lv_ldc2 (v := (-9223372036854775808)) hx hb hown (hts _ (List.mem_of_getElem? (i := 2) rfl)) dX6_odds_24 ?_
      refine x_lret hx hb hr hlocks hP hS dX6_odds_27 ?_
      exact ⟨rfl, rfl⟩

end M6
