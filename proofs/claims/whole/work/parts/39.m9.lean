section M9
variable {l : Launch} {dC : Nat → ClassId} {dI : Nat → Nat → Nat} {cI cZ cS cG : ClassId} {ad bd : Nat → Nat}
set_option maxHeartbeats 4000000 in
set_option maxRecDepth 100000 in
theorem c6_takeTreaty (hI : xI 18 bd) (S : xSt) (N : Nat) (hN : S 0 18 = nI N) (hN5 : N ≤ 5) : xMv l yX6_takeTreaty wsX6_takeTreaty ({ frames := 0, cells := 0, slots := 0, locals := 0 }) (dC, dI) vwCl (tyl cI cZ cS cG) (mLy cI cZ bd) 18 bd [.ref (bd 0)] S (fun S' => takM S N S') := by
  refine xM_of (cc := cX6_takeTreaty) (nL := 2) (ret := none) (by decide) rfl (Nat.le_of_ble_eq_true rfl) ?_
  intro p e s m below meth c ls B hl hK hP
  obtain ⟨hx, hb, hml, hown, hts, hr, hlocks⟩ := B
  have hl : lv_has ls 2 [(0, .ref (bd 0))] := hl
  have hS : va_S (xA 18 bd) s.heap s.heap [] := va_S.rf
  have hAd : ∀ k, k < 18 → xA 18 bd (bd k) := xA_in
  have hinX6 : ∀ w ∈ wsX60, w ∈ wsX6_takeTreaty := fun _ h => List.mem_cons_of_mem _ (List.mem_append_right _ h)
  have hF : CallFix p m c cX6_takeTreaty 2 s _ wsX6_takeTreaty RX6 := ⟨hx, hb, hml, hown, hts⟩
  have L52 : ∀ (n : Nat) (i : Nat) (T : xSt) (hi : i + n = N) (hB : ∀ k, ¬ (5 ≤ k ∧ k ≤ 10) → T k = (su (sr (su (su S 0 5 (S 0 16)) 0 6 (S 0 17)) 4 (fil (S 11) (S 4) 24)) 0 7 (nI N)) k) (hg : (∀ s, s < i → T 5 s = S 12 (4 * s) ∧ T 6 s = S 12 (4 * s + 1) ∧ T 7 s = S 12 (4 * s + 2) ∧ T 8 s = S 12 (4 * s + 3) ∧ T 9 s = -9 ∧ T 10 s = -9)) (H : Heap) (locs : List Loc) (ls : Array Slot), va_P (dC, dI) vwCl (xW (mLy cI cZ bd) 18 bd T) H → va_S (xA 18 bd) s.heap H locs → lv_has ls 2 [(0, .ref (bd 0)), (1, .int (nI i))] → W p l e ({ frames := 0, cells := 0, slots := 0, locals := 0 }) s m ([.ref (bd 0)] : List Value).toArray below meth c H locs 0 0 (MQ below (xQv (dC, dI) vwCl (mLy cI cZ bd) 18 bd (fun S' => takM S N S')) ([.ref (bd 0)] : List Value).toArray s 0 0 (xA 18 bd)) (F0 m 52 ls []) := by
    intro n
    induction n with
    | zero =>
      intro i T hi hB hg H locs ls hP hS hl
      have hT7 : T 0 7 = nI N := (congrFun (hB 0 (by decide)) 7).trans rfl
      refine lv_iload_n hx hb dX6_takeTreaty_52 rfl (lv_at hl 1 rfl) ?_
      refine lv_aload_n hx hb dX6_takeTreaty_53 rfl (lv_at hl 0 rfl) ?_
      refine x_get (v := .int (nI N)) hx hb hts hinX6 hown hK hP 0 (by decide) rfl rfl 7 (by decide) (hts _ (List.mem_of_getElem? (i := 8) rfl)) (congrArg (fun z => some (Value.int z)) hT7) dX6_takeTreaty_54 ?_
      refine lv_icmp_ge (tgt := 144) hx hb dX6_takeTreaty_57 (by decide) (fun _ => ?_) (fun hc => absurd (nI_le (by omega) (by omega)) hc)
      refine lv_aload_n hx hb dX6_takeTreaty_144 rfl (lv_at hl 0 rfl) ?_
      refine lv_iconst (v := 0) hx hb dX6_takeTreaty_145 (by decide +kernel) ?_
      refine x_put hx hb hts hinX6 tyX6 tyX6_ok nmX6 hown hK hI hAd hP hS 0 (by decide) rfl rfl 22 (by decide) (hts _ (List.mem_of_getElem? (i := 16) rfl)) rfl (upd (T 0) 22 0) rfl rfl rfl (Nat.le_of_ble_eq_true rfl) dX6_takeTreaty_146 (fun H locs hP hS => ?_)
      have hP : va_P (dC, dI) vwCl (xW (mLy cI cZ bd) 18 bd (su T 0 22 0)) H := hP
      refine x_vret hx hb hr hlocks hP hS dX6_takeTreaty_149 ?_
      obtain rfl : i = N := by omega
      exact ⟨congrFun (hB 0 (by decide)) 5, congrFun (hB 0 (by decide)) 6, hT7, rfl, fun j a b c d => (upd_off d).trans ((congrFun (hB 0 (by decide)) j).trans ((upd_off c).trans ((upd_off b).trans (upd_off a)))), fun j h => (congrFun (hB 4 (by decide)) j).trans (fil_in h), hg, fun k h1 h2 => (su_ne h1).trans ((hB k (by omega)).trans ((su_ne h1).trans ((sr_ne (by omega)).trans ((su_ne h1).trans (su_ne h1)))))⟩
    | succ n ih =>
      intro i T hi hB hg H locs ls hP hS hl
      have hT7 : T 0 7 = nI N := (congrFun (hB 0 (by decide)) 7).trans rfl
      have hT12 : T 12 = S 12 := hB 12 (by decide)
      refine lv_iload_n hx hb dX6_takeTreaty_52 rfl (lv_at hl 1 rfl) ?_
      refine lv_aload_n hx hb dX6_takeTreaty_53 rfl (lv_at hl 0 rfl) ?_
      refine x_get (v := .int (nI N)) hx hb hts hinX6 hown hK hP 0 (by decide) rfl rfl 7 (by decide) (hts _ (List.mem_of_getElem? (i := 8) rfl)) (congrArg (fun z => some (Value.int z)) hT7) dX6_takeTreaty_54 ?_
      refine lv_icmp_ge (tgt := 144) hx hb dX6_takeTreaty_57 (by decide) (fun hc => absurd hc (nI_ge (by omega) (by omega))) (fun _ => ?_)
      refine lv_aload_n hx hb dX6_takeTreaty_60 rfl (lv_at hl 0 rfl) ?_
      refine x_get (v := .ref (bd 5)) hx hb hts hinX6 hown hK hP 0 (by decide) rfl rfl 9 (by decide) (hts _ (List.mem_of_getElem? (i := 9) rfl)) rfl dX6_takeTreaty_61 ?_
      refine lv_iload_n hx hb dX6_takeTreaty_64 rfl (lv_at hl 1 rfl) ?_
      refine lv_aload_n hx hb dX6_takeTreaty_65 rfl (lv_at hl 0 rfl) ?_
      refine x_get (v := .ref (bd 12)) hx hb hts hinX6 hown hK hP 0 (by decide) rfl rfl 20 (by decide) (hts _ (List.mem_of_getElem? (i := 10) rfl)) rfl dX6_takeTreaty_66 ?_
      refine lv_iconst (v := 4) hx hb dX6_takeTreaty_69 (by decide +kernel) ?_
      refine lv_iload_n hx hb dX6_takeTreaty_70 rfl (lv_at hl 1 rfl) ?_
      refine lv_imul hx hb dX6_takeTreaty_71 ?_
      refine x_iald (v := S 12 (4 * i)) hx hb hK hP 12 0 (by decide) rfl rfl (4 * i) (by rw [show (4 : Int32) = nI 4 from rfl, pk_mul]) (by omega) (by decide) (congrFun hT12 _) dX6_takeTreaty_72 ?_
      refine x_iast hx hb hK hI hAd hP hS 5 0 (by decide) (fun _ => rfl) rfl i rfl (by omega) (by decide) dX6_takeTreaty_73 (fun H locs hP hS => ?_)
      refine lv_aload_n hx hb dX6_takeTreaty_74 rfl (lv_at hl 0 rfl) ?_
      refine x_get (v := .ref (bd 6)) hx hb hts hinX6 hown hK hP 0 (by decide) rfl rfl 10 (by decide) (hts _ (List.mem_of_getElem? (i := 11) rfl)) rfl dX6_takeTreaty_75 ?_
      refine lv_iload_n hx hb dX6_takeTreaty_78 rfl (lv_at hl 1 rfl) ?_
      refine lv_aload_n hx hb dX6_takeTreaty_79 rfl (lv_at hl 0 rfl) ?_
      refine x_get (v := .ref (bd 12)) hx hb hts hinX6 hown hK hP 0 (by decide) rfl rfl 20 (by decide) (hts _ (List.mem_of_getElem? (i := 10) rfl)) rfl dX6_takeTreaty_80 ?_
      refine lv_iconst (v := 4) hx hb dX6_takeTreaty_83 (by decide +kernel) ?_
      refine lv_iload_n hx hb dX6_takeTreaty_84 rfl (lv_at hl 1 rfl) ?_
      refine lv_imul hx hb dX6_takeTreaty_85 ?_
      refine lv_iconst (v := 1) hx hb dX6_takeTreaty_86 (by decide +kernel) ?_
      refine lv_iadd hx hb dX6_takeTreaty_87 ?_
      refine x_iald (v := S 12 (4 * i + 1)) hx hb hK hP 12 0 (by decide) rfl rfl (4 * i + 1) (by rw [show (4 : Int32) = nI 4 from rfl, pk_mul, show (1 : Int32) = nI 1 from rfl, nI_add]) (by omega) (by decide) (congrFun hT12 _) dX6_takeTreaty_88 ?_
      refine x_iast hx hb hK hI hAd hP hS 6 0 (by decide) (fun _ => rfl) rfl i rfl (by omega) (by decide) dX6_takeTreaty_89 (fun H locs hP hS => ?_)
      refine lv_aload_n hx hb dX6_takeTreaty_90 rfl (lv_at hl 0 rfl) ?_
      refine x_get (v := .ref (bd 7)) hx hb hts hinX6 hown hK hP 0 (by decide) rfl rfl 11 (by decide) (hts _ (List.mem_of_getElem? (i := 12) rfl)) rfl dX6_takeTreaty_91 ?_
      refine lv_iload_n hx hb dX6_takeTreaty_94 rfl (lv_at hl 1 rfl) ?_
      refine lv_aload_n hx hb dX6_takeTreaty_95 rfl (lv_at hl 0 rfl) ?_
      refine x_get (v := .ref (bd 12)) hx hb hts hinX6 hown hK hP 0 (by decide) rfl rfl 20 (by decide) (hts _ (List.mem_of_getElem? (i := 10) rfl)) rfl dX6_takeTreaty_96 ?_
      refine lv_iconst (v := 4) hx hb dX6_takeTreaty_99 (by decide +kernel) ?_
      refine lv_iload_n hx hb dX6_takeTreaty_100 rfl (lv_at hl 1 rfl) ?_
      refine lv_imul hx hb dX6_takeTreaty_101 ?_
      refine lv_iconst (v := 2) hx hb dX6_takeTreaty_102 (by decide +kernel) ?_
      refine lv_iadd hx hb dX6_takeTreaty_103 ?_
      refine x_iald (v := S 12 (4 * i + 2)) hx hb hK hP 12 0 (by decide) rfl rfl (4 * i + 2) (by rw [show (4 : Int32) = nI 4 from rfl, pk_mul, show (2 : Int32) = nI 2 from rfl, nI_add]) (by omega) (by decide) (congrFun hT12 _) dX6_takeTreaty_104 ?_
      refine x_iast hx hb hK hI hAd hP hS 7 0 (by decide) (fun _ => rfl) rfl i rfl (by omega) (by decide) dX6_takeTreaty_105 (fun H locs hP hS => ?_)
      refine lv_aload_n hx hb dX6_takeTreaty_106 rfl (lv_at hl 0 rfl) ?_
      refine x_get (v := .ref (bd 8)) hx hb hts hinX6 hown hK hP 0 (by decide) rfl rfl 12 (by decide) (hts _ (List.mem_of_getElem? (i := 13) rfl)) rfl dX6_takeTreaty_107 ?_
      refine lv_iload_n hx hb dX6_takeTreaty_110 rfl (lv_at hl 1 rfl) ?_
      refine lv_aload_n hx hb dX6_takeTreaty_111 rfl (lv_at hl 0 rfl) ?_
      refine x_get (v := .ref (bd 12)) hx hb hts hinX6 hown hK hP 0 (by decide) rfl rfl 20 (by decide) (hts _ (List.mem_of_getElem? (i := 10) rfl)) rfl dX6_takeTreaty_112 ?_
      refine lv_iconst (v := 4) hx hb dX6_takeTreaty_115 (by decide +kernel) ?_
      refine lv_iload_n hx hb dX6_takeTreaty_116 rfl (lv_at hl 1 rfl) ?_
      refine lv_imul hx hb dX6_takeTreaty_117 ?_
      refine lv_iconst (v := 3) hx hb dX6_takeTreaty_118 (by decide +kernel) ?_
      refine lv_iadd hx hb dX6_takeTreaty_119 ?_
      refine x_iald (v := S 12 (4 * i + 3)) hx hb hK hP 12 0 (by decide) rfl rfl (4 * i + 3) (by rw [show (4 : Int32) = nI 4 from rfl, pk_mul, show (3 : Int32) = nI 3 from rfl, nI_add]) (by omega) (by decide) (congrFun hT12 _) dX6_takeTreaty_120 ?_
      refine x_iast hx hb hK hI hAd hP hS 8 0 (by decide) (fun _ => rfl) rfl i rfl (by omega) (by decide) dX6_takeTreaty_121 (fun H locs hP hS => ?_)
      refine lv_aload_n hx hb dX6_takeTreaty_122 rfl (lv_at hl 0 rfl) ?_
      refine x_get (v := .ref (bd 9)) hx hb hts hinX6 hown hK hP 0 (by decide) rfl rfl 13 (by decide) (hts _ (List.mem_of_getElem? (i := 14) rfl)) rfl dX6_takeTreaty_123 ?_
      refine lv_iload_n hx hb dX6_takeTreaty_126 rfl (lv_at hl 1 rfl) ?_
      refine lv_bipush (v := (-9)) hx hb dX6_takeTreaty_127 (by decide +kernel) ?_
      refine x_iast hx hb hK hI hAd hP hS 9 0 (by decide) (fun _ => rfl) rfl i rfl (by omega) (by decide) dX6_takeTreaty_129 (fun H locs hP hS => ?_)
      refine lv_aload_n hx hb dX6_takeTreaty_130 rfl (lv_at hl 0 rfl) ?_
      refine x_get (v := .ref (bd 10)) hx hb hts hinX6 hown hK hP 0 (by decide) rfl rfl 14 (by decide) (hts _ (List.mem_of_getElem? (i := 15) rfl)) rfl dX6_takeTreaty_131 ?_
      refine lv_iload_n hx hb dX6_takeTreaty_134 rfl (lv_at hl 1 rfl) ?_
      refine lv_bipush (v := (-9)) hx hb dX6_takeTreaty_135 (by decide +kernel) ?_
      refine x_iast hx hb hK hI hAd hP hS 10 0 (by decide) (fun _ => rfl) rfl i rfl (by omega) (by decide) dX6_takeTreaty_137 (fun H locs hP hS => ?_)
      refine lv_iinc (v := nI (i + 1)) (lv' := [(1, .int (nI (i + 1))), (0, .ref (bd 0))]) hx hb dX6_takeTreaty_138 hl (k := 1) rfl (nI_1 _) (by decide) rfl (fun ls hl => ?_)
      refine lv_goto (tgt := 52) hx hb dX6_takeTreaty_141 (by decide) ?_
      exact ih (i + 1) _ (by omega) (fun k h1 => by rw [su_ne (by omega), su_ne (by omega), su_ne (by omega), su_ne (by omega), su_ne (by omega), su_ne (by omega)]; exact hB k h1) (fun s h => by rcases Nat.lt_or_ge s i with z | z; (refine ⟨?_, ?_, ?_, ?_, ?_, ?_⟩ <;> first | exact (upd_off (by omega)).trans (hg s z).1 | exact (upd_off (by omega)).trans (hg s z).2.1 | exact (upd_off (by omega)).trans (hg s z).2.2.1 | exact (upd_off (by omega)).trans (hg s z).2.2.2.1 | exact (upd_off (by omega)).trans (hg s z).2.2.2.2.1 | exact (upd_off (by omega)).trans (hg s z).2.2.2.2.2); rw [show s = i by omega]; exact ⟨upd_at _ _ _, upd_at _ _ _, upd_at _ _ _, upd_at _ _ _, upd_at _ _ _, upd_at _ _ _⟩) H locs ls hP hS (lv_sub hl [1, 0] rfl)
  have L18 : ∀ (n : Nat) (i : Nat) (hi : i + n = 24) (H : Heap) (locs : List Loc) (ls : Array Slot), va_P (dC, dI) vwCl (xW (mLy cI cZ bd) 18 bd (sr (su (su S 0 5 (S 0 16)) 0 6 (S 0 17)) 4 (fil (S 11) (S 4) i))) H → va_S (xA 18 bd) s.heap H locs → lv_has ls 2 [(0, .ref (bd 0)), (1, .int (nI i))] → W p l e ({ frames := 0, cells := 0, slots := 0, locals := 0 }) s m ([.ref (bd 0)] : List Value).toArray below meth c H locs 0 0 (MQ below (xQv (dC, dI) vwCl (mLy cI cZ bd) 18 bd (fun S' => takM S N S')) ([.ref (bd 0)] : List Value).toArray s 0 0 (xA 18 bd)) (F0 m 18 ls []) := by
    intro n
    induction n with
    | zero =>
      intro i hi H locs ls hP hS hl
      refine lv_iload_n hx hb dX6_takeTreaty_18 rfl (lv_at hl 1 rfl) ?_
      refine lv_bipush (v := 24) hx hb dX6_takeTreaty_19 (by decide +kernel) ?_
      refine lv_icmp_ge (tgt := 42) hx hb dX6_takeTreaty_21 (by decide) (fun _ => ?_) (fun hc => absurd (nI_le (a := 24) (by omega) (by omega)) hc)
      obtain rfl : i = 24 := by omega
      refine lv_aload_n hx hb dX6_takeTreaty_42 rfl (lv_at hl 0 rfl) ?_
      refine lv_aload_n hx hb dX6_takeTreaty_43 rfl (lv_at hl 0 rfl) ?_
      refine x_get (v := .int (nI N)) hx hb hts hinX6 hown hK hP 0 (by decide) rfl rfl 18 (by decide) (hts _ (List.mem_of_getElem? (i := 7) rfl)) (congrArg (fun z => some (Value.int z)) hN) dX6_takeTreaty_44 ?_
      refine x_put hx hb hts hinX6 tyX6 tyX6_ok nmX6 hown hK hI hAd hP hS 0 (by decide) rfl rfl 7 (by decide) (hts _ (List.mem_of_getElem? (i := 8) rfl)) rfl (upd ((sr (su (su S 0 5 (S 0 16)) 0 6 (S 0 17)) 4 (fil (S 11) (S 4) 24)) 0) 7 (nI N)) rfl rfl rfl (Nat.le_of_ble_eq_true rfl) dX6_takeTreaty_47 (fun H locs hP hS => ?_)
      have hP : va_P (dC, dI) vwCl (xW (mLy cI cZ bd) 18 bd (su (sr (su (su S 0 5 (S 0 16)) 0 6 (S 0 17)) 4 (fil (S 11) (S 4) 24)) 0 7 (nI N))) H := hP
      refine lv_iconst (v := 0) hx hb dX6_takeTreaty_50 (by decide +kernel) ?_
      refine lv_istore_n (lv' := [(1, .int 0), (0, .ref (bd 0))]) hx hb dX6_takeTreaty_51 rfl hl (by decide) rfl (fun ls hl => ?_)
      exact L52 N 0 _ (Nat.zero_add _) (fun _ _ => rfl) (fun s h => absurd h (Nat.not_lt_zero _)) _ _ ls hP hS (lv_sub hl [1, 0] rfl)
    | succ n ih =>
      intro i hi H locs ls hP hS hl
      refine lv_iload_n hx hb dX6_takeTreaty_18 rfl (lv_at hl 1 rfl) ?_
      refine lv_bipush (v := 24) hx hb dX6_takeTreaty_19 (by decide +kernel) ?_
      refine lv_icmp_ge (tgt := 42) hx hb dX6_takeTreaty_21 (by decide) (fun hc => absurd hc (nI_ge (b := 24) (by omega) (by omega))) (fun _ => ?_)
      refine lv_aload_n hx hb dX6_takeTreaty_24 rfl (lv_at hl 0 rfl) ?_
      refine x_get (v := .ref (bd 4)) hx hb hts hinX6 hown hK hP 0 (by decide) rfl rfl 8 (by decide) (hts _ (List.mem_of_getElem? (i := 5) rfl)) rfl dX6_takeTreaty_25 ?_
      refine lv_iload_n hx hb dX6_takeTreaty_28 rfl (lv_at hl 1 rfl) ?_
      refine lv_aload_n hx hb dX6_takeTreaty_29 rfl (lv_at hl 0 rfl) ?_
      refine x_get (v := .ref (bd 11)) hx hb hts hinX6 hown hK hP 0 (by decide) rfl rfl 19 (by decide) (hts _ (List.mem_of_getElem? (i := 6) rfl)) rfl dX6_takeTreaty_30 ?_
      refine lv_iload_n hx hb dX6_takeTreaty_33 rfl (lv_at hl 1 rfl) ?_
      refine x_iald (v := S 11 i) hx hb hK hP 11 0 (by decide) rfl rfl i rfl (by omega) (by decide) rfl dX6_takeTreaty_34 ?_
      refine x_iast hx hb hK hI hAd hP hS 4 0 (by decide) (fun _ => rfl) rfl i rfl (by omega) (by decide) dX6_takeTreaty_35 (fun H locs hP hS => ?_)
      refine lv_iinc (v := nI (i + 1)) (lv' := [(1, .int (nI (i + 1))), (0, .ref (bd 0))]) hx hb dX6_takeTreaty_36 hl (k := 1) rfl (nI_1 _) (by decide) rfl (fun ls hl => ?_)
      refine lv_goto (tgt := 18) hx hb dX6_takeTreaty_39 (by decide) ?_
      rw [show (su (sr (su (su S 0 5 (S 0 16)) 0 6 (S 0 17)) 4 (fil (S 11) (S 4) i)) 4 i (S 11 i)) = (sr (su (su S 0 5 (S 0 16)) 0 6 (S 0 17)) 4 (fil (S 11) (S 4) (i + 1))) from su_fil rfl] at hP
      exact ih (i + 1) (by omega) H locs ls hP hS (lv_sub hl [1, 0] rfl)
  refine lv_aload_n hx hb dX6_takeTreaty_0 rfl (lv_at hl 0 rfl) ?_
  refine lv_aload_n hx hb dX6_takeTreaty_1 rfl (lv_at hl 0 rfl) ?_
  refine x_get (v := .int (S 0 16)) hx hb hts hinX6 hown hK hP 0 (by decide) rfl rfl 16 (by decide) (hts _ (List.mem_of_getElem? (i := 1) rfl)) rfl dX6_takeTreaty_2 ?_
  refine x_put hx hb hts hinX6 tyX6 tyX6_ok nmX6 hown hK hI hAd hP hS 0 (by decide) rfl rfl 5 (by decide) (hts _ (List.mem_of_getElem? (i := 2) rfl)) rfl (upd (S 0) 5 (S 0 16)) rfl rfl rfl (Nat.le_of_ble_eq_true rfl) dX6_takeTreaty_5 (fun H locs hP hS => ?_)
  have hP : va_P (dC, dI) vwCl (xW (mLy cI cZ bd) 18 bd (su S 0 5 (S 0 16))) H := hP
  refine lv_aload_n hx hb dX6_takeTreaty_8 rfl (lv_at hl 0 rfl) ?_
  refine lv_aload_n hx hb dX6_takeTreaty_9 rfl (lv_at hl 0 rfl) ?_
  refine x_get (v := .int (S 0 17)) hx hb hts hinX6 hown hK hP 0 (by decide) rfl rfl 17 (by decide) (hts _ (List.mem_of_getElem? (i := 3) rfl)) rfl dX6_takeTreaty_10 ?_
  refine x_put hx hb hts hinX6 tyX6 tyX6_ok nmX6 hown hK hI hAd hP hS 0 (by decide) rfl rfl 6 (by decide) (hts _ (List.mem_of_getElem? (i := 4) rfl)) rfl (upd ((su S 0 5 (S 0 16)) 0) 6 (S 0 17)) rfl rfl rfl (Nat.le_of_ble_eq_true rfl) dX6_takeTreaty_13 (fun H locs hP hS => ?_)
  have hP : va_P (dC, dI) vwCl (xW (mLy cI cZ bd) 18 bd (su (su S 0 5 (S 0 16)) 0 6 (S 0 17))) H := hP
  refine lv_iconst (v := 0) hx hb dX6_takeTreaty_16 (by decide +kernel) ?_
  refine lv_istore_n (lv' := [(1, .int 0), (0, .ref (bd 0))]) hx hb dX6_takeTreaty_17 rfl hl (by decide) rfl (fun ls hl => ?_)
  have hP : va_P (dC, dI) vwCl (xW (mLy cI cZ bd) 18 bd (sr (su (su S 0 5 (S 0 16)) 0 6 (S 0 17)) 4 (fil (S 11) (S 4) 0))) H := by rw [fil_0, sr_same' (show S 4 = (su (su S 0 5 (S 0 16)) 0 6 (S 0 17)) 4 from rfl)]; exact hP
  exact L18 24 0 rfl _ _ ls hP hS (lv_sub hl [1, 0] rfl)

set_option maxHeartbeats 4000000 in
set_option maxRecDepth 100000 in
theorem c6_readTreaty (hI : xI 18 bd) (S : xSt) (A q : Nat) (hAq : A + q ≤ 240) (cd : Nat → Int32) (hcd : ∀ u, u < q → S 3 (A + u) = cd u) (hat : S 0 15 = nI (A + 0)) : xMi l yX6_readTreaty wsX6_readTreaty ({ frames := 3, cells := 0, slots := 0, locals := 69 }) (dC, dI) vwCl (tyl cI cZ cS cG) (mLy cI cZ bd) 18 bd [.ref (bd 0), .int (nI (A + q))] S (fun r S' => (r = 1 ∧ ∃ N, trOkM cd q N S S') ∨ (r = 0 ∧ ∃ t, tBad cd q t ∧ S' 0 15 = nI (A + t) ∧ frmM S S')) := by
  refine xM_of (cc := cX6_readTreaty) (nL := 3) (ret := (some .boolean)) (by decide) rfl (Nat.le_of_ble_eq_true rfl) ?_
  intro p e s m below meth c ls B hl hK hP
  obtain ⟨hx, hb, hml, hown, hts, hr, hlocks⟩ := B
  have hl : lv_has ls 3 [(0, .ref (bd 0)), (1, .int (nI (A + q)))] := hl
  have hS : va_S (xA 18 bd) s.heap s.heap [] := va_S.rf
  have hAd : ∀ k, k < 18 → xA 18 bd (bd k) := xA_in
  have hinX6 : ∀ w ∈ wsX60, w ∈ wsX6_readTreaty := fun _ h => List.mem_cons_of_mem _ (List.mem_append_right _ h)
  have hF : CallFix p m c cX6_readTreaty 3 s _ wsX6_readTreaty RX6 := ⟨hx, hb, hml, hown, hts⟩
  have L99 : ∀ (n : Nat) (mv : Nat) (T : xSt) (hm : mv + n = 5) (hA : tAt cd q (snP (cC cd) (cY cd) mv) (5, mv, 0)) (hTat : T 0 15 = nI (A + (snP (cC cd) (cY cd) mv))) (hT16 : T 0 16 = nI (cC cd)) (hT17 : T 0 17 = nI (cY cd)) (hT18 : T 0 18 = nI mv) (hfr : frmM S T) (hg : gnM cd (T 11) (cY cd) (cC cd)) (hsn : sonM cd (T 12) (cC cd) (cY cd) mv) (hbd : 2 ≤ cC cd ∧ cC cd ≤ 4 ∧ 1 ≤ cY cd ∧ cY cd ≤ 6) (H : Heap) (locs : List Loc) (ls : Array Slot), va_P (dC, dI) vwCl (xW (mLy cI cZ bd) 18 bd T) H → va_S (xA 18 bd) s.heap H locs → lv_has ls 3 [(0, .ref (bd 0)), (1, .int (nI (A + q)))] → W p l e ({ frames := 3, cells := 0, slots := 0, locals := 69 }) s m ([.ref (bd 0), .int (nI (A + q))] : List Value).toArray below meth c H locs 0 0 (MQ below (xQi (dC, dI) vwCl (mLy cI cZ bd) 18 bd (fun r S' => (r = 1 ∧ ∃ N, trOkM cd q N S S') ∨ (r = 0 ∧ ∃ t, tBad cd q t ∧ S' 0 15 = nI (A + t) ∧ frmM S S'))) ([.ref (bd 0), .int (nI (A + q))] : List Value).toArray s 0 0 (xA 18 bd)) (F0 m 99 ls []) := by
    intro n
    induction n with
    | zero =>
      intro mv T hm hA hTat hT16 hT17 hT18 hfr hg hsn hbd H locs ls hP hS hl
      have hcT : ∀ u, u < q → T 3 (A + u) = cd u := fun u h => (congrFun (hfr.1 3 (by decide) (by decide) (by decide)) _).trans (hcd u h)
      have hle := hA.1.le
      have hTq := hAq
      refine lv_aload_n hx hb dX6_readTreaty_99 rfl (lv_at hl 0 rfl) ?_
      refine x_get (v := .int (nI mv)) hx hb hts hinX6 hown hK hP 0 (by decide) rfl rfl 18 (by decide) (hts _ (List.mem_of_getElem? (i := 1) rfl)) (congrArg (fun z => some (Value.int z)) hT18) dX6_readTreaty_100 ?_
      refine lv_if_eq (tgt := 122) hx hb dX6_readTreaty_103 (by decide) (fun hc => absurd hc (nI_ne0 (by omega) (by omega))) (fun _ => ?_)
      refine lv_aload_n hx hb dX6_readTreaty_106 rfl (lv_at hl 0 rfl) ?_
      refine x_get (v := .int (nI mv)) hx hb hts hinX6 hown hK hP 0 (by decide) rfl rfl 18 (by decide) (hts _ (List.mem_of_getElem? (i := 1) rfl)) (congrArg (fun z => some (Value.int z)) hT18) dX6_readTreaty_107 ?_
      refine lv_iconst (v := 5) hx hb dX6_readTreaty_110 (by decide +kernel) ?_
      refine lv_icmp_ge (tgt := 142) hx hb dX6_readTreaty_111 (by decide) (fun _ => ?_) (fun hc => absurd (nI_le (a := 5) (by omega) (by omega)) hc)
      refine lv_aload_n hx hb dX6_readTreaty_142 rfl (lv_at hl 0 rfl) ?_
      refine x_get (v := .int (nI (A + (snP (cC cd) (cY cd) mv)))) hx hb hts hinX6 hown hK hP 0 (by decide) rfl rfl 15 (by decide) (hts _ (List.mem_of_getElem? (i := 4) rfl)) (congrArg (fun z => some (Value.int z)) hTat) dX6_readTreaty_143 ?_
      refine lv_iload_n hx hb dX6_readTreaty_146 rfl (lv_at hl 1 rfl) ?_
      refine lv_icmp_ne (tgt := 154) hx hb dX6_readTreaty_147 (by decide) (fun c147 => ?_) (fun c147 => ?_)
      · refine lv_iconst (v := 0) hx hb dX6_readTreaty_154 (by decide +kernel) ?_
        refine x_zret hx hb hr hlocks hP hS dX6_readTreaty_155 (Or.inl rfl) ?_
        obtain rfl : mv = 5 := by omega
        have hlt : snP (cC cd) (cY cd) 5 < q := by rcases Nat.lt_or_ge (snP (cC cd) (cY cd) 5) q with z | z; exact z; exact absurd (show nI (A + (snP (cC cd) (cY cd) 5)) = nI (A + q) by rw [Nat.le_antisymm hA.1.le z]) c147
        exact Or.inr ⟨rfl, _, hA.bad (fun z => by have z2 := z.2; rw [okp5x] at z2; cases z2) (fun z => absurd hlt (by omega)), hTat, hfr⟩
      · refine lv_iconst (v := 1) hx hb dX6_readTreaty_150 (by decide +kernel) ?_
        refine lv_goto (tgt := 155) hx hb dX6_readTreaty_151 (by decide) ?_
        refine x_zret hx hb hr hlocks hP hS dX6_readTreaty_155 (Or.inr rfl) ?_
        obtain rfl : mv = 5 := by omega
        have hqe : snP (cC cd) (cY cd) 5 = q := by have := (nI_eq (a := A + (snP (cC cd) (cY cd) 5)) (b := A + q) (by omega) (by omega)).mp c147; omega
        exact Or.inl ⟨rfl, 5, ⟨⟨by rw [hqe] at hA; exact hA.1, by rw [hqe] at hA; exact hA.2, by decide, by decide⟩, hbd, hT16, hT17, hT18, hg, hsn, hfr⟩⟩
    | succ n ih =>
      intro mv T hm hA hTat hT16 hT17 hT18 hfr hg hsn hbd H locs ls hP hS hl
      have hcT : ∀ u, u < q → T 3 (A + u) = cd u := fun u h => (congrFun (hfr.1 3 (by decide) (by decide) (by decide)) _).trans (hcd u h)
      have hle := hA.1.le
      have hTq := hAq
      refine lv_aload_n hx hb dX6_readTreaty_99 rfl (lv_at hl 0 rfl) ?_
      refine x_get (v := .int (nI mv)) hx hb hts hinX6 hown hK hP 0 (by decide) rfl rfl 18 (by decide) (hts _ (List.mem_of_getElem? (i := 1) rfl)) (congrArg (fun z => some (Value.int z)) hT18) dX6_readTreaty_100 ?_
      refine lv_if_eq (tgt := 122) hx hb dX6_readTreaty_103 (by decide) (fun c103 => ?_) (fun c103 => ?_)
      · refine lv_aload_n hx hb dX6_readTreaty_122 rfl (lv_at hl 0 rfl) ?_
        refine lv_iload_n hx hb dX6_readTreaty_123 rfl (lv_at hl 1 rfl) ?_
        refine lv_bipush (v := 44) hx hb dX6_readTreaty_124 (by decide +kernel) ?_
        refine x_calli (x_runV (As := [.int (nI (A + q)), .int 44]) (rest := []) hF (c6_isSign hI T A q (snP (cC cd) (cY cd) mv) hTat hA.1.le hAq 44) (cwV 2 hts gX6_readTreaty_X6_isSign rfl rfl rfl (by decide +kernel) ⟨Nat.le_of_ble_eq_true rfl, Nat.le_of_ble_eq_true rfl⟩) hK hP (by decide) rfl rfl rfl hl.1 rfl (Nat.le_of_ble_eq_true rfl) dX6_readTreaty_126 ⟨Nat.zero_le _, Nat.zero_le _⟩) hS hAd (fun r126 S126 H locs hw hP _ hS => ?_)
        obtain ⟨hw, eS126⟩ := hw
        by_cases q126 : tko q (snP (cC cd) (cY cd) mv) (T 3 (A + (snP (cC cd) (cY cd) mv))) 44 44 = true
        · have eS126 : S126 = (su T 0 15 (nI (A + (snP (cC cd) (cY cd) mv) + 1))) := eS126.trans (if_pos q126)
          rw [eS126] at hP
          have hw : r126 = 1 := hw.trans (if_pos q126)
          subst hw
          have hA126 : tAt cd q (snP (cC cd) (cY cd) mv + 1) (5, mv, 1) := hA.step (tko_t q126).1 (by rw [okp50 (show mv < 5 by omega), ← hcT _ (tko_t q126).1]; exact (tko_t q126).2)
          refine lv_if_eq (tgt := 140) hx hb dX6_readTreaty_129 (by decide) (fun hc => absurd hc (by decide)) (fun _ => ?_)
          refine lv_aload_n hx hb dX6_readTreaty_132 rfl (lv_at hl 0 rfl) ?_
          refine lv_iload_n hx hb dX6_readTreaty_133 rfl (lv_at hl 1 rfl) ?_
          refine x_calli (x_runV (As := [.int (nI (A + q))]) (rest := []) hF (c6_readSon hI (su T 0 15 (nI (A + (snP (cC cd) (cY cd) mv) + 1))) A q hAq cd hcT (snP (cC cd) (cY cd) mv + 1) mv rfl hT18 hA126 (by omega) hT16 hbd.1 hbd.2.1) (cwV 1 hts gX6_readTreaty_X6_readSon rfl rfl rfl (by decide +kernel) ⟨Nat.le_of_ble_eq_true rfl, Nat.le_of_ble_eq_true rfl⟩) hK hP (by decide) rfl rfl rfl hl.1 rfl (Nat.le_of_ble_eq_true rfl) dX6_readTreaty_134 ⟨Nat.zero_le _, Nat.zero_le _⟩) hS hAd (fun r134 S134 H locs hw hP _ hS => ?_)
          rcases hw with ⟨rfl, hA2, j15, j18, j12, jf, j0, b2, b3, b4⟩ | ⟨rfl, t', hB, j15, jf⟩
          · skip
            refine lv_if_ne (tgt := 99) hx hb dX6_readTreaty_137 (by decide) (fun _ => ?_) (fun hc => absurd hc (by decide))
            exact ih (mv + 1) S134 (by omega) (by rw [← snP_s]; exact hA2) (by rw [← snP_s]; exact j15) ((j0 16 (by decide) (by decide)).trans hT16) ((j0 17 (by decide) (by decide)).trans hT17) j18 ((hfr.at 15 _ (Or.inl rfl)).tr ⟨fun k a _ c => jf k a c, fun j a _ _ d => j0 j a d⟩) (by rw [jf 11 (by decide) (by decide)]; exact hg) (sonM_ext hsn j12 b2 b3 b4) hbd H locs ls hP hS (lv_sub hl [0, 1] rfl)
          · skip
            refine lv_if_ne (tgt := 99) hx hb dX6_readTreaty_137 (by decide) (fun hc => absurd (by decide) hc) (fun _ => ?_)
            refine lv_iconst (v := 0) hx hb dX6_readTreaty_140 (by decide +kernel) ?_
            refine x_zret hx hb hr hlocks hP hS dX6_readTreaty_141 (Or.inl rfl) ?_
            exact Or.inr ⟨rfl, _, hB, j15, (hfr.at 15 _ (Or.inl rfl)).tr jf⟩
        · have eS126 : S126 = T := eS126.trans (if_neg q126)
          rw [eS126] at hP
          have hw : r126 = 0 := hw.trans (if_neg q126)
          subst hw
          have hB := hA.bad (fun z => tko_f q126 ⟨z.1, by have z2 := z.2; rw [okp50 (show mv < 5 by omega), ← hcT _ z.1] at z2; exact z2⟩) (fun z s h1 h2 => by have h3 : mv = s := congrArg (fun y : Nat × Nat × Nat => y.2.1) h2; have := (nI_eq (a := mv) (b := 0) (by omega) (by decide)).mp c103; omega)
          refine lv_if_eq (tgt := 140) hx hb dX6_readTreaty_129 (by decide) (fun _ => ?_) (fun hc => absurd (by decide) hc)
          refine lv_iconst (v := 0) hx hb dX6_readTreaty_140 (by decide +kernel) ?_
          refine x_zret hx hb hr hlocks hP hS dX6_readTreaty_141 (Or.inl rfl) ?_
          exact Or.inr ⟨rfl, _, hB, hTat, hfr⟩
      · refine lv_aload_n hx hb dX6_readTreaty_106 rfl (lv_at hl 0 rfl) ?_
        refine x_get (v := .int (nI mv)) hx hb hts hinX6 hown hK hP 0 (by decide) rfl rfl 18 (by decide) (hts _ (List.mem_of_getElem? (i := 1) rfl)) (congrArg (fun z => some (Value.int z)) hT18) dX6_readTreaty_107 ?_
        refine lv_iconst (v := 5) hx hb dX6_readTreaty_110 (by decide +kernel) ?_
        refine lv_icmp_ge (tgt := 142) hx hb dX6_readTreaty_111 (by decide) (fun c111 => ?_) (fun c111 => ?_)
        · have d111 := Int32.not_lt.mpr c111
          refine lv_aload_n hx hb dX6_readTreaty_142 rfl (lv_at hl 0 rfl) ?_
          refine x_get (v := .int (nI (A + (snP (cC cd) (cY cd) mv)))) hx hb hts hinX6 hown hK hP 0 (by decide) rfl rfl 15 (by decide) (hts _ (List.mem_of_getElem? (i := 4) rfl)) (congrArg (fun z => some (Value.int z)) hTat) dX6_readTreaty_143 ?_
          refine lv_iload_n hx hb dX6_readTreaty_146 rfl (lv_at hl 1 rfl) ?_
          refine lv_icmp_ne (tgt := 154) hx hb dX6_readTreaty_147 (by decide) (fun c147 => ?_) (fun c147 => ?_)
          · refine lv_iconst (v := 0) hx hb dX6_readTreaty_154 (by decide +kernel) ?_
            refine x_zret hx hb hr hlocks hP hS dX6_readTreaty_155 (Or.inl rfl) ?_
            have hlt : snP (cC cd) (cY cd) mv < q := by rcases Nat.lt_or_ge (snP (cC cd) (cY cd) mv) q with z | z; exact z; exact absurd (show nI (A + (snP (cC cd) (cY cd) mv)) = nI (A + q) by rw [Nat.le_antisymm hA.1.le z]) c147
            obtain rfl : mv = 5 := by have := (nI_leI (a := 5) (b := mv) (by decide) (by omega)).mp c111; omega
            exact Or.inr ⟨rfl, _, hA.bad (fun z => by have z2 := z.2; rw [okp5x] at z2; cases z2) (fun z => absurd hlt (by omega)), hTat, hfr⟩
          · refine lv_iconst (v := 1) hx hb dX6_readTreaty_150 (by decide +kernel) ?_
            refine lv_goto (tgt := 155) hx hb dX6_readTreaty_151 (by decide) ?_
            refine x_zret hx hb hr hlocks hP hS dX6_readTreaty_155 (Or.inr rfl) ?_
            have hqe : snP (cC cd) (cY cd) mv = q := by have := (nI_eq (a := A + (snP (cC cd) (cY cd) mv)) (b := A + q) (by omega) (by omega)).mp c147; omega
            have hm1 : 1 ≤ mv := by rcases Nat.eq_zero_or_pos mv with z | z; exact absurd (show nI mv = 0 by rw [z]; rfl) c103; exact z
            exact Or.inl ⟨rfl, mv, ⟨⟨by rw [hqe] at hA; exact hA.1, by rw [hqe] at hA; exact hA.2, hm1, by omega⟩, hbd, hT16, hT17, hT18, hg, hsn, hfr⟩⟩
        · have d111 := Int32.not_le.mp c111
          refine lv_aload_n hx hb dX6_readTreaty_114 rfl (lv_at hl 0 rfl) ?_
          refine x_get (v := .int (nI (A + (snP (cC cd) (cY cd) mv)))) hx hb hts hinX6 hown hK hP 0 (by decide) rfl rfl 15 (by decide) (hts _ (List.mem_of_getElem? (i := 4) rfl)) (congrArg (fun z => some (Value.int z)) hTat) dX6_readTreaty_115 ?_
          refine lv_iload_n hx hb dX6_readTreaty_118 rfl (lv_at hl 1 rfl) ?_
          refine lv_icmp_ge (tgt := 142) hx hb dX6_readTreaty_119 (by decide) (fun c119 => ?_) (fun c119 => ?_)
          · have d119 := Int32.not_lt.mpr c119
            refine lv_aload_n hx hb dX6_readTreaty_142 rfl (lv_at hl 0 rfl) ?_
            refine x_get (v := .int (nI (A + (snP (cC cd) (cY cd) mv)))) hx hb hts hinX6 hown hK hP 0 (by decide) rfl rfl 15 (by decide) (hts _ (List.mem_of_getElem? (i := 4) rfl)) (congrArg (fun z => some (Value.int z)) hTat) dX6_readTreaty_143 ?_
            refine lv_iload_n hx hb dX6_readTreaty_146 rfl (lv_at hl 1 rfl) ?_
            refine lv_icmp_ne (tgt := 154) hx hb dX6_readTreaty_147 (by decide) (fun c147 => ?_) (fun c147 => ?_)
            · refine lv_iconst (v := 0) hx hb dX6_readTreaty_154 (by decide +kernel) ?_
              refine x_zret hx hb hr hlocks hP hS dX6_readTreaty_155 (Or.inl rfl) ?_
              have hlt : snP (cC cd) (cY cd) mv < q := by rcases Nat.lt_or_ge (snP (cC cd) (cY cd) mv) q with z | z; exact z; exact absurd (show nI (A + (snP (cC cd) (cY cd) mv)) = nI (A + q) by rw [Nat.le_antisymm hA.1.le z]) c147
              exact absurd ((nI_leI (by omega) (by omega)).mp c119) (by omega)
            · refine lv_iconst (v := 1) hx hb dX6_readTreaty_150 (by decide +kernel) ?_
              refine lv_goto (tgt := 155) hx hb dX6_readTreaty_151 (by decide) ?_
              refine x_zret hx hb hr hlocks hP hS dX6_readTreaty_155 (Or.inr rfl) ?_
              have hqe : snP (cC cd) (cY cd) mv = q := by have := (nI_eq (a := A + (snP (cC cd) (cY cd) mv)) (b := A + q) (by omega) (by omega)).mp c147; omega
              have hm1 : 1 ≤ mv := by rcases Nat.eq_zero_or_pos mv with z | z; exact absurd (show nI mv = 0 by rw [z]; rfl) c103; exact z
              exact Or.inl ⟨rfl, mv, ⟨⟨by rw [hqe] at hA; exact hA.1, by rw [hqe] at hA; exact hA.2, hm1, by omega⟩, hbd, hT16, hT17, hT18, hg, hsn, hfr⟩⟩
          · have d119 := Int32.not_le.mp c119
            have ht1 : snP (cC cd) (cY cd) mv < q := by rcases Nat.lt_or_ge (snP (cC cd) (cY cd) mv) q with z | z; exact z; exact absurd (nI_le (show A + q ≤ A + (snP (cC cd) (cY cd) mv) by omega) (by omega)) c119
            refine lv_aload_n hx hb dX6_readTreaty_122 rfl (lv_at hl 0 rfl) ?_
            refine lv_iload_n hx hb dX6_readTreaty_123 rfl (lv_at hl 1 rfl) ?_
            refine lv_bipush (v := 44) hx hb dX6_readTreaty_124 (by decide +kernel) ?_
            refine x_calli (x_runV (As := [.int (nI (A + q)), .int 44]) (rest := []) hF (c6_isSign hI T A q (snP (cC cd) (cY cd) mv) hTat hA.1.le hAq 44) (cwV 2 hts gX6_readTreaty_X6_isSign rfl rfl rfl (by decide +kernel) ⟨Nat.le_of_ble_eq_true rfl, Nat.le_of_ble_eq_true rfl⟩) hK hP (by decide) rfl rfl rfl hl.1 rfl (Nat.le_of_ble_eq_true rfl) dX6_readTreaty_126 ⟨Nat.zero_le _, Nat.zero_le _⟩) hS hAd (fun r126 S126 H locs hw hP _ hS => ?_)
            obtain ⟨hw, eS126⟩ := hw
            by_cases q126 : tko q (snP (cC cd) (cY cd) mv) (T 3 (A + (snP (cC cd) (cY cd) mv))) 44 44 = true
            · have eS126 : S126 = (su T 0 15 (nI (A + (snP (cC cd) (cY cd) mv) + 1))) := eS126.trans (if_pos q126)
              rw [eS126] at hP
              have hw : r126 = 1 := hw.trans (if_pos q126)
              subst hw
              have hA126 : tAt cd q (snP (cC cd) (cY cd) mv + 1) (5, mv, 1) := hA.step (tko_t q126).1 (by rw [okp50 (show mv < 5 by omega), ← hcT _ (tko_t q126).1]; exact (tko_t q126).2)
              refine lv_if_eq (tgt := 140) hx hb dX6_readTreaty_129 (by decide) (fun hc => absurd hc (by decide)) (fun _ => ?_)
              refine lv_aload_n hx hb dX6_readTreaty_132 rfl (lv_at hl 0 rfl) ?_
              refine lv_iload_n hx hb dX6_readTreaty_133 rfl (lv_at hl 1 rfl) ?_
              refine x_calli (x_runV (As := [.int (nI (A + q))]) (rest := []) hF (c6_readSon hI (su T 0 15 (nI (A + (snP (cC cd) (cY cd) mv) + 1))) A q hAq cd hcT (snP (cC cd) (cY cd) mv + 1) mv rfl hT18 hA126 (by omega) hT16 hbd.1 hbd.2.1) (cwV 1 hts gX6_readTreaty_X6_readSon rfl rfl rfl (by decide +kernel) ⟨Nat.le_of_ble_eq_true rfl, Nat.le_of_ble_eq_true rfl⟩) hK hP (by decide) rfl rfl rfl hl.1 rfl (Nat.le_of_ble_eq_true rfl) dX6_readTreaty_134 ⟨Nat.zero_le _, Nat.zero_le _⟩) hS hAd (fun r134 S134 H locs hw hP _ hS => ?_)
              rcases hw with ⟨rfl, hA2, j15, j18, j12, jf, j0, b2, b3, b4⟩ | ⟨rfl, t', hB, j15, jf⟩
              · skip
                refine lv_if_ne (tgt := 99) hx hb dX6_readTreaty_137 (by decide) (fun _ => ?_) (fun hc => absurd hc (by decide))
                exact ih (mv + 1) S134 (by omega) (by rw [← snP_s]; exact hA2) (by rw [← snP_s]; exact j15) ((j0 16 (by decide) (by decide)).trans hT16) ((j0 17 (by decide) (by decide)).trans hT17) j18 ((hfr.at 15 _ (Or.inl rfl)).tr ⟨fun k a _ c => jf k a c, fun j a _ _ d => j0 j a d⟩) (by rw [jf 11 (by decide) (by decide)]; exact hg) (sonM_ext hsn j12 b2 b3 b4) hbd H locs ls hP hS (lv_sub hl [0, 1] rfl)
              · skip
                refine lv_if_ne (tgt := 99) hx hb dX6_readTreaty_137 (by decide) (fun hc => absurd (by decide) hc) (fun _ => ?_)
                refine lv_iconst (v := 0) hx hb dX6_readTreaty_140 (by decide +kernel) ?_
                refine x_zret hx hb hr hlocks hP hS dX6_readTreaty_141 (Or.inl rfl) ?_
                exact Or.inr ⟨rfl, _, hB, j15, (hfr.at 15 _ (Or.inl rfl)).tr jf⟩
            · have eS126 : S126 = T := eS126.trans (if_neg q126)
              rw [eS126] at hP
              have hw : r126 = 0 := hw.trans (if_neg q126)
              subst hw
              have hB := hA.bad (fun z => tko_f q126 ⟨z.1, by have z2 := z.2; rw [okp50 (show mv < 5 by omega), ← hcT _ z.1] at z2; exact z2⟩) (fun z => absurd ht1 (by omega))
              refine lv_if_eq (tgt := 140) hx hb dX6_readTreaty_129 (by decide) (fun _ => ?_) (fun hc => absurd (by decide) hc)
              refine lv_iconst (v := 0) hx hb dX6_readTreaty_140 (by decide +kernel) ?_
              refine x_zret hx hb hr hlocks hP hS dX6_readTreaty_141 (Or.inl rfl) ?_
              exact Or.inr ⟨rfl, _, hB, hTat, hfr⟩
  have L64 : ∀ (n : Nat) (cv : Nat) (T : xSt) (hc : cv + n = cC cd) (hA : tAt cd q (3 + cv * (cY cd + 1)) (nxp (cC cd) cv)) (hTat : T 0 15 = nI (A + (3 + cv * (cY cd + 1)))) (hT16 : T 0 16 = nI (cC cd)) (hT17 : T 0 17 = nI (cY cd)) (hT18 : T 0 18 = 0) (hfr : frmM S T) (hg : gnM cd (T 11) (cY cd) cv) (hbd : 2 ≤ cC cd ∧ cC cd ≤ 4 ∧ 1 ≤ cY cd ∧ cY cd ≤ 6) (H : Heap) (locs : List Loc) (ls : Array Slot), va_P (dC, dI) vwCl (xW (mLy cI cZ bd) 18 bd T) H → va_S (xA 18 bd) s.heap H locs → lv_has ls 3 [(0, .ref (bd 0)), (1, .int (nI (A + q))), (2, .int (nI cv))] → W p l e ({ frames := 3, cells := 0, slots := 0, locals := 69 }) s m ([.ref (bd 0), .int (nI (A + q))] : List Value).toArray below meth c H locs 0 0 (MQ below (xQi (dC, dI) vwCl (mLy cI cZ bd) 18 bd (fun r S' => (r = 1 ∧ ∃ N, trOkM cd q N S S') ∨ (r = 0 ∧ ∃ t, tBad cd q t ∧ S' 0 15 = nI (A + t) ∧ frmM S S'))) ([.ref (bd 0), .int (nI (A + q))] : List Value).toArray s 0 0 (xA 18 bd)) (F0 m 64 ls []) := by
    intro n
    induction n with
    | zero =>
      intro cv T hc hA hTat hT16 hT17 hT18 hfr hg hbd H locs ls hP hS hl
      have hcT : ∀ u, u < q → T 3 (A + u) = cd u := fun u h => (congrFun (hfr.1 3 (by decide) (by decide) (by decide)) _).trans (hcd u h)
      obtain rfl : cv = cC cd := by omega
      rw [nxp_out (by omega)] at hA
      refine lv_iload_n hx hb dX6_readTreaty_64 rfl (lv_at hl 2 rfl) ?_
      refine lv_aload_n hx hb dX6_readTreaty_65 rfl (lv_at hl 0 rfl) ?_
      refine x_get (v := .int (nI (cC cd))) hx hb hts hinX6 hown hK hP 0 (by decide) rfl rfl 16 (by decide) (hts _ (List.mem_of_getElem? (i := 2) rfl)) (congrArg (fun z => some (Value.int z)) hT16) dX6_readTreaty_66 ?_
      refine lv_icmp_ge (tgt := 99) hx hb dX6_readTreaty_69 (by decide) (fun _ => ?_) (fun hc => absurd (nI_le (by omega) (by omega)) hc)
      exact L99 5 0 T rfl hA hTat hT16 hT17 (hT18.trans rfl) hfr hg (fun s' h => absurd h (Nat.not_lt_zero _)) hbd _ _ ls hP hS (lv_sub hl [0, 1] rfl)
    | succ n ih =>
      intro cv T hc hA hTat hT16 hT17 hT18 hfr hg hbd H locs ls hP hS hl
      have hcT : ∀ u, u < q → T 3 (A + u) = cd u := fun u h => (congrFun (hfr.1 3 (by decide) (by decide) (by decide)) _).trans (hcd u h)
      rw [nxp_in (by omega)] at hA
      refine lv_iload_n hx hb dX6_readTreaty_64 rfl (lv_at hl 2 rfl) ?_
      refine lv_aload_n hx hb dX6_readTreaty_65 rfl (lv_at hl 0 rfl) ?_
      refine x_get (v := .int (nI (cC cd))) hx hb hts hinX6 hown hK hP 0 (by decide) rfl rfl 16 (by decide) (hts _ (List.mem_of_getElem? (i := 2) rfl)) (congrArg (fun z => some (Value.int z)) hT16) dX6_readTreaty_66 ?_
      refine lv_icmp_ge (tgt := 99) hx hb dX6_readTreaty_69 (by decide) (fun hc => absurd hc (nI_ge (by omega) (by omega))) (fun _ => ?_)
      refine lv_aload_n hx hb dX6_readTreaty_72 rfl (lv_at hl 0 rfl) ?_
      refine lv_iload_n hx hb dX6_readTreaty_73 rfl (lv_at hl 1 rfl) ?_
      refine lv_bipush (v := 47) hx hb dX6_readTreaty_74 (by decide +kernel) ?_
      refine x_calli (x_runV (As := [.int (nI (A + q)), .int 47]) (rest := []) hF (c6_isSign hI T A q (3 + cv * (cY cd + 1)) hTat hA.1.le hAq 47) (cwV 2 hts gX6_readTreaty_X6_isSign rfl rfl rfl (by decide +kernel) ⟨Nat.le_of_ble_eq_true rfl, Nat.le_of_ble_eq_true rfl⟩) hK hP (by decide) rfl rfl rfl hl.1 rfl (Nat.le_of_ble_eq_true rfl) dX6_readTreaty_76 ⟨Nat.zero_le _, Nat.zero_le _⟩) hS hAd (fun r76 S76 H locs hw hP _ hS => ?_)
      obtain ⟨hw, eS76⟩ := hw
      by_cases q76 : tko q (3 + cv * (cY cd + 1)) (T 3 (A + (3 + cv * (cY cd + 1)))) 47 47 = true
      · have eS76 : S76 = (su T 0 15 (nI (A + (3 + cv * (cY cd + 1)) + 1))) := eS76.trans (if_pos q76)
        rw [eS76] at hP
        have hw : r76 = 1 := hw.trans (if_pos q76)
        subst hw
        have hA76 : tAt cd q (4 + cv * (cY cd + 1)) (4, cv, 0) := by rw [show 4 + cv * (cY cd + 1) = 3 + cv * (cY cd + 1) + 1 by omega]; exact hA.step (tko_t q76).1 (by rw [okp3, ← hcT _ (tko_t q76).1]; exact (tko_t q76).2)
        refine lv_if_eq (tgt := 91) hx hb dX6_readTreaty_79 (by decide) (fun hc => absurd hc (by decide)) (fun _ => ?_)
        refine lv_aload_n hx hb dX6_readTreaty_82 rfl (lv_at hl 0 rfl) ?_
        refine lv_iload_n hx hb dX6_readTreaty_83 rfl (lv_at hl 1 rfl) ?_
        refine lv_iload_n hx hb dX6_readTreaty_84 rfl (lv_at hl 2 rfl) ?_
        refine x_calli (x_runV (As := [.int (nI (A + q)), .int (nI cv)]) (rest := []) hF (c6_readCourt hI (su T 0 15 (nI (A + (3 + cv * (cY cd + 1)) + 1))) A q hAq cd hcT cv (by omega) (by rw [show 4 + cv * (cY cd + 1) = 3 + cv * (cY cd + 1) + 1 by omega]; rfl) hA76 hT17 hbd.2.2.1 hbd.2.2.2) (cwV 2 hts gX6_readTreaty_X6_readCourt rfl rfl rfl (by decide +kernel) ⟨Nat.le_of_ble_eq_true rfl, Nat.le_of_ble_eq_true rfl⟩) hK hP (by decide) rfl rfl rfl hl.1 rfl (Nat.le_of_ble_eq_true rfl) dX6_readTreaty_85 ⟨Nat.zero_le _, Nat.zero_le _⟩) hS hAd (fun r85 S85 H locs hw hP _ hS => ?_)
        rcases hw with ⟨rfl, hA2, j15, j0, jf, jo, jg⟩ | ⟨rfl, t', hB, j15, jf⟩
        · skip
          refine lv_if_ne (tgt := 93) hx hb dX6_readTreaty_88 (by decide) (fun _ => ?_) (fun hc => absurd hc (by decide))
          refine lv_iinc (v := nI (cv + 1)) (lv' := [(2, .int (nI (cv + 1))), (0, .ref (bd 0)), (1, .int (nI (A + q)))]) hx hb dX6_readTreaty_93 hl (k := 2) rfl (nI_1 _) (by decide) rfl (fun ls hl => ?_)
          refine lv_goto (tgt := 64) hx hb dX6_readTreaty_96 (by decide) ?_
          exact ih (cv + 1) S85 (by omega) hA2 j15 ((j0 16 (by decide)).trans hT16) ((j0 17 (by decide)).trans hT17) ((j0 18 (by decide)).trans hT18) ((hfr.at 15 _ (Or.inl rfl)).tr ⟨fun k a b _ => jf k a b, fun j a _ _ _ => j0 j a⟩) (fun c' y' h1 h2 => by rcases Nat.lt_or_ge c' cv with z | z; rw [jo _ (by omega)]; exact hg c' y' z h2; rw [show c' = cv by omega]; exact jg y' h2) hbd H locs ls hP hS (lv_sub hl [1, 2, 0] rfl)
        · skip
          refine lv_if_ne (tgt := 93) hx hb dX6_readTreaty_88 (by decide) (fun hc => absurd (by decide) hc) (fun _ => ?_)
          refine lv_iconst (v := 0) hx hb dX6_readTreaty_91 (by decide +kernel) ?_
          refine x_zret hx hb hr hlocks hP hS dX6_readTreaty_92 (Or.inl rfl) ?_
          exact Or.inr ⟨rfl, _, hB, j15, (hfr.at 15 _ (Or.inl rfl)).tr jf⟩
      · have eS76 : S76 = T := eS76.trans (if_neg q76)
        rw [eS76] at hP
        have hw : r76 = 0 := hw.trans (if_neg q76)
        subst hw
        have hB := hA.bad (fun z => tko_f q76 ⟨z.1, by have z2 := z.2; rw [okp3, ← hcT _ z.1] at z2; exact z2⟩) (fun _ s hs z => by simp at z)
        refine lv_if_eq (tgt := 91) hx hb dX6_readTreaty_79 (by decide) (fun _ => ?_) (fun hc => absurd (by decide) hc)
        refine lv_iconst (v := 0) hx hb dX6_readTreaty_91 (by decide +kernel) ?_
        refine x_zret hx hb hr hlocks hP hS dX6_readTreaty_92 (Or.inl rfl) ?_
        exact Or.inr ⟨rfl, _, hB, hTat, hfr⟩
  refine lv_aload_n hx hb dX6_readTreaty_0 rfl (lv_at hl 0 rfl) ?_
  refine lv_iconst (v := 0) hx hb dX6_readTreaty_1 (by decide +kernel) ?_
  refine x_put hx hb hts hinX6 tyX6 tyX6_ok nmX6 hown hK hI hAd hP hS 0 (by decide) rfl rfl 18 (by decide) (hts _ (List.mem_of_getElem? (i := 1) rfl)) rfl (upd (S 0) 18 0) rfl rfl rfl (Nat.le_of_ble_eq_true rfl) dX6_readTreaty_2 (fun H locs hP hS => ?_)
  have hP : va_P (dC, dI) vwCl (xW (mLy cI cZ bd) 18 bd (su S 0 18 0)) H := hP
  refine lv_aload_n hx hb dX6_readTreaty_5 rfl (lv_at hl 0 rfl) ?_
  refine lv_iload_n hx hb dX6_readTreaty_6 rfl (lv_at hl 1 rfl) ?_
  refine lv_bipush (v := 120) hx hb dX6_readTreaty_7 (by decide +kernel) ?_
  refine x_calli (x_runV (As := [.int (nI (A + q)), .int 120]) (rest := []) hF (c6_isSign hI (su S 0 18 0) A q 0 hat (tat0 cd q).1.le hAq 120) (cwV 2 hts gX6_readTreaty_X6_isSign rfl rfl rfl (by decide +kernel) ⟨Nat.le_of_ble_eq_true rfl, Nat.le_of_ble_eq_true rfl⟩) hK hP (by decide) rfl rfl rfl hl.1 rfl (Nat.le_of_ble_eq_true rfl) dX6_readTreaty_9 ⟨Nat.zero_le _, Nat.zero_le _⟩) hS hAd (fun r9 S9 H locs hw hP _ hS => ?_)
  obtain ⟨hw, eS9⟩ := hw
  by_cases q9 : tko q 0 (S 3 (A + 0)) 120 120 = true
  · have eS9 : S9 = (su (su S 0 18 0) 0 15 (nI (A + 0 + 1))) := eS9.trans (if_pos q9)
    rw [eS9] at hP
    have hw : r9 = 1 := hw.trans (if_pos q9)
    subst hw
    have hA9 : tAt cd q (0 + 1) (1, 0, 0) := (tat0 cd q).step (tko_t q9).1 (by rw [okp0, ← hcd _ (tko_t q9).1]; exact (tko_t q9).2)
    refine lv_if_ne (tgt := 17) hx hb dX6_readTreaty_12 (by decide) (fun _ => ?_) (fun hc => absurd hc (by decide))
    refine lv_aload_n hx hb dX6_readTreaty_17 rfl (lv_at hl 0 rfl) ?_
    refine lv_aload_n hx hb dX6_readTreaty_18 rfl (lv_at hl 0 rfl) ?_
    refine lv_iload_n hx hb dX6_readTreaty_19 rfl (lv_at hl 1 rfl) ?_
    refine lv_iconst (v := 2) hx hb dX6_readTreaty_20 (by decide +kernel) ?_
    refine lv_iconst (v := 4) hx hb dX6_readTreaty_21 (by decide +kernel) ?_
    refine x_calli (x_runV (As := [.int (nI (A + q)), .int 2, .int 4]) (rest := [.ref (bd 0)]) hF (c6_digit hI (su (su S 0 18 0) 0 15 (nI (A + 0 + 1))) A q (0 + 1) rfl hA9.1.le hAq 2 4) (cwV 3 hts gX6_readTreaty_X6_digit rfl rfl rfl (by decide +kernel) ⟨Nat.le_of_ble_eq_true rfl, Nat.le_of_ble_eq_true rfl⟩) hK hP (by decide) rfl rfl rfl hl.1 rfl (Nat.le_of_ble_eq_true rfl) dX6_readTreaty_22 ⟨Nat.zero_le _, Nat.zero_le _⟩) hS hAd (fun r22 S22 H locs hw hP _ hS => ?_)
    rw [show (48 : Int32) + 2 = 50 from by decide +kernel, show (48 : Int32) + 4 = 52 from by decide +kernel] at hw
    obtain ⟨hw, eS22⟩ := hw
    by_cases q22 : tko q (0 + 1) (S 3 (A + (0 + 1))) 50 52 = true
    · have eS22 : S22 = (su (su (su S 0 18 0) 0 15 (nI (A + 0 + 1))) 0 15 (nI (A + (0 + 1) + 1))) := eS22.trans (if_pos q22)
      rw [eS22] at hP
      have hw : r22 = S 3 (A + (0 + 1)) - 48 := hw.trans (if_pos q22)
      subst hw
      have hA22 : tAt cd q (0 + 1 + 1) (2, 0, 0) := hA9.step (tko_t q22).1 (by rw [okp1, ← hcd _ (tko_t q22).1]; exact (tko_t q22).2)
      have k1 := hd_C (tko_t q22).2
      refine x_put hx hb hts hinX6 tyX6 tyX6_ok nmX6 hown hK hI hAd hP hS 0 (by decide) rfl rfl 16 (by decide) (hts _ (List.mem_of_getElem? (i := 2) rfl)) rfl (upd ((su (su (su S 0 18 0) 0 15 (nI (A + 0 + 1))) 0 15 (nI (A + (0 + 1) + 1))) 0) 16 (S 3 (A + (0 + 1)) - 48)) rfl rfl rfl (Nat.le_of_ble_eq_true rfl) dX6_readTreaty_25 (fun H locs hP hS => ?_)
      have hP : va_P (dC, dI) vwCl (xW (mLy cI cZ bd) 18 bd (su (su (su (su S 0 18 0) 0 15 (nI (A + 0 + 1))) 0 15 (nI (A + (0 + 1) + 1))) 0 16 (S 3 (A + (0 + 1)) - 48))) H := hP
      refine lv_aload_n hx hb dX6_readTreaty_28 rfl (lv_at hl 0 rfl) ?_
      refine x_get (v := .int (S 3 (A + (0 + 1)) - 48)) hx hb hts hinX6 hown hK hP 0 (by decide) rfl rfl 16 (by decide) (hts _ (List.mem_of_getElem? (i := 2) rfl)) rfl dX6_readTreaty_29 ?_
      refine lv_bipush (v := (-9)) hx hb dX6_readTreaty_32 (by decide +kernel) ?_
      refine lv_icmp_ne (tgt := 39) hx hb dX6_readTreaty_34 (by decide) (fun _ => ?_) (fun hc => absurd hc (k1.2.2.2.2.2))
      refine lv_aload_n hx hb dX6_readTreaty_39 rfl (lv_at hl 0 rfl) ?_
      refine lv_aload_n hx hb dX6_readTreaty_40 rfl (lv_at hl 0 rfl) ?_
      refine lv_iload_n hx hb dX6_readTreaty_41 rfl (lv_at hl 1 rfl) ?_
      refine lv_iconst (v := 1) hx hb dX6_readTreaty_42 (by decide +kernel) ?_
      refine lv_bipush (v := 6) hx hb dX6_readTreaty_43 (by decide +kernel) ?_
      refine x_calli (x_runV (As := [.int (nI (A + q)), .int 1, .int 6]) (rest := [.ref (bd 0)]) hF (c6_digit hI (su (su (su (su S 0 18 0) 0 15 (nI (A + 0 + 1))) 0 15 (nI (A + (0 + 1) + 1))) 0 16 (S 3 (A + (0 + 1)) - 48)) A q (0 + 1 + 1) rfl hA22.1.le hAq 1 6) (cwV 3 hts gX6_readTreaty_X6_digit rfl rfl rfl (by decide +kernel) ⟨Nat.le_of_ble_eq_true rfl, Nat.le_of_ble_eq_true rfl⟩) hK hP (by decide) rfl rfl rfl hl.1 rfl (Nat.le_of_ble_eq_true rfl) dX6_readTreaty_45 ⟨Nat.zero_le _, Nat.zero_le _⟩) hS hAd (fun r45 S45 H locs hw hP _ hS => ?_)
      rw [show (48 : Int32) + 1 = 49 from by decide +kernel, show (48 : Int32) + 6 = 54 from by decide +kernel] at hw
      obtain ⟨hw, eS45⟩ := hw
      by_cases q45 : tko q (0 + 1 + 1) (S 3 (A + (0 + 1 + 1))) 49 54 = true
      · have eS45 : S45 = (su (su (su (su (su S 0 18 0) 0 15 (nI (A + 0 + 1))) 0 15 (nI (A + (0 + 1) + 1))) 0 16 (S 3 (A + (0 + 1)) - 48)) 0 15 (nI (A + (0 + 1 + 1) + 1))) := eS45.trans (if_pos q45)
        rw [eS45] at hP
        have hw : r45 = S 3 (A + (0 + 1 + 1)) - 48 := hw.trans (if_pos q45)
        subst hw
        have hA45 : tAt cd q (0 + 1 + 1 + 1) (3, 0, 0) := hA22.step (tko_t q45).1 (by rw [okp2, ← hcd _ (tko_t q45).1]; exact (tko_t q45).2)
        have k2 := hd_Y (tko_t q45).2
        refine x_put hx hb hts hinX6 tyX6 tyX6_ok nmX6 hown hK hI hAd hP hS 0 (by decide) rfl rfl 17 (by decide) (hts _ (List.mem_of_getElem? (i := 3) rfl)) rfl (upd ((su (su (su (su (su S 0 18 0) 0 15 (nI (A + 0 + 1))) 0 15 (nI (A + (0 + 1) + 1))) 0 16 (S 3 (A + (0 + 1)) - 48)) 0 15 (nI (A + (0 + 1 + 1) + 1))) 0) 17 (S 3 (A + (0 + 1 + 1)) - 48)) rfl rfl rfl (Nat.le_of_ble_eq_true rfl) dX6_readTreaty_48 (fun H locs hP hS => ?_)
        have hP : va_P (dC, dI) vwCl (xW (mLy cI cZ bd) 18 bd (su (su (su (su (su (su S 0 18 0) 0 15 (nI (A + 0 + 1))) 0 15 (nI (A + (0 + 1) + 1))) 0 16 (S 3 (A + (0 + 1)) - 48)) 0 15 (nI (A + (0 + 1 + 1) + 1))) 0 17 (S 3 (A + (0 + 1 + 1)) - 48))) H := hP
        refine lv_aload_n hx hb dX6_readTreaty_51 rfl (lv_at hl 0 rfl) ?_
        refine x_get (v := .int (S 3 (A + (0 + 1 + 1)) - 48)) hx hb hts hinX6 hown hK hP 0 (by decide) rfl rfl 17 (by decide) (hts _ (List.mem_of_getElem? (i := 3) rfl)) rfl dX6_readTreaty_52 ?_
        refine lv_bipush (v := (-9)) hx hb dX6_readTreaty_55 (by decide +kernel) ?_
        refine lv_icmp_ne (tgt := 62) hx hb dX6_readTreaty_57 (by decide) (fun _ => ?_) (fun hc => absurd hc (k2.2.2.2.2.2))
        refine lv_iconst (v := 0) hx hb dX6_readTreaty_62 (by decide +kernel) ?_
        refine lv_istore_n (lv' := [(2, .int 0), (0, .ref (bd 0)), (1, .int (nI (A + q)))]) hx hb dX6_readTreaty_63 rfl hl (by decide) rfl (fun ls hl => ?_)
        have j1 : nN (S 3 (A + 1)) - 48 = cC cd := by rw [hcd 1 (tko_t q22).1]; rfl
        have j2 : nN (S 3 (A + 2)) - 48 = cY cd := by rw [hcd 2 (tko_t q45).1]; rfl
        rw [show 0 + 1 = 1 from rfl, j1] at k1
        rw [show 0 + 1 + 1 = 2 from rfl, j2] at k2
        exact L64 (cC cd) 0 _ (Nat.zero_add _) (by rw [nxp_in (by omega), Nat.zero_mul]; exact hA45) (by rw [Nat.zero_mul]; rfl) k1.2.1 k2.2.1 rfl ((((((frmM.rf.at 18 _ (Or.inr (Or.inr (Or.inr rfl)))).at 15 _ (Or.inl rfl)).at 15 _ (Or.inl rfl)).at 16 _ (Or.inr (Or.inl rfl))).at 15 _ (Or.inl rfl)).at 17 _ (Or.inr (Or.inr (Or.inl rfl)))) (fun c' y' h => absurd h (Nat.not_lt_zero _)) ⟨k1.2.2.1, k1.2.2.2.1, k2.2.2.1, k2.2.2.2.1⟩ H locs ls hP hS (lv_sub hl [1, 2, 0] rfl)
      · have eS45 : S45 = (su (su (su (su S 0 18 0) 0 15 (nI (A + 0 + 1))) 0 15 (nI (A + (0 + 1) + 1))) 0 16 (S 3 (A + (0 + 1)) - 48)) := eS45.trans (if_neg q45)
        rw [eS45] at hP
        have hw : r45 = -9 := hw.trans (if_neg q45)
        subst hw
        have hB := hA22.bad (fun z => tko_f q45 ⟨z.1, by have z2 := z.2; rw [okp2, ← hcd _ z.1] at z2; exact z2⟩) (fun _ s hs z => by simp at z)
        refine x_put hx hb hts hinX6 tyX6 tyX6_ok nmX6 hown hK hI hAd hP hS 0 (by decide) rfl rfl 17 (by decide) (hts _ (List.mem_of_getElem? (i := 3) rfl)) rfl (upd ((su (su (su (su S 0 18 0) 0 15 (nI (A + 0 + 1))) 0 15 (nI (A + (0 + 1) + 1))) 0 16 (S 3 (A + (0 + 1)) - 48)) 0) 17 (-9)) rfl rfl rfl (Nat.le_of_ble_eq_true rfl) dX6_readTreaty_48 (fun H locs hP hS => ?_)
        have hP : va_P (dC, dI) vwCl (xW (mLy cI cZ bd) 18 bd (su (su (su (su (su S 0 18 0) 0 15 (nI (A + 0 + 1))) 0 15 (nI (A + (0 + 1) + 1))) 0 16 (S 3 (A + (0 + 1)) - 48)) 0 17 (-9))) H := hP
        refine lv_aload_n hx hb dX6_readTreaty_51 rfl (lv_at hl 0 rfl) ?_
        refine x_get (v := .int (-9)) hx hb hts hinX6 hown hK hP 0 (by decide) rfl rfl 17 (by decide) (hts _ (List.mem_of_getElem? (i := 3) rfl)) rfl dX6_readTreaty_52 ?_
        refine lv_bipush (v := (-9)) hx hb dX6_readTreaty_55 (by decide +kernel) ?_
        refine lv_icmp_ne (tgt := 62) hx hb dX6_readTreaty_57 (by decide) (fun hc => absurd (by decide) hc) (fun _ => ?_)
        refine lv_iconst (v := 0) hx hb dX6_readTreaty_60 (by decide +kernel) ?_
        refine x_zret hx hb hr hlocks hP hS dX6_readTreaty_61 (Or.inl rfl) ?_
        exact Or.inr ⟨rfl, _, hB, rfl, (((((frmM.rf.at 18 _ (Or.inr (Or.inr (Or.inr rfl)))).at 15 _ (Or.inl rfl)).at 15 _ (Or.inl rfl)).at 16 _ (Or.inr (Or.inl rfl))).at 17 _ (Or.inr (Or.inr (Or.inl rfl))))⟩
    · have eS22 : S22 = (su (su S 0 18 0) 0 15 (nI (A + 0 + 1))) := eS22.trans (if_neg q22)
      rw [eS22] at hP
      have hw : r22 = -9 := hw.trans (if_neg q22)
      subst hw
      have hB := hA9.bad (fun z => tko_f q22 ⟨z.1, by have z2 := z.2; rw [okp1, ← hcd _ z.1] at z2; exact z2⟩) (fun _ s hs z => by simp at z)
      refine x_put hx hb hts hinX6 tyX6 tyX6_ok nmX6 hown hK hI hAd hP hS 0 (by decide) rfl rfl 16 (by decide) (hts _ (List.mem_of_getElem? (i := 2) rfl)) rfl (upd ((su (su S 0 18 0) 0 15 (nI (A + 0 + 1))) 0) 16 (-9)) rfl rfl rfl (Nat.le_of_ble_eq_true rfl) dX6_readTreaty_25 (fun H locs hP hS => ?_)
      have hP : va_P (dC, dI) vwCl (xW (mLy cI cZ bd) 18 bd (su (su (su S 0 18 0) 0 15 (nI (A + 0 + 1))) 0 16 (-9))) H := hP
      refine lv_aload_n hx hb dX6_readTreaty_28 rfl (lv_at hl 0 rfl) ?_
      refine x_get (v := .int (-9)) hx hb hts hinX6 hown hK hP 0 (by decide) rfl rfl 16 (by decide) (hts _ (List.mem_of_getElem? (i := 2) rfl)) rfl dX6_readTreaty_29 ?_
      refine lv_bipush (v := (-9)) hx hb dX6_readTreaty_32 (by decide +kernel) ?_
      refine lv_icmp_ne (tgt := 39) hx hb dX6_readTreaty_34 (by decide) (fun hc => absurd (by decide) hc) (fun _ => ?_)
      refine lv_iconst (v := 0) hx hb dX6_readTreaty_37 (by decide +kernel) ?_
      refine x_zret hx hb hr hlocks hP hS dX6_readTreaty_38 (Or.inl rfl) ?_
      exact Or.inr ⟨rfl, _, hB, rfl, (((frmM.rf.at 18 _ (Or.inr (Or.inr (Or.inr rfl)))).at 15 _ (Or.inl rfl)).at 16 _ (Or.inr (Or.inl rfl)))⟩
  · have eS9 : S9 = (su S 0 18 0) := eS9.trans (if_neg q9)
    rw [eS9] at hP
    have hw : r9 = 0 := hw.trans (if_neg q9)
    subst hw
    have hB := (tat0 cd q).bad (fun z => tko_f q9 ⟨z.1, by have z2 := z.2; rw [okp0, ← hcd _ z.1] at z2; exact z2⟩) (fun _ s hs z => by simp at z)
    refine lv_if_ne (tgt := 17) hx hb dX6_readTreaty_12 (by decide) (fun hc => absurd (by decide) hc) (fun _ => ?_)
    refine lv_iconst (v := 0) hx hb dX6_readTreaty_15 (by decide +kernel) ?_
    refine x_zret hx hb hr hlocks hP hS dX6_readTreaty_16 (Or.inl rfl) ?_
    exact Or.inr ⟨rfl, _, hB, hat, (frmM.rf.at 18 _ (Or.inr (Or.inr (Or.inr rfl))))⟩

end M9
