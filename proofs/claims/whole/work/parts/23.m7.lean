section M7
variable {l : Launch} {dC : Nat → ClassId} {dI : Nat → Nat → Nat} {cI cZ cS cG : ClassId} {ad bd : Nat → Nat}
set_option maxHeartbeats 4000000 in
set_option maxRecDepth 100000 in
theorem c6_copy_a (hI : xI 18 bd) (S : xSt) (k0 o0 : Nat) (hk0 : k0 < 4) (ho0 : o0 < 4) (h1 : ¬ S 1 k0 = -9) (h2 : ¬ S 1 o0 = -9) (h3 : S 1 k0 = S 1 o0) (L1 L2 : Nat) (hL1 : S 2 k0 = nI L1) (hL2 : S 2 o0 = nI L2) (hl1 : L1 ≤ 60) (hl2 : L2 ≤ 60) (a b m0 : Nat) (ham : a + m0 ≤ L1) (hbm : b + m0 ≤ L2) (hab : b ≤ a) : xMi l yX6_copy wsX6_copy ({ frames := 2, cells := 0, slots := 0, locals := 42 }) (dC, dI) vwCl (tyl cI cZ cS cG) (mLy cI cZ bd) 18 bd [.ref (bd 0), .int (nI k0), .int (nI a), .int (nI o0), .int (nI b), .int (nI m0)] S (fun r S' => r = nI m0 ∧ S' = (sr (su S 0 0 0) 3 (va_cpy (S 3) (S 3) (60 * k0 + a) (60 * o0 + b) m0))) := by
  refine xM_of (cc := cX6_copy) (nL := 10) (ret := (some .int)) (by decide) rfl (Nat.le_of_ble_eq_true rfl) ?_
  intro p e s m below meth c ls B hl hK hP
  obtain ⟨hx, hb, hml, hown, hts, hr, hlocks⟩ := B
  have hl : lv_has ls 10 [(0, .ref (bd 0)), (1, .int (nI k0)), (2, .int (nI a)), (3, .int (nI o0)), (4, .int (nI b)), (5, .int (nI m0))] := hl
  have hS : va_S (xA 18 bd) s.heap s.heap [] := va_S.rf
  have hAd : ∀ k, k < 18 → xA 18 bd (bd k) := xA_in
  have hinX6 : ∀ w ∈ wsX60, w ∈ wsX6_copy := fun _ h => List.mem_cons_of_mem _ (List.mem_append_right _ h)
  have hF : CallFix p m c cX6_copy 10 s _ wsX6_copy RX6 := ⟨hx, hb, hml, hown, hts⟩
  have L166 : ∀ (n : Nat) (q : Nat) (hi : q + n = m0) (H : Heap) (locs : List Loc) (ls : Array Slot), va_P (dC, dI) vwCl (xW (mLy cI cZ bd) 18 bd (sr (su S 0 0 0) 3 (va_cpy (S 3) (S 3) (60 * k0 + a) (60 * o0 + b) q))) H → va_S (xA 18 bd) s.heap H locs → lv_has ls 10 [(0, .ref (bd 0)), (1, .int (nI k0)), (2, .int (nI a)), (3, .int (nI o0)), (4, .int (nI b)), (5, .int (nI m0)), (7, .int 0), (8, .int (nI q))] → W p l e ({ frames := 2, cells := 0, slots := 0, locals := 42 }) s m ([.ref (bd 0), .int (nI k0), .int (nI a), .int (nI o0), .int (nI b), .int (nI m0)] : List Value).toArray below meth c H locs 0 0 (MQ below (xQi (dC, dI) vwCl (mLy cI cZ bd) 18 bd (fun r S' => r = nI m0 ∧ S' = (sr (su S 0 0 0) 3 (va_cpy (S 3) (S 3) (60 * k0 + a) (60 * o0 + b) m0)))) ([.ref (bd 0), .int (nI k0), .int (nI a), .int (nI o0), .int (nI b), .int (nI m0)] : List Value).toArray s 0 0 (xA 18 bd)) (F0 m 166 ls []) := by
    intro n
    induction n with
    | zero =>
      intro q hi H locs ls hP hS hl
      refine lv_iload hx hb dX6_copy_166 (lv_at hl 7 rfl) ?_
      refine lv_iload hx hb dX6_copy_168 (lv_at hl 5 rfl) ?_
      refine lv_icmp_ge (tgt := 227) hx hb dX6_copy_170 (by decide) (fun _ => ?_) (fun hc => absurd (nI_le (by omega) (by omega)) hc)
      refine lv_iload hx hb dX6_copy_227 (lv_at hl 5 rfl) ?_
      refine x_iret hx hb hr hlocks hP hS dX6_copy_229 ?_
      exact ⟨rfl, by rw [show q = m0 by omega]⟩
    | succ n ih =>
      intro q hi H locs ls hP hS hl
      refine lv_iload hx hb dX6_copy_166 (lv_at hl 7 rfl) ?_
      refine lv_iload hx hb dX6_copy_168 (lv_at hl 5 rfl) ?_
      refine lv_icmp_ge (tgt := 227) hx hb dX6_copy_170 (by decide) (fun hc => absurd hc (nI_ge (by omega) (by omega))) (fun _ => ?_)
      refine lv_iload hx hb dX6_copy_173 (lv_at hl 6 rfl) ?_
      refine lv_if_eq (tgt := 188) hx hb dX6_copy_175 (by decide) (fun _ => ?_) (fun hc => absurd (by decide) hc)
      refine lv_iload hx hb dX6_copy_188 (lv_at hl 7 rfl) ?_
      refine lv_istore (lv' := [(9, .int (nI q)), (0, .ref (bd 0)), (1, .int (nI k0)), (2, .int (nI a)), (3, .int (nI o0)), (4, .int (nI b)), (5, .int (nI m0)), (7, .int 0), (8, .int (nI q))]) hx hb dX6_copy_190 hl (by decide) rfl (fun ls hl => ?_)
      refine lv_aload_n hx hb dX6_copy_192 rfl (lv_at hl 1 rfl) ?_
      refine x_get (v := .ref (bd 3)) hx hb hts hinX6 hown hK hP 0 (by decide) rfl rfl 4 (by decide) (hts _ (List.mem_of_getElem? (i := 4) rfl)) rfl dX6_copy_193 ?_
      refine lv_bipush (v := 60) hx hb dX6_copy_196 (by decide +kernel) ?_
      refine lv_iload_n hx hb dX6_copy_198 rfl (lv_at hl 4 rfl) ?_
      refine lv_imul hx hb dX6_copy_199 ?_
      refine lv_iload hx hb dX6_copy_200 (lv_at hl 5 rfl) ?_
      refine lv_iadd hx hb dX6_copy_202 ?_
      refine lv_iload hx hb dX6_copy_203 (lv_at hl 0 rfl) ?_
      refine lv_iadd hx hb dX6_copy_205 ?_
      refine lv_aload_n hx hb dX6_copy_206 rfl (lv_at hl 1 rfl) ?_
      refine x_get (v := .ref (bd 3)) hx hb hts hinX6 hown hK hP 0 (by decide) rfl rfl 4 (by decide) (hts _ (List.mem_of_getElem? (i := 4) rfl)) rfl dX6_copy_207 ?_
      refine lv_bipush (v := 60) hx hb dX6_copy_210 (by decide +kernel) ?_
      refine lv_iload_n hx hb dX6_copy_212 rfl (lv_at hl 2 rfl) ?_
      refine lv_imul hx hb dX6_copy_213 ?_
      refine lv_iload_n hx hb dX6_copy_214 rfl (lv_at hl 3 rfl) ?_
      refine lv_iadd hx hb dX6_copy_215 ?_
      refine lv_iload hx hb dX6_copy_216 (lv_at hl 0 rfl) ?_
      refine lv_iadd hx hb dX6_copy_218 ?_
      refine x_iald (v := (va_cpy (S 3) (S 3) (60 * k0 + a) (60 * o0 + b) q) (60 * k0 + a + (q))) hx hb hK hP 3 0 (by decide) rfl rfl (60 * k0 + a + (q)) (ix60b _ _ _) (by omega) (by decide) rfl dX6_copy_219 ?_
      refine x_iast hx hb hK hI hAd hP hS 3 0 (by decide) (fun _ => rfl) rfl (60 * o0 + b + (q)) (ix60b _ _ _) (by omega) (by decide) dX6_copy_220 (fun H locs hP hS => ?_)
      refine lv_iinc (v := nI (q + 1)) (lv' := [(8, .int (nI (q + 1))), (9, .int (nI q)), (0, .ref (bd 0)), (1, .int (nI k0)), (2, .int (nI a)), (3, .int (nI o0)), (4, .int (nI b)), (5, .int (nI m0)), (7, .int 0)]) hx hb dX6_copy_221 hl (k := 8) rfl (nI_1 _) (by decide) rfl (fun ls hl => ?_)
      refine lv_goto (tgt := 166) hx hb dX6_copy_224 (by decide) ?_
      have eST : (su (sr (su S 0 0 0) 3 (va_cpy (S 3) (S 3) (60 * k0 + a) (60 * o0 + b) q)) 3 (60 * o0 + b + (q)) ((va_cpy (S 3) (S 3) (60 * k0 + a) (60 * o0 + b) q) (60 * k0 + a + (q)))) = (sr (su S 0 0 0) 3 (va_cpy (S 3) (S 3) (60 * k0 + a) (60 * o0 + b) (q + 1))) := by rw [su, sr_self, sr_sr]; exact congrArg (sr (su S 0 0 0) 3) (cpy_f (by omega))
      rw [eST] at hP
      exact ih (q + 1) (by omega) H locs ls hP hS (lv_sub hl [2, 3, 4, 5, 6, 7, 8, 0] rfl)
  refine lv_aload_n hx hb dX6_copy_0 rfl (lv_at hl 0 rfl) ?_
  refine lv_iconst (v := 0) hx hb dX6_copy_1 (by decide +kernel) ?_
  refine x_put hx hb hts hinX6 tyX6 tyX6_ok nmX6 hown hK hI hAd hP hS 0 (by decide) rfl rfl 0 (by decide) (hts _ (List.mem_of_getElem? (i := 1) rfl)) rfl (upd (S 0) 0 0) rfl rfl rfl (Nat.le_of_ble_eq_true rfl) dX6_copy_2 (fun H locs hP hS => ?_)
  have hP : va_P (dC, dI) vwCl (xW (mLy cI cZ bd) 18 bd (su S 0 0 0)) H := hP
  refine lv_iload_n hx hb dX6_copy_5 rfl (lv_at hl 1 rfl) ?_
  refine x_calli (x_runS (As := [.int (nI k0)]) (rest := []) hF (c6_isSheet hI (su S 0 0 0) (nI k0) ) (va_cwS 1 hts gX6_copy_X6_isSheet rfl rfl rfl (by decide +kernel) ⟨Nat.le_of_ble_eq_true rfl, Nat.le_of_ble_eq_true rfl⟩) hK hP rfl hl.1 rfl (Nat.le_of_ble_eq_true rfl) dX6_copy_6 ⟨Nat.zero_le _, Nat.zero_le _⟩) hS hAd (fun r6 S6 H locs hw hP _ hS => ?_)
  obtain ⟨hw, eS6⟩ := hw
  rw [eS6] at hP
  by_cases q6 : wit (nI k0) 0 3 = true
  · have hw : r6 = 1 := hw.trans (if_pos q6)
    subst hw
    refine lv_if_eq (tgt := 19) hx hb dX6_copy_9 (by decide) (fun hc => absurd hc (by decide)) (fun _ => ?_)
    refine lv_iload_n hx hb dX6_copy_12 rfl (lv_at hl 3 rfl) ?_
    refine x_calli (x_runS (As := [.int (nI o0)]) (rest := []) hF (c6_isSheet hI (su S 0 0 0) (nI o0) ) (va_cwS 1 hts gX6_copy_X6_isSheet rfl rfl rfl (by decide +kernel) ⟨Nat.le_of_ble_eq_true rfl, Nat.le_of_ble_eq_true rfl⟩) hK hP rfl hl.1 rfl (Nat.le_of_ble_eq_true rfl) dX6_copy_13 ⟨Nat.zero_le _, Nat.zero_le _⟩) hS hAd (fun r13 S13 H locs hw hP _ hS => ?_)
    obtain ⟨hw, eS13⟩ := hw
    rw [eS13] at hP
    by_cases q13 : wit (nI o0) 0 3 = true
    · have hw : r13 = 1 := hw.trans (if_pos q13)
      subst hw
      refine lv_if_ne (tgt := 21) hx hb dX6_copy_16 (by decide) (fun _ => ?_) (fun hc => absurd hc (by decide))
      refine lv_aload_n hx hb dX6_copy_21 rfl (lv_at hl 0 rfl) ?_
      refine x_get (v := .ref (bd 1)) hx hb hts hinX6 hown hK hP 0 (by decide) rfl rfl 2 (by decide) (hts _ (List.mem_of_getElem? (i := 2) rfl)) rfl dX6_copy_22 ?_
      refine lv_iload_n hx hb dX6_copy_25 rfl (lv_at hl 1 rfl) ?_
      refine x_iald (v := S 1 k0) hx hb hK hP 1 0 (by decide) rfl rfl k0 rfl (by omega) (by decide) rfl dX6_copy_26 ?_
      refine lv_bipush (v := (-9)) hx hb dX6_copy_27 (by decide +kernel) ?_
      refine lv_icmp_eq (tgt := 43) hx hb dX6_copy_29 (by decide) (fun hc => absurd hc (h1)) (fun _ => ?_)
      refine lv_aload_n hx hb dX6_copy_32 rfl (lv_at hl 0 rfl) ?_
      refine x_get (v := .ref (bd 1)) hx hb hts hinX6 hown hK hP 0 (by decide) rfl rfl 2 (by decide) (hts _ (List.mem_of_getElem? (i := 2) rfl)) rfl dX6_copy_33 ?_
      refine lv_iload_n hx hb dX6_copy_36 rfl (lv_at hl 3 rfl) ?_
      refine x_iald (v := S 1 o0) hx hb hK hP 1 0 (by decide) rfl rfl o0 rfl (by omega) (by decide) rfl dX6_copy_37 ?_
      refine lv_bipush (v := (-9)) hx hb dX6_copy_38 (by decide +kernel) ?_
      refine lv_icmp_ne (tgt := 49) hx hb dX6_copy_40 (by decide) (fun _ => ?_) (fun hc => absurd hc (h2))
      refine lv_aload_n hx hb dX6_copy_49 rfl (lv_at hl 0 rfl) ?_
      refine x_get (v := .ref (bd 1)) hx hb hts hinX6 hown hK hP 0 (by decide) rfl rfl 2 (by decide) (hts _ (List.mem_of_getElem? (i := 2) rfl)) rfl dX6_copy_50 ?_
      refine lv_iload_n hx hb dX6_copy_53 rfl (lv_at hl 1 rfl) ?_
      refine x_iald (v := S 1 k0) hx hb hK hP 1 0 (by decide) rfl rfl k0 rfl (by omega) (by decide) rfl dX6_copy_54 ?_
      refine lv_aload_n hx hb dX6_copy_55 rfl (lv_at hl 0 rfl) ?_
      refine x_get (v := .ref (bd 1)) hx hb hts hinX6 hown hK hP 0 (by decide) rfl rfl 2 (by decide) (hts _ (List.mem_of_getElem? (i := 2) rfl)) rfl dX6_copy_56 ?_
      refine lv_iload_n hx hb dX6_copy_59 rfl (lv_at hl 3 rfl) ?_
      refine x_iald (v := S 1 o0) hx hb hK hP 1 0 (by decide) rfl rfl o0 rfl (by omega) (by decide) rfl dX6_copy_60 ?_
      refine lv_icmp_eq (tgt := 70) hx hb dX6_copy_61 (by decide) (fun _ => ?_) (fun hc => absurd (h3) hc)
      refine lv_iload_n hx hb dX6_copy_70 rfl (lv_at hl 2 rfl) ?_
      refine lv_if_lt (tgt := 109) hx hb dX6_copy_71 (by decide) (fun hc => absurd hc (nI_pos (by omega))) (fun _ => ?_)
      refine lv_iload hx hb dX6_copy_74 (lv_at hl 4 rfl) ?_
      refine lv_if_lt (tgt := 109) hx hb dX6_copy_76 (by decide) (fun hc => absurd hc (nI_pos (by omega))) (fun _ => ?_)
      refine lv_iload hx hb dX6_copy_79 (lv_at hl 5 rfl) ?_
      refine lv_if_lt (tgt := 109) hx hb dX6_copy_81 (by decide) (fun hc => absurd hc (nI_pos (by omega))) (fun _ => ?_)
      refine lv_iload_n hx hb dX6_copy_84 rfl (lv_at hl 2 rfl) ?_
      refine lv_aload_n hx hb dX6_copy_85 rfl (lv_at hl 0 rfl) ?_
      refine x_get (v := .ref (bd 2)) hx hb hts hinX6 hown hK hP 0 (by decide) rfl rfl 3 (by decide) (hts _ (List.mem_of_getElem? (i := 3) rfl)) rfl dX6_copy_86 ?_
      refine lv_iload_n hx hb dX6_copy_89 rfl (lv_at hl 1 rfl) ?_
      refine x_iald (v := nI L1) hx hb hK hP 2 0 (by decide) rfl rfl k0 rfl (by omega) (by decide) hL1 dX6_copy_90 ?_
      refine lv_icmp_gt (tgt := 109) hx hb dX6_copy_91 (by decide) (fun hc => absurd hc (nI_nlt (by omega) (by omega))) (fun _ => ?_)
      refine lv_iload hx hb dX6_copy_94 (lv_at hl 4 rfl) ?_
      refine lv_aload_n hx hb dX6_copy_96 rfl (lv_at hl 0 rfl) ?_
      refine x_get (v := .ref (bd 2)) hx hb hts hinX6 hown hK hP 0 (by decide) rfl rfl 3 (by decide) (hts _ (List.mem_of_getElem? (i := 3) rfl)) rfl dX6_copy_97 ?_
      refine lv_iload_n hx hb dX6_copy_100 rfl (lv_at hl 3 rfl) ?_
      refine x_iald (v := nI L2) hx hb hK hP 2 0 (by decide) rfl rfl o0 rfl (by omega) (by decide) hL2 dX6_copy_101 ?_
      refine lv_icmp_gt (tgt := 109) hx hb dX6_copy_102 (by decide) (fun hc => absurd hc (nI_nlt (by omega) (by omega))) (fun _ => ?_)
      refine lv_iconst (v := 1) hx hb dX6_copy_105 (by decide +kernel) ?_
      refine lv_goto (tgt := 110) hx hb dX6_copy_106 (by decide) ?_
      refine lv_istore (lv' := [(6, .int 1), (0, .ref (bd 0)), (1, .int (nI k0)), (2, .int (nI a)), (3, .int (nI o0)), (4, .int (nI b)), (5, .int (nI m0))]) hx hb dX6_copy_110 hl (by decide) rfl (fun ls hl => ?_)
      refine lv_iload hx hb dX6_copy_112 (lv_at hl 0 rfl) ?_
      refine lv_if_eq (tgt := 144) hx hb dX6_copy_114 (by decide) (fun hc => absurd hc (by decide)) (fun _ => ?_)
      refine lv_iload hx hb dX6_copy_117 (lv_at hl 6 rfl) ?_
      refine lv_aload_n hx hb dX6_copy_119 rfl (lv_at hl 1 rfl) ?_
      refine x_get (v := .ref (bd 2)) hx hb hts hinX6 hown hK hP 0 (by decide) rfl rfl 3 (by decide) (hts _ (List.mem_of_getElem? (i := 3) rfl)) rfl dX6_copy_120 ?_
      refine lv_iload_n hx hb dX6_copy_123 rfl (lv_at hl 2 rfl) ?_
      refine x_iald (v := nI L1) hx hb hK hP 2 0 (by decide) rfl rfl k0 rfl (by omega) (by decide) hL1 dX6_copy_124 ?_
      refine lv_iload_n hx hb dX6_copy_125 rfl (lv_at hl 3 rfl) ?_
      refine lv_isub hx hb dX6_copy_126 ?_
      refine lv_icmp_gt (tgt := 144) hx hb dX6_copy_127 (by decide) (fun hc => absurd hc (by rw [pk_sub (by omega)]; exact nI_nlt (by omega) (by omega))) (fun _ => ?_)
      refine lv_iload hx hb dX6_copy_130 (lv_at hl 6 rfl) ?_
      refine lv_aload_n hx hb dX6_copy_132 rfl (lv_at hl 1 rfl) ?_
      refine x_get (v := .ref (bd 2)) hx hb hts hinX6 hown hK hP 0 (by decide) rfl rfl 3 (by decide) (hts _ (List.mem_of_getElem? (i := 3) rfl)) rfl dX6_copy_133 ?_
      refine lv_iload_n hx hb dX6_copy_136 rfl (lv_at hl 4 rfl) ?_
      refine x_iald (v := nI L2) hx hb hK hP 2 0 (by decide) rfl rfl o0 rfl (by omega) (by decide) hL2 dX6_copy_137 ?_
      refine lv_iload hx hb dX6_copy_138 (lv_at hl 5 rfl) ?_
      refine lv_isub hx hb dX6_copy_140 ?_
      refine lv_icmp_le (tgt := 150) hx hb dX6_copy_141 (by decide) (fun _ => ?_) (fun hc => absurd (by rw [pk_sub (by omega)]; exact nI_le (by omega) (by omega)) hc)
      refine lv_iload_n hx hb dX6_copy_150 rfl (lv_at hl 3 rfl) ?_
      refine lv_iload hx hb dX6_copy_151 (lv_at hl 5 rfl) ?_
      refine lv_icmp_ge (tgt := 160) hx hb dX6_copy_153 (by decide) (fun _ => ?_) (fun hc => absurd (nI_le hab (by omega)) hc)
      refine lv_iconst (v := 0) hx hb dX6_copy_160 (by decide +kernel) ?_
      refine lv_istore (lv' := [(7, .int 0), (6, .int 1), (0, .ref (bd 0)), (1, .int (nI k0)), (2, .int (nI a)), (3, .int (nI o0)), (4, .int (nI b)), (5, .int (nI m0))]) hx hb dX6_copy_161 hl (by decide) rfl (fun ls hl => ?_)
      refine lv_iconst (v := 0) hx hb dX6_copy_163 (by decide +kernel) ?_
      refine lv_istore (lv' := [(8, .int 0), (7, .int 0), (6, .int 1), (0, .ref (bd 0)), (1, .int (nI k0)), (2, .int (nI a)), (3, .int (nI o0)), (4, .int (nI b)), (5, .int (nI m0))]) hx hb dX6_copy_164 hl (by decide) rfl (fun ls hl => ?_)
      have hP : va_P (dC, dI) vwCl (xW (mLy cI cZ bd) 18 bd (sr (su S 0 0 0) 3 (va_cpy (S 3) (S 3) (60 * k0 + a) (60 * o0 + b) 0))) H := by rw [show va_cpy (S 3) (S 3) (60 * k0 + a) (60 * o0 + b) 0 = S 3 from cpy_0 _ _ _, sr_same' (show S 3 = (su S 0 0 0) 3 from rfl)]; exact hP
      exact L166 m0 0 (Nat.zero_add _) _ _ ls hP hS (lv_sub hl [3, 4, 5, 6, 7, 8, 1, 0] rfl)
    · have hw : r13 = 0 := hw.trans (if_neg q13)
      subst hw
      exact absurd (wit3_of ho0) q13
  · have hw : r6 = 0 := hw.trans (if_neg q6)
    subst hw
    exact absurd (wit3_of hk0) q6

set_option maxHeartbeats 4000000 in
set_option maxRecDepth 100000 in
theorem c6_copy_b (hI : xI 18 bd) (S : xSt) (k0 o0 : Nat) (hk0 : k0 < 4) (ho0 : o0 < 4) (h1 : ¬ S 1 k0 = -9) (h2 : ¬ S 1 o0 = -9) (h3 : S 1 k0 = S 1 o0) (L1 L2 : Nat) (hL1 : S 2 k0 = nI L1) (hL2 : S 2 o0 = nI L2) (hl1 : L1 ≤ 60) (hl2 : L2 ≤ 60) (a b m0 : Nat) (ham : a + m0 ≤ L1) (hbm : b + m0 ≤ L2) (hab : a < b) : xMi l yX6_copy wsX6_copy ({ frames := 2, cells := 0, slots := 0, locals := 42 }) (dC, dI) vwCl (tyl cI cZ cS cG) (mLy cI cZ bd) 18 bd [.ref (bd 0), .int (nI k0), .int (nI a), .int (nI o0), .int (nI b), .int (nI m0)] S (fun r S' => r = nI m0 ∧ S' = (sr (su S 0 0 0) 3 (va_cpy (S 3) (S 3) (60 * k0 + a) (60 * o0 + b) m0))) := by
  refine xM_of (cc := cX6_copy) (nL := 10) (ret := (some .int)) (by decide) rfl (Nat.le_of_ble_eq_true rfl) ?_
  intro p e s m below meth c ls B hl hK hP
  obtain ⟨hx, hb, hml, hown, hts, hr, hlocks⟩ := B
  have hl : lv_has ls 10 [(0, .ref (bd 0)), (1, .int (nI k0)), (2, .int (nI a)), (3, .int (nI o0)), (4, .int (nI b)), (5, .int (nI m0))] := hl
  have hS : va_S (xA 18 bd) s.heap s.heap [] := va_S.rf
  have hAd : ∀ k, k < 18 → xA 18 bd (bd k) := xA_in
  have hinX6 : ∀ w ∈ wsX60, w ∈ wsX6_copy := fun _ h => List.mem_cons_of_mem _ (List.mem_append_right _ h)
  have hF : CallFix p m c cX6_copy 10 s _ wsX6_copy RX6 := ⟨hx, hb, hml, hown, hts⟩
  have L166 : ∀ (n : Nat) (q : Nat) (hi : q + n = m0) (H : Heap) (locs : List Loc) (ls : Array Slot), va_P (dC, dI) vwCl (xW (mLy cI cZ bd) 18 bd (sr (su S 0 0 0) 3 (va_cpy (S 3) (S 3) ((60 * k0 + a) + (m0 - q)) ((60 * o0 + b) + (m0 - q)) q))) H → va_S (xA 18 bd) s.heap H locs → lv_has ls 10 [(0, .ref (bd 0)), (1, .int (nI k0)), (2, .int (nI a)), (3, .int (nI o0)), (4, .int (nI b)), (5, .int (nI m0)), (7, .int 1), (8, .int (nI q))] → W p l e ({ frames := 2, cells := 0, slots := 0, locals := 42 }) s m ([.ref (bd 0), .int (nI k0), .int (nI a), .int (nI o0), .int (nI b), .int (nI m0)] : List Value).toArray below meth c H locs 0 0 (MQ below (xQi (dC, dI) vwCl (mLy cI cZ bd) 18 bd (fun r S' => r = nI m0 ∧ S' = (sr (su S 0 0 0) 3 (va_cpy (S 3) (S 3) (60 * k0 + a) (60 * o0 + b) m0)))) ([.ref (bd 0), .int (nI k0), .int (nI a), .int (nI o0), .int (nI b), .int (nI m0)] : List Value).toArray s 0 0 (xA 18 bd)) (F0 m 166 ls []) := by
    intro n
    induction n with
    | zero =>
      intro q hi H locs ls hP hS hl
      refine lv_iload hx hb dX6_copy_166 (lv_at hl 7 rfl) ?_
      refine lv_iload hx hb dX6_copy_168 (lv_at hl 5 rfl) ?_
      refine lv_icmp_ge (tgt := 227) hx hb dX6_copy_170 (by decide) (fun _ => ?_) (fun hc => absurd (nI_le (by omega) (by omega)) hc)
      refine lv_iload hx hb dX6_copy_227 (lv_at hl 5 rfl) ?_
      refine x_iret hx hb hr hlocks hP hS dX6_copy_229 ?_
      exact ⟨rfl, by rw [show q = m0 by omega]; simp⟩
    | succ n ih =>
      intro q hi H locs ls hP hS hl
      refine lv_iload hx hb dX6_copy_166 (lv_at hl 7 rfl) ?_
      refine lv_iload hx hb dX6_copy_168 (lv_at hl 5 rfl) ?_
      refine lv_icmp_ge (tgt := 227) hx hb dX6_copy_170 (by decide) (fun hc => absurd hc (nI_ge (by omega) (by omega))) (fun _ => ?_)
      refine lv_iload hx hb dX6_copy_173 (lv_at hl 6 rfl) ?_
      refine lv_if_eq (tgt := 188) hx hb dX6_copy_175 (by decide) (fun hc => absurd hc (by decide)) (fun _ => ?_)
      refine lv_iload hx hb dX6_copy_178 (lv_at hl 5 rfl) ?_
      refine lv_iconst (v := 1) hx hb dX6_copy_180 (by decide +kernel) ?_
      refine lv_isub hx hb dX6_copy_181 ?_
      refine lv_iload hx hb dX6_copy_182 (lv_at hl 7 rfl) ?_
      refine lv_isub hx hb dX6_copy_184 ?_
      refine lv_goto (tgt := 190) hx hb dX6_copy_185 (by decide) ?_
      refine lv_topi (fun x190 ex190 => ?_)
      obtain rfl : x190 = nI (m0 - 1 - q) := by rw [ex190, show (1 : Int32) = nI 1 from rfl, pk_sub (by omega), pk_sub (by omega)]
      refine lv_istore (lv' := [(9, .int (nI (m0 - 1 - q))), (0, .ref (bd 0)), (1, .int (nI k0)), (2, .int (nI a)), (3, .int (nI o0)), (4, .int (nI b)), (5, .int (nI m0)), (7, .int 1), (8, .int (nI q))]) hx hb dX6_copy_190 hl (by decide) rfl (fun ls hl => ?_)
      refine lv_aload_n hx hb dX6_copy_192 rfl (lv_at hl 1 rfl) ?_
      refine x_get (v := .ref (bd 3)) hx hb hts hinX6 hown hK hP 0 (by decide) rfl rfl 4 (by decide) (hts _ (List.mem_of_getElem? (i := 4) rfl)) rfl dX6_copy_193 ?_
      refine lv_bipush (v := 60) hx hb dX6_copy_196 (by decide +kernel) ?_
      refine lv_iload_n hx hb dX6_copy_198 rfl (lv_at hl 4 rfl) ?_
      refine lv_imul hx hb dX6_copy_199 ?_
      refine lv_iload hx hb dX6_copy_200 (lv_at hl 5 rfl) ?_
      refine lv_iadd hx hb dX6_copy_202 ?_
      refine lv_iload hx hb dX6_copy_203 (lv_at hl 0 rfl) ?_
      refine lv_iadd hx hb dX6_copy_205 ?_
      refine lv_aload_n hx hb dX6_copy_206 rfl (lv_at hl 1 rfl) ?_
      refine x_get (v := .ref (bd 3)) hx hb hts hinX6 hown hK hP 0 (by decide) rfl rfl 4 (by decide) (hts _ (List.mem_of_getElem? (i := 4) rfl)) rfl dX6_copy_207 ?_
      refine lv_bipush (v := 60) hx hb dX6_copy_210 (by decide +kernel) ?_
      refine lv_iload_n hx hb dX6_copy_212 rfl (lv_at hl 2 rfl) ?_
      refine lv_imul hx hb dX6_copy_213 ?_
      refine lv_iload_n hx hb dX6_copy_214 rfl (lv_at hl 3 rfl) ?_
      refine lv_iadd hx hb dX6_copy_215 ?_
      refine lv_iload hx hb dX6_copy_216 (lv_at hl 0 rfl) ?_
      refine lv_iadd hx hb dX6_copy_218 ?_
      refine x_iald (v := (va_cpy (S 3) (S 3) ((60 * k0 + a) + (m0 - q)) ((60 * o0 + b) + (m0 - q)) q) (60 * k0 + a + (m0 - 1 - q))) hx hb hK hP 3 0 (by decide) rfl rfl (60 * k0 + a + (m0 - 1 - q)) (ix60b _ _ _) (by omega) (by decide) rfl dX6_copy_219 ?_
      refine x_iast hx hb hK hI hAd hP hS 3 0 (by decide) (fun _ => rfl) rfl (60 * o0 + b + (m0 - 1 - q)) (ix60b _ _ _) (by omega) (by decide) dX6_copy_220 (fun H locs hP hS => ?_)
      refine lv_iinc (v := nI (q + 1)) (lv' := [(8, .int (nI (q + 1))), (9, .int (nI (m0 - 1 - q))), (0, .ref (bd 0)), (1, .int (nI k0)), (2, .int (nI a)), (3, .int (nI o0)), (4, .int (nI b)), (5, .int (nI m0)), (7, .int 1)]) hx hb dX6_copy_221 hl (k := 8) rfl (nI_1 _) (by decide) rfl (fun ls hl => ?_)
      refine lv_goto (tgt := 166) hx hb dX6_copy_224 (by decide) ?_
      have eST : (su (sr (su S 0 0 0) 3 (va_cpy (S 3) (S 3) ((60 * k0 + a) + (m0 - q)) ((60 * o0 + b) + (m0 - q)) q)) 3 (60 * o0 + b + (m0 - 1 - q)) ((va_cpy (S 3) (S 3) ((60 * k0 + a) + (m0 - q)) ((60 * o0 + b) + (m0 - q)) q) (60 * k0 + a + (m0 - 1 - q)))) = (sr (su S 0 0 0) 3 (va_cpy (S 3) (S 3) ((60 * k0 + a) + (m0 - (q + 1))) ((60 * o0 + b) + (m0 - (q + 1))) (q + 1))) := by rw [su, sr_self, sr_sr]; exact congrArg (sr (su S 0 0 0) 3) (cpy_b (by omega) (by omega))
      rw [eST] at hP
      exact ih (q + 1) (by omega) H locs ls hP hS (lv_sub hl [2, 3, 4, 5, 6, 7, 8, 0] rfl)
  refine lv_aload_n hx hb dX6_copy_0 rfl (lv_at hl 0 rfl) ?_
  refine lv_iconst (v := 0) hx hb dX6_copy_1 (by decide +kernel) ?_
  refine x_put hx hb hts hinX6 tyX6 tyX6_ok nmX6 hown hK hI hAd hP hS 0 (by decide) rfl rfl 0 (by decide) (hts _ (List.mem_of_getElem? (i := 1) rfl)) rfl (upd (S 0) 0 0) rfl rfl rfl (Nat.le_of_ble_eq_true rfl) dX6_copy_2 (fun H locs hP hS => ?_)
  have hP : va_P (dC, dI) vwCl (xW (mLy cI cZ bd) 18 bd (su S 0 0 0)) H := hP
  refine lv_iload_n hx hb dX6_copy_5 rfl (lv_at hl 1 rfl) ?_
  refine x_calli (x_runS (As := [.int (nI k0)]) (rest := []) hF (c6_isSheet hI (su S 0 0 0) (nI k0) ) (va_cwS 1 hts gX6_copy_X6_isSheet rfl rfl rfl (by decide +kernel) ⟨Nat.le_of_ble_eq_true rfl, Nat.le_of_ble_eq_true rfl⟩) hK hP rfl hl.1 rfl (Nat.le_of_ble_eq_true rfl) dX6_copy_6 ⟨Nat.zero_le _, Nat.zero_le _⟩) hS hAd (fun r6 S6 H locs hw hP _ hS => ?_)
  obtain ⟨hw, eS6⟩ := hw
  rw [eS6] at hP
  by_cases q6 : wit (nI k0) 0 3 = true
  · have hw : r6 = 1 := hw.trans (if_pos q6)
    subst hw
    refine lv_if_eq (tgt := 19) hx hb dX6_copy_9 (by decide) (fun hc => absurd hc (by decide)) (fun _ => ?_)
    refine lv_iload_n hx hb dX6_copy_12 rfl (lv_at hl 3 rfl) ?_
    refine x_calli (x_runS (As := [.int (nI o0)]) (rest := []) hF (c6_isSheet hI (su S 0 0 0) (nI o0) ) (va_cwS 1 hts gX6_copy_X6_isSheet rfl rfl rfl (by decide +kernel) ⟨Nat.le_of_ble_eq_true rfl, Nat.le_of_ble_eq_true rfl⟩) hK hP rfl hl.1 rfl (Nat.le_of_ble_eq_true rfl) dX6_copy_13 ⟨Nat.zero_le _, Nat.zero_le _⟩) hS hAd (fun r13 S13 H locs hw hP _ hS => ?_)
    obtain ⟨hw, eS13⟩ := hw
    rw [eS13] at hP
    by_cases q13 : wit (nI o0) 0 3 = true
    · have hw : r13 = 1 := hw.trans (if_pos q13)
      subst hw
      refine lv_if_ne (tgt := 21) hx hb dX6_copy_16 (by decide) (fun _ => ?_) (fun hc => absurd hc (by decide))
      refine lv_aload_n hx hb dX6_copy_21 rfl (lv_at hl 0 rfl) ?_
      refine x_get (v := .ref (bd 1)) hx hb hts hinX6 hown hK hP 0 (by decide) rfl rfl 2 (by decide) (hts _ (List.mem_of_getElem? (i := 2) rfl)) rfl dX6_copy_22 ?_
      refine lv_iload_n hx hb dX6_copy_25 rfl (lv_at hl 1 rfl) ?_
      refine x_iald (v := S 1 k0) hx hb hK hP 1 0 (by decide) rfl rfl k0 rfl (by omega) (by decide) rfl dX6_copy_26 ?_
      refine lv_bipush (v := (-9)) hx hb dX6_copy_27 (by decide +kernel) ?_
      refine lv_icmp_eq (tgt := 43) hx hb dX6_copy_29 (by decide) (fun hc => absurd hc (h1)) (fun _ => ?_)
      refine lv_aload_n hx hb dX6_copy_32 rfl (lv_at hl 0 rfl) ?_
      refine x_get (v := .ref (bd 1)) hx hb hts hinX6 hown hK hP 0 (by decide) rfl rfl 2 (by decide) (hts _ (List.mem_of_getElem? (i := 2) rfl)) rfl dX6_copy_33 ?_
      refine lv_iload_n hx hb dX6_copy_36 rfl (lv_at hl 3 rfl) ?_
      refine x_iald (v := S 1 o0) hx hb hK hP 1 0 (by decide) rfl rfl o0 rfl (by omega) (by decide) rfl dX6_copy_37 ?_
      refine lv_bipush (v := (-9)) hx hb dX6_copy_38 (by decide +kernel) ?_
      refine lv_icmp_ne (tgt := 49) hx hb dX6_copy_40 (by decide) (fun _ => ?_) (fun hc => absurd hc (h2))
      refine lv_aload_n hx hb dX6_copy_49 rfl (lv_at hl 0 rfl) ?_
      refine x_get (v := .ref (bd 1)) hx hb hts hinX6 hown hK hP 0 (by decide) rfl rfl 2 (by decide) (hts _ (List.mem_of_getElem? (i := 2) rfl)) rfl dX6_copy_50 ?_
      refine lv_iload_n hx hb dX6_copy_53 rfl (lv_at hl 1 rfl) ?_
      refine x_iald (v := S 1 k0) hx hb hK hP 1 0 (by decide) rfl rfl k0 rfl (by omega) (by decide) rfl dX6_copy_54 ?_
      refine lv_aload_n hx hb dX6_copy_55 rfl (lv_at hl 0 rfl) ?_
      refine x_get (v := .ref (bd 1)) hx hb hts hinX6 hown hK hP 0 (by decide) rfl rfl 2 (by decide) (hts _ (List.mem_of_getElem? (i := 2) rfl)) rfl dX6_copy_56 ?_
      refine lv_iload_n hx hb dX6_copy_59 rfl (lv_at hl 3 rfl) ?_
      refine x_iald (v := S 1 o0) hx hb hK hP 1 0 (by decide) rfl rfl o0 rfl (by omega) (by decide) rfl dX6_copy_60 ?_
      refine lv_icmp_eq (tgt := 70) hx hb dX6_copy_61 (by decide) (fun _ => ?_) (fun hc => absurd (h3) hc)
      refine lv_iload_n hx hb dX6_copy_70 rfl (lv_at hl 2 rfl) ?_
      refine lv_if_lt (tgt := 109) hx hb dX6_copy_71 (by decide) (fun hc => absurd hc (nI_pos (by omega))) (fun _ => ?_)
      refine lv_iload hx hb dX6_copy_74 (lv_at hl 4 rfl) ?_
      refine lv_if_lt (tgt := 109) hx hb dX6_copy_76 (by decide) (fun hc => absurd hc (nI_pos (by omega))) (fun _ => ?_)
      refine lv_iload hx hb dX6_copy_79 (lv_at hl 5 rfl) ?_
      refine lv_if_lt (tgt := 109) hx hb dX6_copy_81 (by decide) (fun hc => absurd hc (nI_pos (by omega))) (fun _ => ?_)
      refine lv_iload_n hx hb dX6_copy_84 rfl (lv_at hl 2 rfl) ?_
      refine lv_aload_n hx hb dX6_copy_85 rfl (lv_at hl 0 rfl) ?_
      refine x_get (v := .ref (bd 2)) hx hb hts hinX6 hown hK hP 0 (by decide) rfl rfl 3 (by decide) (hts _ (List.mem_of_getElem? (i := 3) rfl)) rfl dX6_copy_86 ?_
      refine lv_iload_n hx hb dX6_copy_89 rfl (lv_at hl 1 rfl) ?_
      refine x_iald (v := nI L1) hx hb hK hP 2 0 (by decide) rfl rfl k0 rfl (by omega) (by decide) hL1 dX6_copy_90 ?_
      refine lv_icmp_gt (tgt := 109) hx hb dX6_copy_91 (by decide) (fun hc => absurd hc (nI_nlt (by omega) (by omega))) (fun _ => ?_)
      refine lv_iload hx hb dX6_copy_94 (lv_at hl 4 rfl) ?_
      refine lv_aload_n hx hb dX6_copy_96 rfl (lv_at hl 0 rfl) ?_
      refine x_get (v := .ref (bd 2)) hx hb hts hinX6 hown hK hP 0 (by decide) rfl rfl 3 (by decide) (hts _ (List.mem_of_getElem? (i := 3) rfl)) rfl dX6_copy_97 ?_
      refine lv_iload_n hx hb dX6_copy_100 rfl (lv_at hl 3 rfl) ?_
      refine x_iald (v := nI L2) hx hb hK hP 2 0 (by decide) rfl rfl o0 rfl (by omega) (by decide) hL2 dX6_copy_101 ?_
      refine lv_icmp_gt (tgt := 109) hx hb dX6_copy_102 (by decide) (fun hc => absurd hc (nI_nlt (by omega) (by omega))) (fun _ => ?_)
      refine lv_iconst (v := 1) hx hb dX6_copy_105 (by decide +kernel) ?_
      refine lv_goto (tgt := 110) hx hb dX6_copy_106 (by decide) ?_
      refine lv_istore (lv' := [(6, .int 1), (0, .ref (bd 0)), (1, .int (nI k0)), (2, .int (nI a)), (3, .int (nI o0)), (4, .int (nI b)), (5, .int (nI m0))]) hx hb dX6_copy_110 hl (by decide) rfl (fun ls hl => ?_)
      refine lv_iload hx hb dX6_copy_112 (lv_at hl 0 rfl) ?_
      refine lv_if_eq (tgt := 144) hx hb dX6_copy_114 (by decide) (fun hc => absurd hc (by decide)) (fun _ => ?_)
      refine lv_iload hx hb dX6_copy_117 (lv_at hl 6 rfl) ?_
      refine lv_aload_n hx hb dX6_copy_119 rfl (lv_at hl 1 rfl) ?_
      refine x_get (v := .ref (bd 2)) hx hb hts hinX6 hown hK hP 0 (by decide) rfl rfl 3 (by decide) (hts _ (List.mem_of_getElem? (i := 3) rfl)) rfl dX6_copy_120 ?_
      refine lv_iload_n hx hb dX6_copy_123 rfl (lv_at hl 2 rfl) ?_
      refine x_iald (v := nI L1) hx hb hK hP 2 0 (by decide) rfl rfl k0 rfl (by omega) (by decide) hL1 dX6_copy_124 ?_
      refine lv_iload_n hx hb dX6_copy_125 rfl (lv_at hl 3 rfl) ?_
      refine lv_isub hx hb dX6_copy_126 ?_
      refine lv_icmp_gt (tgt := 144) hx hb dX6_copy_127 (by decide) (fun hc => absurd hc (by rw [pk_sub (by omega)]; exact nI_nlt (by omega) (by omega))) (fun _ => ?_)
      refine lv_iload hx hb dX6_copy_130 (lv_at hl 6 rfl) ?_
      refine lv_aload_n hx hb dX6_copy_132 rfl (lv_at hl 1 rfl) ?_
      refine x_get (v := .ref (bd 2)) hx hb hts hinX6 hown hK hP 0 (by decide) rfl rfl 3 (by decide) (hts _ (List.mem_of_getElem? (i := 3) rfl)) rfl dX6_copy_133 ?_
      refine lv_iload_n hx hb dX6_copy_136 rfl (lv_at hl 4 rfl) ?_
      refine x_iald (v := nI L2) hx hb hK hP 2 0 (by decide) rfl rfl o0 rfl (by omega) (by decide) hL2 dX6_copy_137 ?_
      refine lv_iload hx hb dX6_copy_138 (lv_at hl 5 rfl) ?_
      refine lv_isub hx hb dX6_copy_140 ?_
      refine lv_icmp_le (tgt := 150) hx hb dX6_copy_141 (by decide) (fun _ => ?_) (fun hc => absurd (by rw [pk_sub (by omega)]; exact nI_le (by omega) (by omega)) hc)
      refine lv_iload_n hx hb dX6_copy_150 rfl (lv_at hl 3 rfl) ?_
      refine lv_iload hx hb dX6_copy_151 (lv_at hl 5 rfl) ?_
      refine lv_icmp_ge (tgt := 160) hx hb dX6_copy_153 (by decide) (fun hc => absurd hc (nI_ge hab (by omega))) (fun _ => ?_)
      refine lv_iconst (v := 1) hx hb dX6_copy_156 (by decide +kernel) ?_
      refine lv_goto (tgt := 161) hx hb dX6_copy_157 (by decide) ?_
      refine lv_istore (lv' := [(7, .int 1), (6, .int 1), (0, .ref (bd 0)), (1, .int (nI k0)), (2, .int (nI a)), (3, .int (nI o0)), (4, .int (nI b)), (5, .int (nI m0))]) hx hb dX6_copy_161 hl (by decide) rfl (fun ls hl => ?_)
      refine lv_iconst (v := 0) hx hb dX6_copy_163 (by decide +kernel) ?_
      refine lv_istore (lv' := [(8, .int 0), (7, .int 1), (6, .int 1), (0, .ref (bd 0)), (1, .int (nI k0)), (2, .int (nI a)), (3, .int (nI o0)), (4, .int (nI b)), (5, .int (nI m0))]) hx hb dX6_copy_164 hl (by decide) rfl (fun ls hl => ?_)
      have hP : va_P (dC, dI) vwCl (xW (mLy cI cZ bd) 18 bd (sr (su S 0 0 0) 3 (va_cpy (S 3) (S 3) ((60 * k0 + a) + (m0 - 0)) ((60 * o0 + b) + (m0 - 0)) 0))) H := by rw [show va_cpy (S 3) (S 3) ((60 * k0 + a) + (m0 - 0)) ((60 * o0 + b) + (m0 - 0)) 0 = S 3 from cpy_0 _ _ _, sr_same' (show S 3 = (su S 0 0 0) 3 from rfl)]; exact hP
      exact L166 m0 0 (Nat.zero_add _) _ _ ls hP hS (lv_sub hl [3, 4, 5, 6, 7, 8, 1, 0] rfl)
    · have hw : r13 = 0 := hw.trans (if_neg q13)
      subst hw
      exact absurd (wit3_of ho0) q13
  · have hw : r6 = 0 := hw.trans (if_neg q6)
    subst hw
    exact absurd (wit3_of hk0) q6

set_option maxHeartbeats 4000000 in
set_option maxRecDepth 100000 in
theorem c6_copy_f (hI : xI 18 bd) (S : xSt) (kn i on jn n : Int32) (hno : ¬ (wit kn 0 3 = true ∧ wit on 0 3 = true ∧ ¬ S 1 (nN kn) = -9 ∧ ¬ S 1 (nN on) = -9 ∧ S 1 (nN kn) = S 1 (nN on) ∧ hCs i n (S 2 (nN kn)) = true ∧ hCs jn n (S 2 (nN on)) = true)) : xMi l yX6_copy wsX6_copy ({ frames := 2, cells := 0, slots := 0, locals := 42 }) (dC, dI) vwCl (tyl cI cZ cS cG) (mLy cI cZ bd) 18 bd [.ref (bd 0), .int kn, .int i, .int on, .int jn, .int n] S (fun r S' => r = (if wit kn 0 3 ∧ wit on 0 3 then (if S 1 (nN kn) = -9 ∨ S 1 (nN on) = -9 then -11 else if S 1 (nN kn) = S 1 (nN on) then -13 else -12) else -1) ∧ S' = (if wit kn 0 3 ∧ wit on 0 3 then (if S 1 (nN kn) = -9 ∨ S 1 (nN on) = -9 then su S 0 0 1 else if S 1 (nN kn) = S 1 (nN on) then su S 0 0 3 else su S 0 0 2) else su S 0 0 0)) := by
  refine xM_of (cc := cX6_copy) (nL := 10) (ret := (some .int)) (by decide) rfl (Nat.le_of_ble_eq_true rfl) ?_
  intro p e s m below meth c ls B hl hK hP
  obtain ⟨hx, hb, hml, hown, hts, hr, hlocks⟩ := B
  have hl : lv_has ls 10 [(0, .ref (bd 0)), (1, .int kn), (2, .int i), (3, .int on), (4, .int jn), (5, .int n)] := hl
  have hS : va_S (xA 18 bd) s.heap s.heap [] := va_S.rf
  have hAd : ∀ k, k < 18 → xA 18 bd (bd k) := xA_in
  have hinX6 : ∀ w ∈ wsX60, w ∈ wsX6_copy := fun _ h => List.mem_cons_of_mem _ (List.mem_append_right _ h)
  have hF : CallFix p m c cX6_copy 10 s _ wsX6_copy RX6 := ⟨hx, hb, hml, hown, hts⟩
  refine lv_aload_n hx hb dX6_copy_0 rfl (lv_at hl 0 rfl) ?_
  refine lv_iconst (v := 0) hx hb dX6_copy_1 (by decide +kernel) ?_
  refine x_put hx hb hts hinX6 tyX6 tyX6_ok nmX6 hown hK hI hAd hP hS 0 (by decide) rfl rfl 0 (by decide) (hts _ (List.mem_of_getElem? (i := 1) rfl)) rfl (upd (S 0) 0 0) rfl rfl rfl (Nat.le_of_ble_eq_true rfl) dX6_copy_2 (fun H locs hP hS => ?_)
  have hP : va_P (dC, dI) vwCl (xW (mLy cI cZ bd) 18 bd (su S 0 0 0)) H := hP
  refine lv_iload_n hx hb dX6_copy_5 rfl (lv_at hl 1 rfl) ?_
  refine x_calli (x_runS (As := [.int kn]) (rest := []) hF (c6_isSheet hI (su S 0 0 0) kn ) (va_cwS 1 hts gX6_copy_X6_isSheet rfl rfl rfl (by decide +kernel) ⟨Nat.le_of_ble_eq_true rfl, Nat.le_of_ble_eq_true rfl⟩) hK hP rfl hl.1 rfl (Nat.le_of_ble_eq_true rfl) dX6_copy_6 ⟨Nat.zero_le _, Nat.zero_le _⟩) hS hAd (fun r6 S6 H locs hw hP _ hS => ?_)
  obtain ⟨hw, eS6⟩ := hw
  rw [eS6] at hP
  by_cases q6 : wit kn 0 3 = true
  · have hw : r6 = 1 := hw.trans (if_pos q6)
    subst hw
    obtain ⟨j6, hj6, rfl⟩ := wit3_ex q6
    have en6 : nN (nI j6) = j6 := nN_nI (by omega)
    refine lv_if_eq (tgt := 19) hx hb dX6_copy_9 (by decide) (fun hc => absurd hc (by decide)) (fun _ => ?_)
    refine lv_iload_n hx hb dX6_copy_12 rfl (lv_at hl 3 rfl) ?_
    refine x_calli (x_runS (As := [.int on]) (rest := []) hF (c6_isSheet hI (su S 0 0 0) on ) (va_cwS 1 hts gX6_copy_X6_isSheet rfl rfl rfl (by decide +kernel) ⟨Nat.le_of_ble_eq_true rfl, Nat.le_of_ble_eq_true rfl⟩) hK hP rfl hl.1 rfl (Nat.le_of_ble_eq_true rfl) dX6_copy_13 ⟨Nat.zero_le _, Nat.zero_le _⟩) hS hAd (fun r13 S13 H locs hw hP _ hS => ?_)
    obtain ⟨hw, eS13⟩ := hw
    rw [eS13] at hP
    by_cases q13 : wit on 0 3 = true
    · have hw : r13 = 1 := hw.trans (if_pos q13)
      subst hw
      obtain ⟨j13, hj13, rfl⟩ := wit3_ex q13
      have en13 : nN (nI j13) = j13 := nN_nI (by omega)
      refine lv_if_ne (tgt := 21) hx hb dX6_copy_16 (by decide) (fun _ => ?_) (fun hc => absurd hc (by decide))
      refine lv_aload_n hx hb dX6_copy_21 rfl (lv_at hl 0 rfl) ?_
      refine x_get (v := .ref (bd 1)) hx hb hts hinX6 hown hK hP 0 (by decide) rfl rfl 2 (by decide) (hts _ (List.mem_of_getElem? (i := 2) rfl)) rfl dX6_copy_22 ?_
      refine lv_iload_n hx hb dX6_copy_25 rfl (lv_at hl 1 rfl) ?_
      refine x_iald (v := S 1 j6) hx hb hK hP 1 0 (by decide) rfl rfl j6 rfl (by omega) (by decide) rfl dX6_copy_26 ?_
      refine lv_bipush (v := (-9)) hx hb dX6_copy_27 (by decide +kernel) ?_
      refine lv_icmp_eq (tgt := 43) hx hb dX6_copy_29 (by decide) (fun c29 => ?_) (fun c29 => ?_)
      · refine lv_aload_n hx hb dX6_copy_43 rfl (lv_at hl 0 rfl) ?_
        refine lv_iconst (v := 1) hx hb dX6_copy_44 (by decide +kernel) ?_
        refine x_calli (x_runV (As := [.int 1]) (rest := []) hF (c6_fails hI (su S 0 0 0) 1 ) (cwV 1 hts gX6_copy_X6_fails rfl rfl rfl (by decide +kernel) ⟨Nat.le_of_ble_eq_true rfl, Nat.le_of_ble_eq_true rfl⟩) hK hP (by decide) rfl rfl rfl hl.1 rfl (Nat.le_of_ble_eq_true rfl) dX6_copy_45 ⟨Nat.zero_le _, Nat.zero_le _⟩) hS hAd (fun r45 S45 H locs hw hP _ hS => ?_)
        obtain ⟨er45, eS45⟩ := hw
        rw [eS45] at hP
        refine x_iret hx hb hr hlocks hP hS dX6_copy_48 ?_
        subst er45
        exact ⟨by first | (simp [su_su, su_at, q6, en6, q13, en13, c29]; done) | (simp [su_su, su_at, en6, en13, q6, q13, q6, en6, q13, en13]; done) | grind, by first | (simp [su_su, su_at, q6, en6, q13, en13, c29]; done) | grind⟩
      · refine lv_aload_n hx hb dX6_copy_32 rfl (lv_at hl 0 rfl) ?_
        refine x_get (v := .ref (bd 1)) hx hb hts hinX6 hown hK hP 0 (by decide) rfl rfl 2 (by decide) (hts _ (List.mem_of_getElem? (i := 2) rfl)) rfl dX6_copy_33 ?_
        refine lv_iload_n hx hb dX6_copy_36 rfl (lv_at hl 3 rfl) ?_
        refine x_iald (v := S 1 j13) hx hb hK hP 1 0 (by decide) rfl rfl j13 rfl (by omega) (by decide) rfl dX6_copy_37 ?_
        refine lv_bipush (v := (-9)) hx hb dX6_copy_38 (by decide +kernel) ?_
        refine lv_icmp_ne (tgt := 49) hx hb dX6_copy_40 (by decide) (fun c40 => ?_) (fun c40 => ?_)
        · refine lv_aload_n hx hb dX6_copy_49 rfl (lv_at hl 0 rfl) ?_
          refine x_get (v := .ref (bd 1)) hx hb hts hinX6 hown hK hP 0 (by decide) rfl rfl 2 (by decide) (hts _ (List.mem_of_getElem? (i := 2) rfl)) rfl dX6_copy_50 ?_
          refine lv_iload_n hx hb dX6_copy_53 rfl (lv_at hl 1 rfl) ?_
          refine x_iald (v := S 1 j6) hx hb hK hP 1 0 (by decide) rfl rfl j6 rfl (by omega) (by decide) rfl dX6_copy_54 ?_
          refine lv_aload_n hx hb dX6_copy_55 rfl (lv_at hl 0 rfl) ?_
          refine x_get (v := .ref (bd 1)) hx hb hts hinX6 hown hK hP 0 (by decide) rfl rfl 2 (by decide) (hts _ (List.mem_of_getElem? (i := 2) rfl)) rfl dX6_copy_56 ?_
          refine lv_iload_n hx hb dX6_copy_59 rfl (lv_at hl 3 rfl) ?_
          refine x_iald (v := S 1 j13) hx hb hK hP 1 0 (by decide) rfl rfl j13 rfl (by omega) (by decide) rfl dX6_copy_60 ?_
          refine lv_icmp_eq (tgt := 70) hx hb dX6_copy_61 (by decide) (fun c61 => ?_) (fun c61 => ?_)
          · refine lv_iload_n hx hb dX6_copy_70 rfl (lv_at hl 2 rfl) ?_
            refine lv_if_lt (tgt := 109) hx hb dX6_copy_71 (by decide) (fun c71 => ?_) (fun c71 => ?_)
            · have d71 := Int32.not_le.mpr c71
              refine lv_iconst (v := 0) hx hb dX6_copy_109 (by decide +kernel) ?_
              refine lv_istore (lv' := [(6, .int 0), (0, .ref (bd 0)), (1, .int (nI j6)), (2, .int i), (3, .int (nI j13)), (4, .int jn), (5, .int n)]) hx hb dX6_copy_110 hl (by decide) rfl (fun ls hl => ?_)
              refine lv_iload hx hb dX6_copy_112 (lv_at hl 0 rfl) ?_
              refine lv_if_eq (tgt := 144) hx hb dX6_copy_114 (by decide) (fun _ => ?_) (fun hc => absurd (by decide) hc)
              refine lv_aload_n hx hb dX6_copy_144 rfl (lv_at hl 1 rfl) ?_
              refine lv_iconst (v := 3) hx hb dX6_copy_145 (by decide +kernel) ?_
              refine x_calli (x_runV (As := [.int 3]) (rest := []) hF (c6_fails hI (su S 0 0 0) 3 ) (cwV 1 hts gX6_copy_X6_fails rfl rfl rfl (by decide +kernel) ⟨Nat.le_of_ble_eq_true rfl, Nat.le_of_ble_eq_true rfl⟩) hK hP (by decide) rfl rfl rfl hl.1 rfl (Nat.le_of_ble_eq_true rfl) dX6_copy_146 ⟨Nat.zero_le _, Nat.zero_le _⟩) hS hAd (fun r146 S146 H locs hw hP _ hS => ?_)
              obtain ⟨er146, eS146⟩ := hw
              rw [eS146] at hP
              refine x_iret hx hb hr hlocks hP hS dX6_copy_149 ?_
              subst er146
              exact ⟨by first | (simp [su_su, su_at, q6, en6, q13, en13, c29, c40, c61, c71, d71]; done) | (simp [su_su, su_at, en6, en13, q6, q13, q6, en6, q13, en13, c29, c40, c71, d71]; done) | grind, by first | (simp [su_su, su_at, q6, en6, q13, en13, c29, c40, c61, c71, d71]; done) | grind⟩
            · have d71 := Int32.not_lt.mp c71
              refine lv_iload hx hb dX6_copy_74 (lv_at hl 4 rfl) ?_
              refine lv_if_lt (tgt := 109) hx hb dX6_copy_76 (by decide) (fun c76 => ?_) (fun c76 => ?_)
              · have d76 := Int32.not_le.mpr c76
                refine lv_iconst (v := 0) hx hb dX6_copy_109 (by decide +kernel) ?_
                refine lv_istore (lv' := [(6, .int 0), (0, .ref (bd 0)), (1, .int (nI j6)), (2, .int i), (3, .int (nI j13)), (4, .int jn), (5, .int n)]) hx hb dX6_copy_110 hl (by decide) rfl (fun ls hl => ?_)
                refine lv_iload hx hb dX6_copy_112 (lv_at hl 0 rfl) ?_
                refine lv_if_eq (tgt := 144) hx hb dX6_copy_114 (by decide) (fun _ => ?_) (fun hc => absurd (by decide) hc)
                refine lv_aload_n hx hb dX6_copy_144 rfl (lv_at hl 1 rfl) ?_
                refine lv_iconst (v := 3) hx hb dX6_copy_145 (by decide +kernel) ?_
                refine x_calli (x_runV (As := [.int 3]) (rest := []) hF (c6_fails hI (su S 0 0 0) 3 ) (cwV 1 hts gX6_copy_X6_fails rfl rfl rfl (by decide +kernel) ⟨Nat.le_of_ble_eq_true rfl, Nat.le_of_ble_eq_true rfl⟩) hK hP (by decide) rfl rfl rfl hl.1 rfl (Nat.le_of_ble_eq_true rfl) dX6_copy_146 ⟨Nat.zero_le _, Nat.zero_le _⟩) hS hAd (fun r146 S146 H locs hw hP _ hS => ?_)
                obtain ⟨er146, eS146⟩ := hw
                rw [eS146] at hP
                refine x_iret hx hb hr hlocks hP hS dX6_copy_149 ?_
                subst er146
                exact ⟨by first | (simp [su_su, su_at, q6, en6, q13, en13, c29, c40, c61, c71, d71, c76, d76]; done) | (simp [su_su, su_at, en6, en13, q6, q13, q6, en6, q13, en13, c29, c40, c71, d71, c76, d76]; done) | grind, by first | (simp [su_su, su_at, q6, en6, q13, en13, c29, c40, c61, c71, d71, c76, d76]; done) | grind⟩
              · have d76 := Int32.not_lt.mp c76
                refine lv_iload hx hb dX6_copy_79 (lv_at hl 5 rfl) ?_
                refine lv_if_lt (tgt := 109) hx hb dX6_copy_81 (by decide) (fun c81 => ?_) (fun c81 => ?_)
                · have d81 := Int32.not_le.mpr c81
                  refine lv_iconst (v := 0) hx hb dX6_copy_109 (by decide +kernel) ?_
                  refine lv_istore (lv' := [(6, .int 0), (0, .ref (bd 0)), (1, .int (nI j6)), (2, .int i), (3, .int (nI j13)), (4, .int jn), (5, .int n)]) hx hb dX6_copy_110 hl (by decide) rfl (fun ls hl => ?_)
                  refine lv_iload hx hb dX6_copy_112 (lv_at hl 0 rfl) ?_
                  refine lv_if_eq (tgt := 144) hx hb dX6_copy_114 (by decide) (fun _ => ?_) (fun hc => absurd (by decide) hc)
                  refine lv_aload_n hx hb dX6_copy_144 rfl (lv_at hl 1 rfl) ?_
                  refine lv_iconst (v := 3) hx hb dX6_copy_145 (by decide +kernel) ?_
                  refine x_calli (x_runV (As := [.int 3]) (rest := []) hF (c6_fails hI (su S 0 0 0) 3 ) (cwV 1 hts gX6_copy_X6_fails rfl rfl rfl (by decide +kernel) ⟨Nat.le_of_ble_eq_true rfl, Nat.le_of_ble_eq_true rfl⟩) hK hP (by decide) rfl rfl rfl hl.1 rfl (Nat.le_of_ble_eq_true rfl) dX6_copy_146 ⟨Nat.zero_le _, Nat.zero_le _⟩) hS hAd (fun r146 S146 H locs hw hP _ hS => ?_)
                  obtain ⟨er146, eS146⟩ := hw
                  rw [eS146] at hP
                  refine x_iret hx hb hr hlocks hP hS dX6_copy_149 ?_
                  subst er146
                  exact ⟨by first | (simp [su_su, su_at, q6, en6, q13, en13, c29, c40, c61, c71, d71, c76, d76, c81, d81]; done) | (simp [su_su, su_at, en6, en13, q6, q13, q6, en6, q13, en13, c29, c40, c71, d71, c76, d76, c81, d81]; done) | grind, by first | (simp [su_su, su_at, q6, en6, q13, en13, c29, c40, c61, c71, d71, c76, d76, c81, d81]; done) | grind⟩
                · have d81 := Int32.not_lt.mp c81
                  refine lv_iload_n hx hb dX6_copy_84 rfl (lv_at hl 2 rfl) ?_
                  refine lv_aload_n hx hb dX6_copy_85 rfl (lv_at hl 0 rfl) ?_
                  refine x_get (v := .ref (bd 2)) hx hb hts hinX6 hown hK hP 0 (by decide) rfl rfl 3 (by decide) (hts _ (List.mem_of_getElem? (i := 3) rfl)) rfl dX6_copy_86 ?_
                  refine lv_iload_n hx hb dX6_copy_89 rfl (lv_at hl 1 rfl) ?_
                  refine x_iald (v := S 2 j6) hx hb hK hP 2 0 (by decide) rfl rfl j6 rfl (by omega) (by decide) rfl dX6_copy_90 ?_
                  refine lv_icmp_gt (tgt := 109) hx hb dX6_copy_91 (by decide) (fun c91 => ?_) (fun c91 => ?_)
                  · have d91 := Int32.not_le.mpr c91
                    refine lv_iconst (v := 0) hx hb dX6_copy_109 (by decide +kernel) ?_
                    refine lv_istore (lv' := [(6, .int 0), (0, .ref (bd 0)), (1, .int (nI j6)), (2, .int i), (3, .int (nI j13)), (4, .int jn), (5, .int n)]) hx hb dX6_copy_110 hl (by decide) rfl (fun ls hl => ?_)
                    refine lv_iload hx hb dX6_copy_112 (lv_at hl 0 rfl) ?_
                    refine lv_if_eq (tgt := 144) hx hb dX6_copy_114 (by decide) (fun _ => ?_) (fun hc => absurd (by decide) hc)
                    refine lv_aload_n hx hb dX6_copy_144 rfl (lv_at hl 1 rfl) ?_
                    refine lv_iconst (v := 3) hx hb dX6_copy_145 (by decide +kernel) ?_
                    refine x_calli (x_runV (As := [.int 3]) (rest := []) hF (c6_fails hI (su S 0 0 0) 3 ) (cwV 1 hts gX6_copy_X6_fails rfl rfl rfl (by decide +kernel) ⟨Nat.le_of_ble_eq_true rfl, Nat.le_of_ble_eq_true rfl⟩) hK hP (by decide) rfl rfl rfl hl.1 rfl (Nat.le_of_ble_eq_true rfl) dX6_copy_146 ⟨Nat.zero_le _, Nat.zero_le _⟩) hS hAd (fun r146 S146 H locs hw hP _ hS => ?_)
                    obtain ⟨er146, eS146⟩ := hw
                    rw [eS146] at hP
                    refine x_iret hx hb hr hlocks hP hS dX6_copy_149 ?_
                    subst er146
                    exact ⟨by first | (simp [su_su, su_at, q6, en6, q13, en13, c29, c40, c61, c71, d71, c76, d76, c81, d81, c91, d91]; done) | (simp [su_su, su_at, en6, en13, q6, q13, q6, en6, q13, en13, c29, c40, c71, d71, c76, d76, c81, d81, c91, d91]; done) | grind, by first | (simp [su_su, su_at, q6, en6, q13, en13, c29, c40, c61, c71, d71, c76, d76, c81, d81, c91, d91]; done) | grind⟩
                  · have d91 := Int32.not_lt.mp c91
                    refine lv_iload hx hb dX6_copy_94 (lv_at hl 4 rfl) ?_
                    refine lv_aload_n hx hb dX6_copy_96 rfl (lv_at hl 0 rfl) ?_
                    refine x_get (v := .ref (bd 2)) hx hb hts hinX6 hown hK hP 0 (by decide) rfl rfl 3 (by decide) (hts _ (List.mem_of_getElem? (i := 3) rfl)) rfl dX6_copy_97 ?_
                    refine lv_iload_n hx hb dX6_copy_100 rfl (lv_at hl 3 rfl) ?_
                    refine x_iald (v := S 2 j13) hx hb hK hP 2 0 (by decide) rfl rfl j13 rfl (by omega) (by decide) rfl dX6_copy_101 ?_
                    refine lv_icmp_gt (tgt := 109) hx hb dX6_copy_102 (by decide) (fun c102 => ?_) (fun c102 => ?_)
                    · have d102 := Int32.not_le.mpr c102
                      refine lv_iconst (v := 0) hx hb dX6_copy_109 (by decide +kernel) ?_
                      refine lv_istore (lv' := [(6, .int 0), (0, .ref (bd 0)), (1, .int (nI j6)), (2, .int i), (3, .int (nI j13)), (4, .int jn), (5, .int n)]) hx hb dX6_copy_110 hl (by decide) rfl (fun ls hl => ?_)
                      refine lv_iload hx hb dX6_copy_112 (lv_at hl 0 rfl) ?_
                      refine lv_if_eq (tgt := 144) hx hb dX6_copy_114 (by decide) (fun _ => ?_) (fun hc => absurd (by decide) hc)
                      refine lv_aload_n hx hb dX6_copy_144 rfl (lv_at hl 1 rfl) ?_
                      refine lv_iconst (v := 3) hx hb dX6_copy_145 (by decide +kernel) ?_
                      refine x_calli (x_runV (As := [.int 3]) (rest := []) hF (c6_fails hI (su S 0 0 0) 3 ) (cwV 1 hts gX6_copy_X6_fails rfl rfl rfl (by decide +kernel) ⟨Nat.le_of_ble_eq_true rfl, Nat.le_of_ble_eq_true rfl⟩) hK hP (by decide) rfl rfl rfl hl.1 rfl (Nat.le_of_ble_eq_true rfl) dX6_copy_146 ⟨Nat.zero_le _, Nat.zero_le _⟩) hS hAd (fun r146 S146 H locs hw hP _ hS => ?_)
                      obtain ⟨er146, eS146⟩ := hw
                      rw [eS146] at hP
                      refine x_iret hx hb hr hlocks hP hS dX6_copy_149 ?_
                      subst er146
                      exact ⟨by first | (simp [su_su, su_at, q6, en6, q13, en13, c29, c40, c61, c71, d71, c76, d76, c81, d81, c91, d91, c102, d102]; done) | (simp [su_su, su_at, en6, en13, q6, q13, q6, en6, q13, en13, c29, c40, c71, d71, c76, d76, c81, d81, c91, d91, c102, d102]; done) | grind, by first | (simp [su_su, su_at, q6, en6, q13, en13, c29, c40, c61, c71, d71, c76, d76, c81, d81, c91, d91, c102, d102]; done) | grind⟩
                    · have d102 := Int32.not_lt.mp c102
                      refine lv_iconst (v := 1) hx hb dX6_copy_105 (by decide +kernel) ?_
                      refine lv_goto (tgt := 110) hx hb dX6_copy_106 (by decide) ?_
                      refine lv_istore (lv' := [(6, .int 1), (0, .ref (bd 0)), (1, .int (nI j6)), (2, .int i), (3, .int (nI j13)), (4, .int jn), (5, .int n)]) hx hb dX6_copy_110 hl (by decide) rfl (fun ls hl => ?_)
                      refine lv_iload hx hb dX6_copy_112 (lv_at hl 0 rfl) ?_
                      refine lv_if_eq (tgt := 144) hx hb dX6_copy_114 (by decide) (fun hc => absurd hc (by decide)) (fun _ => ?_)
                      refine lv_iload hx hb dX6_copy_117 (lv_at hl 6 rfl) ?_
                      refine lv_aload_n hx hb dX6_copy_119 rfl (lv_at hl 1 rfl) ?_
                      refine x_get (v := .ref (bd 2)) hx hb hts hinX6 hown hK hP 0 (by decide) rfl rfl 3 (by decide) (hts _ (List.mem_of_getElem? (i := 3) rfl)) rfl dX6_copy_120 ?_
                      refine lv_iload_n hx hb dX6_copy_123 rfl (lv_at hl 2 rfl) ?_
                      refine x_iald (v := S 2 j6) hx hb hK hP 2 0 (by decide) rfl rfl j6 rfl (by omega) (by decide) rfl dX6_copy_124 ?_
                      refine lv_iload_n hx hb dX6_copy_125 rfl (lv_at hl 3 rfl) ?_
                      refine lv_isub hx hb dX6_copy_126 ?_
                      refine lv_icmp_gt (tgt := 144) hx hb dX6_copy_127 (by decide) (fun c127 => ?_) (fun c127 => ?_)
                      · have d127 := Int32.not_le.mpr c127
                        refine lv_aload_n hx hb dX6_copy_144 rfl (lv_at hl 1 rfl) ?_
                        refine lv_iconst (v := 3) hx hb dX6_copy_145 (by decide +kernel) ?_
                        refine x_calli (x_runV (As := [.int 3]) (rest := []) hF (c6_fails hI (su S 0 0 0) 3 ) (cwV 1 hts gX6_copy_X6_fails rfl rfl rfl (by decide +kernel) ⟨Nat.le_of_ble_eq_true rfl, Nat.le_of_ble_eq_true rfl⟩) hK hP (by decide) rfl rfl rfl hl.1 rfl (Nat.le_of_ble_eq_true rfl) dX6_copy_146 ⟨Nat.zero_le _, Nat.zero_le _⟩) hS hAd (fun r146 S146 H locs hw hP _ hS => ?_)
                        obtain ⟨er146, eS146⟩ := hw
                        rw [eS146] at hP
                        refine x_iret hx hb hr hlocks hP hS dX6_copy_149 ?_
                        subst er146
                        exact ⟨by first | (simp [su_su, su_at, q6, en6, q13, en13, c29, c40, c61, c71, d71, c76, d76, c81, d81, c91, d91, c102, d102, c127, d127]; done) | (simp [su_su, su_at, en6, en13, q6, q13, q6, en6, q13, en13, c29, c40, c71, d71, c76, d76, c81, d81, c91, d91, c102, d102, c127, d127]; done) | grind, by first | (simp [su_su, su_at, q6, en6, q13, en13, c29, c40, c61, c71, d71, c76, d76, c81, d81, c91, d91, c102, d102, c127, d127]; done) | grind⟩
                      · have d127 := Int32.not_lt.mp c127
                        refine lv_iload hx hb dX6_copy_130 (lv_at hl 6 rfl) ?_
                        refine lv_aload_n hx hb dX6_copy_132 rfl (lv_at hl 1 rfl) ?_
                        refine x_get (v := .ref (bd 2)) hx hb hts hinX6 hown hK hP 0 (by decide) rfl rfl 3 (by decide) (hts _ (List.mem_of_getElem? (i := 3) rfl)) rfl dX6_copy_133 ?_
                        refine lv_iload_n hx hb dX6_copy_136 rfl (lv_at hl 4 rfl) ?_
                        refine x_iald (v := S 2 j13) hx hb hK hP 2 0 (by decide) rfl rfl j13 rfl (by omega) (by decide) rfl dX6_copy_137 ?_
                        refine lv_iload hx hb dX6_copy_138 (lv_at hl 5 rfl) ?_
                        refine lv_isub hx hb dX6_copy_140 ?_
                        refine lv_icmp_le (tgt := 150) hx hb dX6_copy_141 (by decide) (fun c141 => ?_) (fun c141 => ?_)
                        · have d141 := Int32.not_lt.mpr c141
                          exact absurd ⟨q6, q13, by rw [en6]; exact c29, by rw [en13]; exact c40, by rw [en6, en13]; exact c61, by rw [en6]; simp [hCs, c71, d71, c76, d76, c81, d81, c91, d91, c102, d102, c127, d127, c141, d141], by rw [en13]; simp [hCs, c71, d71, c76, d76, c81, d81, c91, d91, c102, d102, c127, d127, c141, d141]⟩ hno
                        · have d141 := Int32.not_le.mp c141
                          refine lv_aload_n hx hb dX6_copy_144 rfl (lv_at hl 1 rfl) ?_
                          refine lv_iconst (v := 3) hx hb dX6_copy_145 (by decide +kernel) ?_
                          refine x_calli (x_runV (As := [.int 3]) (rest := []) hF (c6_fails hI (su S 0 0 0) 3 ) (cwV 1 hts gX6_copy_X6_fails rfl rfl rfl (by decide +kernel) ⟨Nat.le_of_ble_eq_true rfl, Nat.le_of_ble_eq_true rfl⟩) hK hP (by decide) rfl rfl rfl hl.1 rfl (Nat.le_of_ble_eq_true rfl) dX6_copy_146 ⟨Nat.zero_le _, Nat.zero_le _⟩) hS hAd (fun r146 S146 H locs hw hP _ hS => ?_)
                          obtain ⟨er146, eS146⟩ := hw
                          rw [eS146] at hP
                          refine x_iret hx hb hr hlocks hP hS dX6_copy_149 ?_
                          subst er146
                          exact ⟨by first | (simp [su_su, su_at, q6, en6, q13, en13, c29, c40, c61, c71, d71, c76, d76, c81, d81, c91, d91, c102, d102, c127, d127, c141, d141]; done) | (simp [su_su, su_at, en6, en13, q6, q13, q6, en6, q13, en13, c29, c40, c71, d71, c76, d76, c81, d81, c91, d91, c102, d102, c127, d127, c141, d141]; done) | grind, by first | (simp [su_su, su_at, q6, en6, q13, en13, c29, c40, c61, c71, d71, c76, d76, c81, d81, c91, d91, c102, d102, c127, d127, c141, d141]; done) | grind⟩
          · refine lv_aload_n hx hb dX6_copy_64 rfl (lv_at hl 0 rfl) ?_
            refine lv_iconst (v := 2) hx hb dX6_copy_65 (by decide +kernel) ?_
            refine x_calli (x_runV (As := [.int 2]) (rest := []) hF (c6_fails hI (su S 0 0 0) 2 ) (cwV 1 hts gX6_copy_X6_fails rfl rfl rfl (by decide +kernel) ⟨Nat.le_of_ble_eq_true rfl, Nat.le_of_ble_eq_true rfl⟩) hK hP (by decide) rfl rfl rfl hl.1 rfl (Nat.le_of_ble_eq_true rfl) dX6_copy_66 ⟨Nat.zero_le _, Nat.zero_le _⟩) hS hAd (fun r66 S66 H locs hw hP _ hS => ?_)
            obtain ⟨er66, eS66⟩ := hw
            rw [eS66] at hP
            refine x_iret hx hb hr hlocks hP hS dX6_copy_69 ?_
            subst er66
            exact ⟨by first | (simp [su_su, su_at, q6, en6, q13, en13, c29, c40, c61]; done) | (simp [su_su, su_at, en6, en13, q6, q13, q6, en6, q13, en13, c29, c40, c61]; done) | grind, by first | (simp [su_su, su_at, q6, en6, q13, en13, c29, c40, c61]; done) | grind⟩
        · refine lv_aload_n hx hb dX6_copy_43 rfl (lv_at hl 0 rfl) ?_
          refine lv_iconst (v := 1) hx hb dX6_copy_44 (by decide +kernel) ?_
          refine x_calli (x_runV (As := [.int 1]) (rest := []) hF (c6_fails hI (su S 0 0 0) 1 ) (cwV 1 hts gX6_copy_X6_fails rfl rfl rfl (by decide +kernel) ⟨Nat.le_of_ble_eq_true rfl, Nat.le_of_ble_eq_true rfl⟩) hK hP (by decide) rfl rfl rfl hl.1 rfl (Nat.le_of_ble_eq_true rfl) dX6_copy_45 ⟨Nat.zero_le _, Nat.zero_le _⟩) hS hAd (fun r45 S45 H locs hw hP _ hS => ?_)
          obtain ⟨er45, eS45⟩ := hw
          rw [eS45] at hP
          refine x_iret hx hb hr hlocks hP hS dX6_copy_48 ?_
          subst er45
          exact ⟨by first | (simp [su_su, su_at, q6, en6, q13, en13, c29, c40]; done) | (simp [su_su, su_at, en6, en13, q6, q13, q6, en6, q13, en13, c29]; done) | grind, by first | (simp [su_su, su_at, q6, en6, q13, en13, c29, c40]; done) | grind⟩
    · have hw : r13 = 0 := hw.trans (if_neg q13)
      subst hw
      refine lv_if_ne (tgt := 21) hx hb dX6_copy_16 (by decide) (fun hc => absurd (by decide) hc) (fun _ => ?_)
      refine lv_iconst (v := (-1)) hx hb dX6_copy_19 (by decide +kernel) ?_
      refine x_iret hx hb hr hlocks hP hS dX6_copy_20 ?_
      skip
      exact ⟨by first | (simp [su_su, su_at, q6, en6, q13]; done) | (simp [su_su, su_at, en6, en13, q6, q13, q6, en6, q13]; done) | grind, by first | (simp [su_su, su_at, q6, en6, q13]; done) | grind⟩
  · have hw : r6 = 0 := hw.trans (if_neg q6)
    subst hw
    refine lv_if_eq (tgt := 19) hx hb dX6_copy_9 (by decide) (fun _ => ?_) (fun hc => absurd (by decide) hc)
    refine lv_iconst (v := (-1)) hx hb dX6_copy_19 (by decide +kernel) ?_
    refine x_iret hx hb hr hlocks hP hS dX6_copy_20 ?_
    skip
    exact ⟨by first | (simp [su_su, su_at, q6]; done) | (simp [su_su, su_at, en6, en13, q6, q13, q6]; done) | grind, by first | (simp [su_su, su_at, q6]; done) | grind⟩

set_option maxHeartbeats 4000000 in
set_option maxRecDepth 100000 in
theorem c6_plan_g (hI : xI 18 bd) (S : xSt) (N : Nat) (hN : S 0 7 = nI N) (hN5 : N ≤ 5) (C : Nat) (hC : S 0 5 = nI C) (hC4 : C ≤ 4) (hC0 : 0 < C) (Y : Nat) (hY : S 0 6 = nI Y) (hY6 : Y ≤ 6) (k0 : Nat) (hk0 : k0 < 4) (ln : Int32) (hln : wit ln 0 2 = true) (a : Nat) (wn : Int32) (hwn : wit wn 0 2 = true ∨ wit wn 10 13 = true) (hag : agF S k0 ln (nI a) (nI N) = 0) (haN : a + N ≤ 60) : xMi l yX6_plan wsX6_plan ({ frames := 7, cells := 0, slots := 0, locals := 159 }) (dC, dI) vwCl (tyl cI cZ cS cG) (mLy cI cZ bd) 18 bd [.ref (bd 0), .int (nI k0), .int ln, .int (nI a), .int (nI N), .int wn] S (fun r S' => r = (if plOkM S (60 * k0 + a) N = true then (if wn = 0 then mBrk (sr (su S 0 0 0) 13 (plM S (60 * k0 + a) N)) N C Y else if wn = 1 then mBC (sr (su S 0 0 0) 13 (plM S (60 * k0 + a) N)) N C Y else if wn = 2 then sumL (fun s => if plM S (60 * k0 + a) N s < S 0 6 then 1 else 0) N 0 0 else if inR (wn - 10) (S 0 5) then sumL (stk (S 6) (S 7) (S 8) (S 5) (plM S (60 * k0 + a) N) (wn - 10) (S 0 6 - 1)) N 0 0 else -9) else -2) ∧ ∃ g, S' = sr (su S 0 0 0) 13 g) := by
  refine xM_of (cc := cX6_plan) (nL := 8) (ret := (some .int)) (by decide) rfl (Nat.le_of_ble_eq_true rfl) ?_
  intro p e s m below meth c ls B hl hK hP
  obtain ⟨hx, hb, hml, hown, hts, hr, hlocks⟩ := B
  have hl : lv_has ls 8 [(0, .ref (bd 0)), (1, .int (nI k0)), (2, .int ln), (3, .int (nI a)), (4, .int (nI N)), (5, .int wn)] := hl
  have hS : va_S (xA 18 bd) s.heap s.heap [] := va_S.rf
  have hAd : ∀ k, k < 18 → xA 18 bd (bd k) := xA_in
  have hinX6 : ∀ w ∈ wsX60, w ∈ wsX6_plan := fun _ h => List.mem_cons_of_mem _ (List.mem_append_right _ h)
  have hF : CallFix p m c cX6_plan 8 s _ wsX6_plan RX6 := ⟨hx, hb, hml, hown, hts⟩
  have L94 : ∀ (n : Nat) (i : Nat) (hi : i + n = N) (hv : plOkM S (60 * k0 + a) N = allL (fun s => wit (S 3 (60 * k0 + a + s)) 0 (S 0 6)) n i) (H : Heap) (locs : List Loc) (ls : Array Slot), va_P (dC, dI) vwCl (xW (mLy cI cZ bd) 18 bd (sr (su S 0 0 0) 13 (fil (fun s => S 3 (60 * k0 + a + s)) (S 13) i))) H → va_S (xA 18 bd) s.heap H locs → lv_has ls 8 [(0, .ref (bd 0)), (1, .int (nI k0)), (3, .int (nI a)), (4, .int (nI N)), (5, .int wn), (7, .int (nI i))] → W p l e ({ frames := 7, cells := 0, slots := 0, locals := 159 }) s m ([.ref (bd 0), .int (nI k0), .int ln, .int (nI a), .int (nI N), .int wn] : List Value).toArray below meth c H locs 0 0 (MQ below (xQi (dC, dI) vwCl (mLy cI cZ bd) 18 bd (fun r S' => r = (if plOkM S (60 * k0 + a) N = true then (if wn = 0 then mBrk (sr (su S 0 0 0) 13 (plM S (60 * k0 + a) N)) N C Y else if wn = 1 then mBC (sr (su S 0 0 0) 13 (plM S (60 * k0 + a) N)) N C Y else if wn = 2 then sumL (fun s => if plM S (60 * k0 + a) N s < S 0 6 then 1 else 0) N 0 0 else if inR (wn - 10) (S 0 5) then sumL (stk (S 6) (S 7) (S 8) (S 5) (plM S (60 * k0 + a) N) (wn - 10) (S 0 6 - 1)) N 0 0 else -9) else -2) ∧ ∃ g, S' = sr (su S 0 0 0) 13 g)) ([.ref (bd 0), .int (nI k0), .int ln, .int (nI a), .int (nI N), .int wn] : List Value).toArray s 0 0 (xA 18 bd)) (F0 m 94 ls []) := by
    intro n
    induction n with
    | zero =>
      intro i hi hv H locs ls hP hS hl
      refine lv_iload hx hb dX6_plan_94 (lv_at hl 5 rfl) ?_
      refine lv_iload hx hb dX6_plan_96 (lv_at hl 3 rfl) ?_
      refine lv_icmp_ge (tgt := 149) hx hb dX6_plan_98 (by decide) (fun _ => ?_) (fun hc => absurd (nI_le (by omega) (by omega)) hc)
      have hP : va_P (dC, dI) vwCl (xW (mLy cI cZ bd) 18 bd (sr (su S 0 0 0) 13 (plM S (60 * k0 + a) N))) H := by rw [show i = N by omega] at hP; exact hP
      refine lv_aload_n hx hb dX6_plan_149 rfl (lv_at hl 0 rfl) ?_
      refine lv_iload hx hb dX6_plan_150 (lv_at hl 4 rfl) ?_
      refine x_calli (x_runV (As := [.int wn]) (rest := []) hF (c6_tellPlan hI (sr (su S 0 0 0) 13 (plM S (60 * k0 + a) N)) N hN hN5 C hC hC4 Y hY hY6 wn) (cwV 1 hts gX6_plan_X6_tellPlan rfl rfl rfl (by decide +kernel) ⟨Nat.le_of_ble_eq_true rfl, Nat.le_of_ble_eq_true rfl⟩) hK hP (by decide) rfl rfl rfl hl.1 rfl (Nat.le_of_ble_eq_true rfl) dX6_plan_152 ⟨Nat.zero_le _, Nat.zero_le _⟩) hS hAd (fun r152 S152 H locs hw hP _ hS => ?_)
      obtain ⟨er152, eS152⟩ := hw
      rw [eS152] at hP
      refine x_iret hx hb hr hlocks hP hS dX6_plan_155 ?_
      exact ⟨by rw [if_pos (show plOkM S (60 * k0 + a) N = true from hv)]; exact er152, _, rfl⟩
    | succ n ih =>
      intro i hi hv H locs ls hP hS hl
      refine lv_iload hx hb dX6_plan_94 (lv_at hl 5 rfl) ?_
      refine lv_iload hx hb dX6_plan_96 (lv_at hl 3 rfl) ?_
      refine lv_icmp_ge (tgt := 149) hx hb dX6_plan_98 (by decide) (fun hc => absurd hc (nI_ge (by omega) (by omega))) (fun _ => ?_)
      refine lv_aload_n hx hb dX6_plan_101 rfl (lv_at hl 0 rfl) ?_
      refine x_get (v := .ref (bd 13)) hx hb hts hinX6 hown hK hP 0 (by decide) rfl rfl 21 (by decide) (hts _ (List.mem_of_getElem? (i := 4) rfl)) rfl dX6_plan_102 ?_
      refine lv_iload hx hb dX6_plan_105 (lv_at hl 5 rfl) ?_
      refine lv_aload_n hx hb dX6_plan_107 rfl (lv_at hl 0 rfl) ?_
      refine x_get (v := .ref (bd 3)) hx hb hts hinX6 hown hK hP 0 (by decide) rfl rfl 4 (by decide) (hts _ (List.mem_of_getElem? (i := 5) rfl)) rfl dX6_plan_108 ?_
      refine lv_bipush (v := 60) hx hb dX6_plan_111 (by decide +kernel) ?_
      refine lv_iload_n hx hb dX6_plan_113 rfl (lv_at hl 1 rfl) ?_
      refine lv_imul hx hb dX6_plan_114 ?_
      refine lv_iload_n hx hb dX6_plan_115 rfl (lv_at hl 2 rfl) ?_
      refine lv_iadd hx hb dX6_plan_116 ?_
      refine lv_iload hx hb dX6_plan_117 (lv_at hl 5 rfl) ?_
      refine lv_iadd hx hb dX6_plan_119 ?_
      refine x_iald (v := S 3 (60 * k0 + a + i)) hx hb hK hP 3 0 (by decide) rfl rfl (60 * k0 + a + i) (ix60b _ _ _) (by omega) (by decide) rfl dX6_plan_120 ?_
      refine x_iast hx hb hK hI hAd hP hS 13 0 (by decide) (fun _ => rfl) rfl i rfl (by omega) (by decide) dX6_plan_121 (fun H locs hP hS => ?_)
      refine lv_aload_n hx hb dX6_plan_122 rfl (lv_at hl 0 rfl) ?_
      refine x_get (v := .ref (bd 13)) hx hb hts hinX6 hown hK hP 0 (by decide) rfl rfl 21 (by decide) (hts _ (List.mem_of_getElem? (i := 4) rfl)) rfl dX6_plan_123 ?_
      refine lv_iload hx hb dX6_plan_126 (lv_at hl 5 rfl) ?_
      refine x_iald (v := S 3 (60 * k0 + a + i)) hx hb hK hP 13 0 (by decide) rfl rfl i rfl (by omega) (by decide) (su_at _ _ _ _) dX6_plan_128 ?_
      refine lv_iconst (v := 0) hx hb dX6_plan_129 (by decide +kernel) ?_
      refine lv_aload_n hx hb dX6_plan_130 rfl (lv_at hl 0 rfl) ?_
      refine x_get (v := .int (S 0 6)) hx hb hts hinX6 hown hK hP 0 (by decide) rfl rfl 6 (by decide) (hts _ (List.mem_of_getElem? (i := 6) rfl)) rfl dX6_plan_131 ?_
      refine x_calli (x_runS (As := [.int (S 3 (60 * k0 + a + i)), .int 0, .int (S 0 6)]) (rest := []) hF (c6_within hI (su (sr (su S 0 0 0) 13 (fil (fun s => S 3 (60 * k0 + a + s)) (S 13) i)) 13 i (S 3 (60 * k0 + a + i))) (S 3 (60 * k0 + a + i)) 0 (S 0 6)) (va_cwS 3 hts gX6_plan_X6_within rfl rfl rfl (by decide +kernel) ⟨Nat.le_of_ble_eq_true rfl, Nat.le_of_ble_eq_true rfl⟩) hK hP rfl hl.1 rfl (Nat.le_of_ble_eq_true rfl) dX6_plan_134 ⟨Nat.zero_le _, Nat.zero_le _⟩) hS hAd (fun r134 S134 H locs hw hP _ hS => ?_)
      obtain ⟨hw, eS134⟩ := hw
      rw [eS134] at hP
      by_cases q134 : wit (S 3 (60 * k0 + a + i)) 0 (S 0 6) = true
      · have hw : r134 = 1 := hw.trans (if_pos q134)
        subst hw
        refine lv_if_ne (tgt := 143) hx hb dX6_plan_137 (by decide) (fun _ => ?_) (fun hc => absurd hc (by decide))
        refine lv_iinc (v := nI (i + 1)) (lv' := [(7, .int (nI (i + 1))), (0, .ref (bd 0)), (1, .int (nI k0)), (3, .int (nI a)), (4, .int (nI N)), (5, .int wn)]) hx hb dX6_plan_143 hl (k := 5) rfl (nI_1 _) (by decide) rfl (fun ls hl => ?_)
        refine lv_goto (tgt := 94) hx hb dX6_plan_146 (by decide) ?_
        rw [show (su (sr (su S 0 0 0) 13 (fil (fun s => S 3 (60 * k0 + a + s)) (S 13) i)) 13 i (S 3 (60 * k0 + a + i))) = (sr (su S 0 0 0) 13 (fil (fun s => S 3 (60 * k0 + a + s)) (S 13) (i + 1))) from su_fil rfl] at hP
        exact ih (i + 1) (by omega) (hv.trans (by rw [allL, if_pos q134])) H locs ls hP hS (lv_sub hl [1, 2, 3, 4, 5, 0] rfl)
      · have hw : r134 = 0 := hw.trans (if_neg q134)
        subst hw
        refine lv_if_ne (tgt := 143) hx hb dX6_plan_137 (by decide) (fun hc => absurd (by decide) hc) (fun _ => ?_)
        refine lv_bipush (v := (-2)) hx hb dX6_plan_140 (by decide +kernel) ?_
        refine x_iret hx hb hr hlocks hP hS dX6_plan_142 ?_
        exact ⟨by rw [hv, allL, if_neg q134]; rfl, _, by rw [su, sr_sr]⟩
  refine lv_aload_n hx hb dX6_plan_0 rfl (lv_at hl 0 rfl) ?_
  refine lv_iconst (v := 0) hx hb dX6_plan_1 (by decide +kernel) ?_
  refine x_put hx hb hts hinX6 tyX6 tyX6_ok nmX6 hown hK hI hAd hP hS 0 (by decide) rfl rfl 0 (by decide) (hts _ (List.mem_of_getElem? (i := 1) rfl)) rfl (upd (S 0) 0 0) rfl rfl rfl (Nat.le_of_ble_eq_true rfl) dX6_plan_2 (fun H locs hP hS => ?_)
  have hP : va_P (dC, dI) vwCl (xW (mLy cI cZ bd) 18 bd (su S 0 0 0)) H := hP
  refine lv_iload_n hx hb dX6_plan_5 rfl (lv_at hl 1 rfl) ?_
  refine x_calli (x_runS (As := [.int (nI k0)]) (rest := []) hF (c6_isSheet hI (su S 0 0 0) (nI k0) ) (va_cwS 1 hts gX6_plan_X6_isSheet rfl rfl rfl (by decide +kernel) ⟨Nat.le_of_ble_eq_true rfl, Nat.le_of_ble_eq_true rfl⟩) hK hP rfl hl.1 rfl (Nat.le_of_ble_eq_true rfl) dX6_plan_6 ⟨Nat.zero_le _, Nat.zero_le _⟩) hS hAd (fun r6 S6 H locs hw hP _ hS => ?_)
  obtain ⟨hw, eS6⟩ := hw
  rw [eS6] at hP
  by_cases q6 : wit (nI k0) 0 3 = true
  · have hw : r6 = 1 := hw.trans (if_pos q6)
    subst hw
    refine lv_if_ne (tgt := 14) hx hb dX6_plan_9 (by decide) (fun _ => ?_) (fun hc => absurd hc (by decide))
    refine lv_iload_n hx hb dX6_plan_14 rfl (lv_at hl 2 rfl) ?_
    refine x_calli (x_runS (As := [.int ln]) (rest := []) hF (c6_isSort hI (su S 0 0 0) ln ) (va_cwS 1 hts gX6_plan_X6_isSort rfl rfl rfl (by decide +kernel) ⟨Nat.le_of_ble_eq_true rfl, Nat.le_of_ble_eq_true rfl⟩) hK hP rfl hl.1 rfl (Nat.le_of_ble_eq_true rfl) dX6_plan_15 ⟨Nat.zero_le _, Nat.zero_le _⟩) hS hAd (fun r15 S15 H locs hw hP _ hS => ?_)
    obtain ⟨hw, eS15⟩ := hw
    rw [eS15] at hP
    by_cases q15 : wit ln 0 2 = true
    · have hw : r15 = 1 := hw.trans (if_pos q15)
      subst hw
      refine lv_if_eq (tgt := 43) hx hb dX6_plan_18 (by decide) (fun hc => absurd hc (by decide)) (fun _ => ?_)
      refine lv_iload hx hb dX6_plan_21 (lv_at hl 5 rfl) ?_
      refine lv_iconst (v := 0) hx hb dX6_plan_23 (by decide +kernel) ?_
      refine lv_iconst (v := 2) hx hb dX6_plan_24 (by decide +kernel) ?_
      refine x_calli (x_runS (As := [.int wn, .int 0, .int 2]) (rest := []) hF (c6_within hI (su S 0 0 0) wn 0 2 ) (va_cwS 3 hts gX6_plan_X6_within rfl rfl rfl (by decide +kernel) ⟨Nat.le_of_ble_eq_true rfl, Nat.le_of_ble_eq_true rfl⟩) hK hP rfl hl.1 rfl (Nat.le_of_ble_eq_true rfl) dX6_plan_25 ⟨Nat.zero_le _, Nat.zero_le _⟩) hS hAd (fun r25 S25 H locs hw hP _ hS => ?_)
      obtain ⟨hw, eS25⟩ := hw
      rw [eS25] at hP
      by_cases q25 : wit wn 0 2 = true
      · have hw : r25 = 1 := hw.trans (if_pos q25)
        subst hw
        refine lv_if_ne (tgt := 46) hx hb dX6_plan_28 (by decide) (fun _ => ?_) (fun hc => absurd hc (by decide))
        refine lv_aload_n hx hb dX6_plan_46 rfl (lv_at hl 0 rfl) ?_
        refine lv_iload_n hx hb dX6_plan_47 rfl (lv_at hl 1 rfl) ?_
        refine lv_iload_n hx hb dX6_plan_48 rfl (lv_at hl 2 rfl) ?_
        refine lv_iload_n hx hb dX6_plan_49 rfl (lv_at hl 3 rfl) ?_
        refine lv_iload hx hb dX6_plan_50 (lv_at hl 4 rfl) ?_
        refine x_calli (x_runV (As := [.int (nI k0), .int ln, .int (nI a), .int (nI N)]) (rest := []) hF (c6_against hI (su S 0 0 0) k0 hk0 ln (nI a) (nI N)) (cwV 4 hts gX6_plan_X6_against rfl rfl rfl (by decide +kernel) ⟨Nat.le_of_ble_eq_true rfl, Nat.le_of_ble_eq_true rfl⟩) hK hP (by decide) rfl rfl rfl hl.1 rfl (Nat.le_of_ble_eq_true rfl) dX6_plan_52 ⟨Nat.zero_le _, Nat.zero_le _⟩) hS hAd (fun r52 S52 H locs hw hP _ hS => ?_)
        obtain ⟨er52, eS52⟩ := hw
        rw [eS52] at hP
        have er52 : r52 = 0 := er52.trans hag
        subst er52
        refine lv_istore (lv' := [(6, .int 0), (0, .ref (bd 0)), (1, .int (nI k0)), (2, .int ln), (3, .int (nI a)), (4, .int (nI N)), (5, .int wn)]) hx hb dX6_plan_55 hl (by decide) rfl (fun ls hl => ?_)
        refine lv_iload hx hb dX6_plan_57 (lv_at hl 0 rfl) ?_
        refine lv_if_eq (tgt := 69) hx hb dX6_plan_59 (by decide) (fun _ => ?_) (fun hc => absurd (by decide) hc)
        refine lv_aload_n hx hb dX6_plan_69 rfl (lv_at hl 1 rfl) ?_
        refine x_get (v := .int (nI C)) hx hb hts hinX6 hown hK hP 0 (by decide) rfl rfl 5 (by decide) (hts _ (List.mem_of_getElem? (i := 2) rfl)) (congrArg (fun z => some (Value.int z)) hC) dX6_plan_70 ?_
        refine lv_if_ne (tgt := 79) hx hb dX6_plan_73 (by decide) (fun _ => ?_) (fun hc => absurd hc (nI_ne0 hC0 (by omega)))
        refine lv_iload hx hb dX6_plan_79 (lv_at hl 5 rfl) ?_
        refine lv_aload_n hx hb dX6_plan_81 rfl (lv_at hl 1 rfl) ?_
        refine x_get (v := .int (nI N)) hx hb hts hinX6 hown hK hP 0 (by decide) rfl rfl 7 (by decide) (hts _ (List.mem_of_getElem? (i := 3) rfl)) (congrArg (fun z => some (Value.int z)) hN) dX6_plan_82 ?_
        refine lv_icmp_eq (tgt := 91) hx hb dX6_plan_85 (by decide) (fun _ => ?_) (fun hc => absurd (rfl) hc)
        refine lv_iconst (v := 0) hx hb dX6_plan_91 (by decide +kernel) ?_
        refine lv_istore (lv' := [(7, .int 0), (6, .int 0), (0, .ref (bd 0)), (1, .int (nI k0)), (2, .int ln), (3, .int (nI a)), (4, .int (nI N)), (5, .int wn)]) hx hb dX6_plan_92 hl (by decide) rfl (fun ls hl => ?_)
        have hP : va_P (dC, dI) vwCl (xW (mLy cI cZ bd) 18 bd (sr (su S 0 0 0) 13 (fil (fun s => S 3 (60 * k0 + a + s)) (S 13) 0))) H := by rw [fil_0, sr_same' (show S 13 = (su S 0 0 0) 13 from rfl)]; exact hP
        exact L94 N 0 (Nat.zero_add _) rfl _ _ ls hP hS (lv_sub hl [2, 3, 5, 6, 7, 0] rfl)
      · have hw : r25 = 0 := hw.trans (if_neg q25)
        subst hw
        refine lv_if_ne (tgt := 46) hx hb dX6_plan_28 (by decide) (fun hc => absurd (by decide) hc) (fun _ => ?_)
        refine lv_iload hx hb dX6_plan_31 (lv_at hl 5 rfl) ?_
        refine lv_bipush (v := 10) hx hb dX6_plan_33 (by decide +kernel) ?_
        refine lv_bipush (v := 13) hx hb dX6_plan_35 (by decide +kernel) ?_
        refine x_calli (x_runS (As := [.int wn, .int 10, .int 13]) (rest := []) hF (c6_within hI (su S 0 0 0) wn 10 13 ) (va_cwS 3 hts gX6_plan_X6_within rfl rfl rfl (by decide +kernel) ⟨Nat.le_of_ble_eq_true rfl, Nat.le_of_ble_eq_true rfl⟩) hK hP rfl hl.1 rfl (Nat.le_of_ble_eq_true rfl) dX6_plan_37 ⟨Nat.zero_le _, Nat.zero_le _⟩) hS hAd (fun r37 S37 H locs hw hP _ hS => ?_)
        obtain ⟨hw, eS37⟩ := hw
        rw [eS37] at hP
        by_cases q37 : wit wn 10 13 = true
        · have hw : r37 = 1 := hw.trans (if_pos q37)
          subst hw
          refine lv_if_ne (tgt := 46) hx hb dX6_plan_40 (by decide) (fun _ => ?_) (fun hc => absurd hc (by decide))
          refine lv_aload_n hx hb dX6_plan_46 rfl (lv_at hl 0 rfl) ?_
          refine lv_iload_n hx hb dX6_plan_47 rfl (lv_at hl 1 rfl) ?_
          refine lv_iload_n hx hb dX6_plan_48 rfl (lv_at hl 2 rfl) ?_
          refine lv_iload_n hx hb dX6_plan_49 rfl (lv_at hl 3 rfl) ?_
          refine lv_iload hx hb dX6_plan_50 (lv_at hl 4 rfl) ?_
          refine x_calli (x_runV (As := [.int (nI k0), .int ln, .int (nI a), .int (nI N)]) (rest := []) hF (c6_against hI (su S 0 0 0) k0 hk0 ln (nI a) (nI N)) (cwV 4 hts gX6_plan_X6_against rfl rfl rfl (by decide +kernel) ⟨Nat.le_of_ble_eq_true rfl, Nat.le_of_ble_eq_true rfl⟩) hK hP (by decide) rfl rfl rfl hl.1 rfl (Nat.le_of_ble_eq_true rfl) dX6_plan_52 ⟨Nat.zero_le _, Nat.zero_le _⟩) hS hAd (fun r52 S52 H locs hw hP _ hS => ?_)
          obtain ⟨er52, eS52⟩ := hw
          rw [eS52] at hP
          have er52 : r52 = 0 := er52.trans hag
          subst er52
          refine lv_istore (lv' := [(6, .int 0), (0, .ref (bd 0)), (1, .int (nI k0)), (2, .int ln), (3, .int (nI a)), (4, .int (nI N)), (5, .int wn)]) hx hb dX6_plan_55 hl (by decide) rfl (fun ls hl => ?_)
          refine lv_iload hx hb dX6_plan_57 (lv_at hl 0 rfl) ?_
          refine lv_if_eq (tgt := 69) hx hb dX6_plan_59 (by decide) (fun _ => ?_) (fun hc => absurd (by decide) hc)
          refine lv_aload_n hx hb dX6_plan_69 rfl (lv_at hl 1 rfl) ?_
          refine x_get (v := .int (nI C)) hx hb hts hinX6 hown hK hP 0 (by decide) rfl rfl 5 (by decide) (hts _ (List.mem_of_getElem? (i := 2) rfl)) (congrArg (fun z => some (Value.int z)) hC) dX6_plan_70 ?_
          refine lv_if_ne (tgt := 79) hx hb dX6_plan_73 (by decide) (fun _ => ?_) (fun hc => absurd hc (nI_ne0 hC0 (by omega)))
          refine lv_iload hx hb dX6_plan_79 (lv_at hl 5 rfl) ?_
          refine lv_aload_n hx hb dX6_plan_81 rfl (lv_at hl 1 rfl) ?_
          refine x_get (v := .int (nI N)) hx hb hts hinX6 hown hK hP 0 (by decide) rfl rfl 7 (by decide) (hts _ (List.mem_of_getElem? (i := 3) rfl)) (congrArg (fun z => some (Value.int z)) hN) dX6_plan_82 ?_
          refine lv_icmp_eq (tgt := 91) hx hb dX6_plan_85 (by decide) (fun _ => ?_) (fun hc => absurd (rfl) hc)
          refine lv_iconst (v := 0) hx hb dX6_plan_91 (by decide +kernel) ?_
          refine lv_istore (lv' := [(7, .int 0), (6, .int 0), (0, .ref (bd 0)), (1, .int (nI k0)), (2, .int ln), (3, .int (nI a)), (4, .int (nI N)), (5, .int wn)]) hx hb dX6_plan_92 hl (by decide) rfl (fun ls hl => ?_)
          have hP : va_P (dC, dI) vwCl (xW (mLy cI cZ bd) 18 bd (sr (su S 0 0 0) 13 (fil (fun s => S 3 (60 * k0 + a + s)) (S 13) 0))) H := by rw [fil_0, sr_same' (show S 13 = (su S 0 0 0) 13 from rfl)]; exact hP
          exact L94 N 0 (Nat.zero_add _) rfl _ _ ls hP hS (lv_sub hl [2, 3, 5, 6, 7, 0] rfl)
        · have hw : r37 = 0 := hw.trans (if_neg q37)
          subst hw
          exact absurd (hwn.resolve_left q25) q37
    · have hw : r15 = 0 := hw.trans (if_neg q15)
      subst hw
      exact absurd (hln) q15
  · have hw : r6 = 0 := hw.trans (if_neg q6)
    subst hw
    exact absurd (wit3_of hk0) q6

set_option maxHeartbeats 4000000 in
set_option maxRecDepth 100000 in
theorem c6_plan_f (hI : xI 18 bd) (S : xSt) (kn ln i n wn : Int32) (hno : ¬ (wit kn 0 3 = true ∧ wit ln 0 2 = true ∧ (wit wn 0 2 = true ∨ wit wn 10 13 = true) ∧ agF S (nN kn) ln i n = 0 ∧ ¬ S 0 5 = 0 ∧ n = S 0 7)) : xMi l yX6_plan wsX6_plan ({ frames := 7, cells := 0, slots := 0, locals := 159 }) (dC, dI) vwCl (tyl cI cZ cS cG) (mLy cI cZ bd) 18 bd [.ref (bd 0), .int kn, .int ln, .int i, .int n, .int wn] S (fun r S' => r = (if wit kn 0 3 then (if wit ln 0 2 = true ∧ (wit wn 0 2 = true ∨ wit wn 10 13 = true) then (if agF S (nN kn) ln i n = 0 then (if S 0 5 = 0 then -3 else -2) else -10 - agF S (nN kn) ln i n) else -2) else -1) ∧ S' = (if wit kn 0 3 = true ∧ wit ln 0 2 = true ∧ (wit wn 0 2 = true ∨ wit wn 10 13 = true) ∧ ¬ agF S (nN kn) ln i n = 0 then su S 0 0 (agF S (nN kn) ln i n) else su S 0 0 0)) := by
  refine xM_of (cc := cX6_plan) (nL := 8) (ret := (some .int)) (by decide) rfl (Nat.le_of_ble_eq_true rfl) ?_
  intro p e s m below meth c ls B hl hK hP
  obtain ⟨hx, hb, hml, hown, hts, hr, hlocks⟩ := B
  have hl : lv_has ls 8 [(0, .ref (bd 0)), (1, .int kn), (2, .int ln), (3, .int i), (4, .int n), (5, .int wn)] := hl
  have hS : va_S (xA 18 bd) s.heap s.heap [] := va_S.rf
  have hAd : ∀ k, k < 18 → xA 18 bd (bd k) := xA_in
  have hinX6 : ∀ w ∈ wsX60, w ∈ wsX6_plan := fun _ h => List.mem_cons_of_mem _ (List.mem_append_right _ h)
  have hF : CallFix p m c cX6_plan 8 s _ wsX6_plan RX6 := ⟨hx, hb, hml, hown, hts⟩
  refine lv_aload_n hx hb dX6_plan_0 rfl (lv_at hl 0 rfl) ?_
  refine lv_iconst (v := 0) hx hb dX6_plan_1 (by decide +kernel) ?_
  refine x_put hx hb hts hinX6 tyX6 tyX6_ok nmX6 hown hK hI hAd hP hS 0 (by decide) rfl rfl 0 (by decide) (hts _ (List.mem_of_getElem? (i := 1) rfl)) rfl (upd (S 0) 0 0) rfl rfl rfl (Nat.le_of_ble_eq_true rfl) dX6_plan_2 (fun H locs hP hS => ?_)
  have hP : va_P (dC, dI) vwCl (xW (mLy cI cZ bd) 18 bd (su S 0 0 0)) H := hP
  refine lv_iload_n hx hb dX6_plan_5 rfl (lv_at hl 1 rfl) ?_
  refine x_calli (x_runS (As := [.int kn]) (rest := []) hF (c6_isSheet hI (su S 0 0 0) kn ) (va_cwS 1 hts gX6_plan_X6_isSheet rfl rfl rfl (by decide +kernel) ⟨Nat.le_of_ble_eq_true rfl, Nat.le_of_ble_eq_true rfl⟩) hK hP rfl hl.1 rfl (Nat.le_of_ble_eq_true rfl) dX6_plan_6 ⟨Nat.zero_le _, Nat.zero_le _⟩) hS hAd (fun r6 S6 H locs hw hP _ hS => ?_)
  obtain ⟨hw, eS6⟩ := hw
  rw [eS6] at hP
  by_cases q6 : wit kn 0 3 = true
  · have hw : r6 = 1 := hw.trans (if_pos q6)
    subst hw
    obtain ⟨j6, hj6, rfl⟩ := wit3_ex q6
    have en6 : nN (nI j6) = j6 := nN_nI (by omega)
    refine lv_if_ne (tgt := 14) hx hb dX6_plan_9 (by decide) (fun _ => ?_) (fun hc => absurd hc (by decide))
    refine lv_iload_n hx hb dX6_plan_14 rfl (lv_at hl 2 rfl) ?_
    refine x_calli (x_runS (As := [.int ln]) (rest := []) hF (c6_isSort hI (su S 0 0 0) ln ) (va_cwS 1 hts gX6_plan_X6_isSort rfl rfl rfl (by decide +kernel) ⟨Nat.le_of_ble_eq_true rfl, Nat.le_of_ble_eq_true rfl⟩) hK hP rfl hl.1 rfl (Nat.le_of_ble_eq_true rfl) dX6_plan_15 ⟨Nat.zero_le _, Nat.zero_le _⟩) hS hAd (fun r15 S15 H locs hw hP _ hS => ?_)
    obtain ⟨hw, eS15⟩ := hw
    rw [eS15] at hP
    by_cases q15 : wit ln 0 2 = true
    · have hw : r15 = 1 := hw.trans (if_pos q15)
      subst hw
      refine lv_if_eq (tgt := 43) hx hb dX6_plan_18 (by decide) (fun hc => absurd hc (by decide)) (fun _ => ?_)
      refine lv_iload hx hb dX6_plan_21 (lv_at hl 5 rfl) ?_
      refine lv_iconst (v := 0) hx hb dX6_plan_23 (by decide +kernel) ?_
      refine lv_iconst (v := 2) hx hb dX6_plan_24 (by decide +kernel) ?_
      refine x_calli (x_runS (As := [.int wn, .int 0, .int 2]) (rest := []) hF (c6_within hI (su S 0 0 0) wn 0 2 ) (va_cwS 3 hts gX6_plan_X6_within rfl rfl rfl (by decide +kernel) ⟨Nat.le_of_ble_eq_true rfl, Nat.le_of_ble_eq_true rfl⟩) hK hP rfl hl.1 rfl (Nat.le_of_ble_eq_true rfl) dX6_plan_25 ⟨Nat.zero_le _, Nat.zero_le _⟩) hS hAd (fun r25 S25 H locs hw hP _ hS => ?_)
      obtain ⟨hw, eS25⟩ := hw
      rw [eS25] at hP
      by_cases q25 : wit wn 0 2 = true
      · have hw : r25 = 1 := hw.trans (if_pos q25)
        subst hw
        refine lv_if_ne (tgt := 46) hx hb dX6_plan_28 (by decide) (fun _ => ?_) (fun hc => absurd hc (by decide))
        refine lv_aload_n hx hb dX6_plan_46 rfl (lv_at hl 0 rfl) ?_
        refine lv_iload_n hx hb dX6_plan_47 rfl (lv_at hl 1 rfl) ?_
        refine lv_iload_n hx hb dX6_plan_48 rfl (lv_at hl 2 rfl) ?_
        refine lv_iload_n hx hb dX6_plan_49 rfl (lv_at hl 3 rfl) ?_
        refine lv_iload hx hb dX6_plan_50 (lv_at hl 4 rfl) ?_
        refine x_calli (x_runV (As := [.int (nI j6), .int ln, .int i, .int n]) (rest := []) hF (c6_against hI (su S 0 0 0) j6 hj6 ln i n) (cwV 4 hts gX6_plan_X6_against rfl rfl rfl (by decide +kernel) ⟨Nat.le_of_ble_eq_true rfl, Nat.le_of_ble_eq_true rfl⟩) hK hP (by decide) rfl rfl rfl hl.1 rfl (Nat.le_of_ble_eq_true rfl) dX6_plan_52 ⟨Nat.zero_le _, Nat.zero_le _⟩) hS hAd (fun r52 S52 H locs hw hP _ hS => ?_)
        obtain ⟨er52, eS52⟩ := hw
        rw [eS52] at hP
        have er52 : r52 = agF S j6 ln i n := er52
        refine lv_istore (lv' := [(6, .int r52), (0, .ref (bd 0)), (1, .int (nI j6)), (2, .int ln), (3, .int i), (4, .int n), (5, .int wn)]) hx hb dX6_plan_55 hl (by decide) rfl (fun ls hl => ?_)
        refine lv_iload hx hb dX6_plan_57 (lv_at hl 0 rfl) ?_
        refine lv_if_eq (tgt := 69) hx hb dX6_plan_59 (by decide) (fun c59 => ?_) (fun c59 => ?_)
        · refine lv_aload_n hx hb dX6_plan_69 rfl (lv_at hl 1 rfl) ?_
          refine x_get (v := .int (S 0 5)) hx hb hts hinX6 hown hK hP 0 (by decide) rfl rfl 5 (by decide) (hts _ (List.mem_of_getElem? (i := 2) rfl)) rfl dX6_plan_70 ?_
          refine lv_if_ne (tgt := 79) hx hb dX6_plan_73 (by decide) (fun c73 => ?_) (fun c73 => ?_)
          · refine lv_iload hx hb dX6_plan_79 (lv_at hl 5 rfl) ?_
            refine lv_aload_n hx hb dX6_plan_81 rfl (lv_at hl 1 rfl) ?_
            refine x_get (v := .int (S 0 7)) hx hb hts hinX6 hown hK hP 0 (by decide) rfl rfl 7 (by decide) (hts _ (List.mem_of_getElem? (i := 3) rfl)) rfl dX6_plan_82 ?_
            refine lv_icmp_eq (tgt := 91) hx hb dX6_plan_85 (by decide) (fun c85 => ?_) (fun c85 => ?_)
            · exact absurd ⟨q6, q15, Or.inl q25, by rw [en6]; subst er52; exact c59, c73, c85⟩ hno
            · refine lv_bipush (v := (-2)) hx hb dX6_plan_88 (by decide +kernel) ?_
              refine x_iret hx hb hr hlocks hP hS dX6_plan_90 ?_
              subst er52
              exact ⟨by first | (simp [su_su, su_at, q6, en6, q15, q25, c59, c73, c85]; done) | grind, by first | (simp [su_su, su_at, q6, en6, q15, q25, c59, c73, c85]; done) | grind⟩
          · refine lv_bipush (v := (-3)) hx hb dX6_plan_76 (by decide +kernel) ?_
            refine x_iret hx hb hr hlocks hP hS dX6_plan_78 ?_
            subst er52
            exact ⟨by first | (simp [su_su, su_at, q6, en6, q15, q25, c59, c73]; done) | grind, by first | (simp [su_su, su_at, q6, en6, q15, q25, c59, c73]; done) | grind⟩
        · refine lv_aload_n hx hb dX6_plan_62 rfl (lv_at hl 1 rfl) ?_
          refine lv_iload hx hb dX6_plan_63 (lv_at hl 0 rfl) ?_
          refine x_calli (x_runV (As := [.int r52]) (rest := []) hF (c6_fails hI (su S 0 0 0) r52 ) (cwV 1 hts gX6_plan_X6_fails rfl rfl rfl (by decide +kernel) ⟨Nat.le_of_ble_eq_true rfl, Nat.le_of_ble_eq_true rfl⟩) hK hP (by decide) rfl rfl rfl hl.1 rfl (Nat.le_of_ble_eq_true rfl) dX6_plan_65 ⟨Nat.zero_le _, Nat.zero_le _⟩) hS hAd (fun r65 S65 H locs hw hP _ hS => ?_)
          obtain ⟨er65, eS65⟩ := hw
          rw [eS65] at hP
          refine x_iret hx hb hr hlocks hP hS dX6_plan_68 ?_
          subst er52; subst er65
          exact ⟨by first | (simp [su_su, su_at, q6, en6, q15, q25, c59]; done) | grind, by first | (simp [su_su, su_at, q6, en6, q15, q25, c59]; done) | grind⟩
      · have hw : r25 = 0 := hw.trans (if_neg q25)
        subst hw
        refine lv_if_ne (tgt := 46) hx hb dX6_plan_28 (by decide) (fun hc => absurd (by decide) hc) (fun _ => ?_)
        refine lv_iload hx hb dX6_plan_31 (lv_at hl 5 rfl) ?_
        refine lv_bipush (v := 10) hx hb dX6_plan_33 (by decide +kernel) ?_
        refine lv_bipush (v := 13) hx hb dX6_plan_35 (by decide +kernel) ?_
        refine x_calli (x_runS (As := [.int wn, .int 10, .int 13]) (rest := []) hF (c6_within hI (su S 0 0 0) wn 10 13 ) (va_cwS 3 hts gX6_plan_X6_within rfl rfl rfl (by decide +kernel) ⟨Nat.le_of_ble_eq_true rfl, Nat.le_of_ble_eq_true rfl⟩) hK hP rfl hl.1 rfl (Nat.le_of_ble_eq_true rfl) dX6_plan_37 ⟨Nat.zero_le _, Nat.zero_le _⟩) hS hAd (fun r37 S37 H locs hw hP _ hS => ?_)
        obtain ⟨hw, eS37⟩ := hw
        rw [eS37] at hP
        by_cases q37 : wit wn 10 13 = true
        · have hw : r37 = 1 := hw.trans (if_pos q37)
          subst hw
          refine lv_if_ne (tgt := 46) hx hb dX6_plan_40 (by decide) (fun _ => ?_) (fun hc => absurd hc (by decide))
          refine lv_aload_n hx hb dX6_plan_46 rfl (lv_at hl 0 rfl) ?_
          refine lv_iload_n hx hb dX6_plan_47 rfl (lv_at hl 1 rfl) ?_
          refine lv_iload_n hx hb dX6_plan_48 rfl (lv_at hl 2 rfl) ?_
          refine lv_iload_n hx hb dX6_plan_49 rfl (lv_at hl 3 rfl) ?_
          refine lv_iload hx hb dX6_plan_50 (lv_at hl 4 rfl) ?_
          refine x_calli (x_runV (As := [.int (nI j6), .int ln, .int i, .int n]) (rest := []) hF (c6_against hI (su S 0 0 0) j6 hj6 ln i n) (cwV 4 hts gX6_plan_X6_against rfl rfl rfl (by decide +kernel) ⟨Nat.le_of_ble_eq_true rfl, Nat.le_of_ble_eq_true rfl⟩) hK hP (by decide) rfl rfl rfl hl.1 rfl (Nat.le_of_ble_eq_true rfl) dX6_plan_52 ⟨Nat.zero_le _, Nat.zero_le _⟩) hS hAd (fun r52 S52 H locs hw hP _ hS => ?_)
          obtain ⟨er52, eS52⟩ := hw
          rw [eS52] at hP
          have er52 : r52 = agF S j6 ln i n := er52
          refine lv_istore (lv' := [(6, .int r52), (0, .ref (bd 0)), (1, .int (nI j6)), (2, .int ln), (3, .int i), (4, .int n), (5, .int wn)]) hx hb dX6_plan_55 hl (by decide) rfl (fun ls hl => ?_)
          refine lv_iload hx hb dX6_plan_57 (lv_at hl 0 rfl) ?_
          refine lv_if_eq (tgt := 69) hx hb dX6_plan_59 (by decide) (fun c59 => ?_) (fun c59 => ?_)
          · refine lv_aload_n hx hb dX6_plan_69 rfl (lv_at hl 1 rfl) ?_
            refine x_get (v := .int (S 0 5)) hx hb hts hinX6 hown hK hP 0 (by decide) rfl rfl 5 (by decide) (hts _ (List.mem_of_getElem? (i := 2) rfl)) rfl dX6_plan_70 ?_
            refine lv_if_ne (tgt := 79) hx hb dX6_plan_73 (by decide) (fun c73 => ?_) (fun c73 => ?_)
            · refine lv_iload hx hb dX6_plan_79 (lv_at hl 5 rfl) ?_
              refine lv_aload_n hx hb dX6_plan_81 rfl (lv_at hl 1 rfl) ?_
              refine x_get (v := .int (S 0 7)) hx hb hts hinX6 hown hK hP 0 (by decide) rfl rfl 7 (by decide) (hts _ (List.mem_of_getElem? (i := 3) rfl)) rfl dX6_plan_82 ?_
              refine lv_icmp_eq (tgt := 91) hx hb dX6_plan_85 (by decide) (fun c85 => ?_) (fun c85 => ?_)
              · exact absurd ⟨q6, q15, Or.inr q37, by rw [en6]; subst er52; exact c59, c73, c85⟩ hno
              · refine lv_bipush (v := (-2)) hx hb dX6_plan_88 (by decide +kernel) ?_
                refine x_iret hx hb hr hlocks hP hS dX6_plan_90 ?_
                subst er52
                exact ⟨by first | (simp [su_su, su_at, q6, en6, q15, q25, q37, c59, c73, c85]; done) | grind, by first | (simp [su_su, su_at, q6, en6, q15, q25, q37, c59, c73, c85]; done) | grind⟩
            · refine lv_bipush (v := (-3)) hx hb dX6_plan_76 (by decide +kernel) ?_
              refine x_iret hx hb hr hlocks hP hS dX6_plan_78 ?_
              subst er52
              exact ⟨by first | (simp [su_su, su_at, q6, en6, q15, q25, q37, c59, c73]; done) | grind, by first | (simp [su_su, su_at, q6, en6, q15, q25, q37, c59, c73]; done) | grind⟩
          · refine lv_aload_n hx hb dX6_plan_62 rfl (lv_at hl 1 rfl) ?_
            refine lv_iload hx hb dX6_plan_63 (lv_at hl 0 rfl) ?_
            refine x_calli (x_runV (As := [.int r52]) (rest := []) hF (c6_fails hI (su S 0 0 0) r52 ) (cwV 1 hts gX6_plan_X6_fails rfl rfl rfl (by decide +kernel) ⟨Nat.le_of_ble_eq_true rfl, Nat.le_of_ble_eq_true rfl⟩) hK hP (by decide) rfl rfl rfl hl.1 rfl (Nat.le_of_ble_eq_true rfl) dX6_plan_65 ⟨Nat.zero_le _, Nat.zero_le _⟩) hS hAd (fun r65 S65 H locs hw hP _ hS => ?_)
            obtain ⟨er65, eS65⟩ := hw
            rw [eS65] at hP
            refine x_iret hx hb hr hlocks hP hS dX6_plan_68 ?_
            subst er52; subst er65
            exact ⟨by first | (simp [su_su, su_at, q6, en6, q15, q25, q37, c59]; done) | grind, by first | (simp [su_su, su_at, q6, en6, q15, q25, q37, c59]; done) | grind⟩
        · have hw : r37 = 0 := hw.trans (if_neg q37)
          subst hw
          refine lv_if_ne (tgt := 46) hx hb dX6_plan_40 (by decide) (fun hc => absurd (by decide) hc) (fun _ => ?_)
          refine lv_bipush (v := (-2)) hx hb dX6_plan_43 (by decide +kernel) ?_
          refine x_iret hx hb hr hlocks hP hS dX6_plan_45 ?_
          skip
          exact ⟨by first | (simp [su_su, su_at, q6, en6, q15, q25, q37]; done) | grind, by first | (simp [su_su, su_at, q6, en6, q15, q25, q37]; done) | grind⟩
    · have hw : r15 = 0 := hw.trans (if_neg q15)
      subst hw
      refine lv_if_eq (tgt := 43) hx hb dX6_plan_18 (by decide) (fun _ => ?_) (fun hc => absurd (by decide) hc)
      refine lv_bipush (v := (-2)) hx hb dX6_plan_43 (by decide +kernel) ?_
      refine x_iret hx hb hr hlocks hP hS dX6_plan_45 ?_
      skip
      exact ⟨by first | (simp [su_su, su_at, q6, en6, q15]; done) | grind, by first | (simp [su_su, su_at, q6, en6, q15]; done) | grind⟩
  · have hw : r6 = 0 := hw.trans (if_neg q6)
    subst hw
    refine lv_if_ne (tgt := 14) hx hb dX6_plan_9 (by decide) (fun hc => absurd (by decide) hc) (fun _ => ?_)
    refine lv_iconst (v := (-1)) hx hb dX6_plan_12 (by decide +kernel) ?_
    refine x_iret hx hb hr hlocks hP hS dX6_plan_13 ?_
    skip
    exact ⟨by first | (simp [su_su, su_at, q6]; done) | grind, by first | (simp [su_su, su_at, q6]; done) | grind⟩

end M7
