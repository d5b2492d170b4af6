section LC
variable {p : Program} {l : Launch} {e : Env} {s : State} {m : MethodId} {below : List Frame} {meth : Method} {c : Code} {b L : Nat} {xs : Nat → Int32} {dC : Nat → ClassId} {dI : Nat → Nat → Nat} {cI cZ cS cG : ClassId} {ad bd : Nat → Nat} {S M : xSt} {H : Heap} {locs : List Loc} {ls : Array Slot} {i : Nat}
set_option maxHeartbeats 4000000 in
set_option maxRecDepth 100000 in
theorem lc_treaty (C0 : lw_At p s m meth c b L xs) (hL : L ≤ 384) (hK : va_K (dC, dI) vwCl (tyl cI cZ cS cG) s) (hi : i + 6 ≤ L) (hW : LI dC dI cI cZ cS cG s ad bd S M H) (hS : va_S (fun q : Nat => s.heap.size ≤ q) s.heap H locs) (hl : lv_has ls 4 [(0, .ref b), (1, .ref (ad 0)), (2, .ref (bd 0)), (3, .int (nI i))]) (kk : ∀ (H : Heap) (locs : List Loc) (ad' : Nat → Nat) (S' M' : xSt), ad' 0 = ad 0 → LI dC dI cI cZ cS cG s ad' bd S' M' H → va_S (fun q : Nat => s.heap.size ≤ q) s.heap H locs → W p l e room_1 s m #[Value.ref b] below meth c H locs 60 915 (lw_Z below #[Value.ref b] s) (F0 m 1163 ls [])) : W p l e room_1 s m #[Value.ref b] below meth c H locs 60 915 (lw_Z below #[Value.ref b] s) (F0 m 172 ls []) := by
  obtain ⟨hx, hb, hr0, hml, hown, hts0, hX, hbl, hlocks, hgv⟩ := id C0
  have hts : ∀ w ∈ wsL_law, w.before #[Value.ref b] s = true := fun w h => hts0 w (law_in w h)
  have hbA : ¬ (fun q : Nat => s.heap.size ≤ q) b := Nat.not_le.mpr hbl
  have hF : CallFix p m c cL_law 4 s #[Value.ref b] wsL_law RL := ⟨hx, hb, hml, hown, hts⟩
  obtain ⟨hP, hPm, hI, hJ, hAd, hBd, hdis, hR⟩ := hW
  have hd1 : ∀ k, k < 18 → ¬ xA 42 ad (bd k) := fun k hk h => by obtain ⟨j, h1, h2⟩ := h; exact hdis j k h1 hk h2.symm
  have hd2 : ∀ k, k < 42 → ¬ xA 18 bd (ad k) := fun k hk h => by obtain ⟨j, h1, h2⟩ := h; exact hdis k j hk h1 h2
  have hin : ∀ q, xA 42 ad q → s.heap.size ≤ q := fun q h => by obtain ⟨j, h1, rfl⟩ := h; exact hAd j h1
  rcases st_treaty hI hJ hR (xs (i + 1)) (xs (i + 2)) (xs (i + 3)) (xs (i + 4)) with ⟨pc, pm, hc, hm, hh⟩ | ⟨pc, pm, hc, hm, hh⟩
  · skip
    refine lv_aload_n hx hb dL_law_172 rfl (lv_at hl 1 rfl) ?_
    refine lv_aload_n hx hb dL_law_173 rfl (lv_at hl 0 rfl) ?_
    refine lv_iload_n hx hb dL_law_174 rfl (lv_at hl 3 rfl) ?_
    refine lv_iconst (v := 1) hx hb dL_law_175 (by decide +kernel) ?_
    refine lv_iadd hx hb dL_law_176 ?_
    refine x_sld hx hb hX hbl hbA hS hL (i + 1) (by omega) (nI_add i 1) dL_law_177 ?_
    refine lv_aload_n hx hb dL_law_178 rfl (lv_at hl 0 rfl) ?_
    refine lv_iload_n hx hb dL_law_179 rfl (lv_at hl 3 rfl) ?_
    refine lv_iconst (v := 2) hx hb dL_law_180 (by decide +kernel) ?_
    refine lv_iadd hx hb dL_law_181 ?_
    refine x_sld hx hb hX hbl hbA hS hL (i + 2) (by omega) (nI_add i 2) dL_law_182 ?_
    refine lv_aload_n hx hb dL_law_183 rfl (lv_at hl 0 rfl) ?_
    refine lv_iload_n hx hb dL_law_184 rfl (lv_at hl 3 rfl) ?_
    refine lv_iconst (v := 3) hx hb dL_law_185 (by decide +kernel) ?_
    refine lv_iadd hx hb dL_law_186 ?_
    refine x_sld hx hb hX hbl hbA hS hL (i + 3) (by omega) (nI_add i 3) dL_law_187 ?_
    refine lv_aload_n hx hb dL_law_188 rfl (lv_at hl 0 rfl) ?_
    refine lv_iload_n hx hb dL_law_189 rfl (lv_at hl 3 rfl) ?_
    refine lv_iconst (v := 4) hx hb dL_law_190 (by decide +kernel) ?_
    refine lv_iadd hx hb dL_law_191 ?_
    refine x_sld hx hb hX hbl hbA hS hL (i + 4) (by omega) (nI_add i 4) dL_law_192 ?_
    refine x_calli (x_runV (As := [.int (xs (i + 1)), .int (xs (i + 2)), .int (xs (i + 3)), .int (xs (i + 4))]) (rest := []) hF hc (cwV 4 hts gL_law_X5_treaty rfl rfl rfl (by decide +kernel) ⟨Nat.le_of_ble_eq_true rfl, Nat.le_of_ble_eq_true rfl⟩) hK hP (by decide) rfl rfl rfl hl.1 rfl (Nat.le_of_ble_eq_true rfl) dL_law_193 ⟨Nat.le_of_ble_eq_true rfl, Nat.le_of_ble_eq_true rfl⟩) hS hAd (fun r S1 H locs hw hP hf hS => ?_)
    have hPm := xW_kept hPm hf hd1
    refine lv_aload_n hx hb dL_law_196 rfl (lv_at hl 2 rfl) ?_
    refine lv_aload_n hx hb dL_law_197 rfl (lv_at hl 0 rfl) ?_
    refine lv_iload_n hx hb dL_law_198 rfl (lv_at hl 3 rfl) ?_
    refine lv_iconst (v := 1) hx hb dL_law_199 (by decide +kernel) ?_
    refine lv_iadd hx hb dL_law_200 ?_
    refine x_sld hx hb hX hbl hbA hS hL (i + 1) (by omega) (nI_add i 1) dL_law_201 ?_
    refine lv_aload_n hx hb dL_law_202 rfl (lv_at hl 0 rfl) ?_
    refine lv_iload_n hx hb dL_law_203 rfl (lv_at hl 3 rfl) ?_
    refine lv_iconst (v := 2) hx hb dL_law_204 (by decide +kernel) ?_
    refine lv_iadd hx hb dL_law_205 ?_
    refine x_sld hx hb hX hbl hbA hS hL (i + 2) (by omega) (nI_add i 2) dL_law_206 ?_
    refine lv_aload_n hx hb dL_law_207 rfl (lv_at hl 0 rfl) ?_
    refine lv_iload_n hx hb dL_law_208 rfl (lv_at hl 3 rfl) ?_
    refine lv_iconst (v := 3) hx hb dL_law_209 (by decide +kernel) ?_
    refine lv_iadd hx hb dL_law_210 ?_
    refine x_sld hx hb hX hbl hbA hS hL (i + 3) (by omega) (nI_add i 3) dL_law_211 ?_
    refine lv_aload_n hx hb dL_law_212 rfl (lv_at hl 0 rfl) ?_
    refine lv_iload_n hx hb dL_law_213 rfl (lv_at hl 3 rfl) ?_
    refine lv_iconst (v := 4) hx hb dL_law_214 (by decide +kernel) ?_
    refine lv_iadd hx hb dL_law_215 ?_
    refine x_sld hx hb hX hbl hbA hS hL (i + 4) (by omega) (nI_add i 4) dL_law_216 ?_
    refine x_calli (x_runV (As := [.int (xs (i + 1)), .int (xs (i + 2)), .int (xs (i + 3)), .int (xs (i + 4))]) (rest := [.int r]) hF hm (cwV 4 hts gL_law_X6_treaty rfl rfl rfl (by decide +kernel) ⟨Nat.le_of_ble_eq_true rfl, Nat.le_of_ble_eq_true rfl⟩) hK hPm (by decide) rfl rfl rfl hl.1 rfl (Nat.le_of_ble_eq_true rfl) dL_law_217 ⟨Nat.le_of_ble_eq_true rfl, Nat.le_of_ble_eq_true rfl⟩) hS hBd (fun r2 M1 H locs hw2 hPm hf hS => ?_)
    have hP := xW_kept hP hf hd2
    obtain ⟨hr, hR1⟩ := hh r S1 r2 M1 hw hw2
    refine lv_icmp_eq (tgt := 1163) hx hb dL_law_220 (by decide) (fun _ => ?_) (fun hc => absurd hr hc)
    exact kk _ _ ad S1 M1 rfl ⟨hP, hPm, hI, hJ, hAd, hBd, hdis, hR1⟩ hS
  · skip
    refine lv_aload_n hx hb dL_law_172 rfl (lv_at hl 1 rfl) ?_
    refine lv_aload_n hx hb dL_law_173 rfl (lv_at hl 0 rfl) ?_
    refine lv_iload_n hx hb dL_law_174 rfl (lv_at hl 3 rfl) ?_
    refine lv_iconst (v := 1) hx hb dL_law_175 (by decide +kernel) ?_
    refine lv_iadd hx hb dL_law_176 ?_
    refine x_sld hx hb hX hbl hbA hS hL (i + 1) (by omega) (nI_add i 1) dL_law_177 ?_
    refine lv_aload_n hx hb dL_law_178 rfl (lv_at hl 0 rfl) ?_
    refine lv_iload_n hx hb dL_law_179 rfl (lv_at hl 3 rfl) ?_
    refine lv_iconst (v := 2) hx hb dL_law_180 (by decide +kernel) ?_
    refine lv_iadd hx hb dL_law_181 ?_
    refine x_sld hx hb hX hbl hbA hS hL (i + 2) (by omega) (nI_add i 2) dL_law_182 ?_
    refine lv_aload_n hx hb dL_law_183 rfl (lv_at hl 0 rfl) ?_
    refine lv_iload_n hx hb dL_law_184 rfl (lv_at hl 3 rfl) ?_
    refine lv_iconst (v := 3) hx hb dL_law_185 (by decide +kernel) ?_
    refine lv_iadd hx hb dL_law_186 ?_
    refine x_sld hx hb hX hbl hbA hS hL (i + 3) (by omega) (nI_add i 3) dL_law_187 ?_
    refine lv_aload_n hx hb dL_law_188 rfl (lv_at hl 0 rfl) ?_
    refine lv_iload_n hx hb dL_law_189 rfl (lv_at hl 3 rfl) ?_
    refine lv_iconst (v := 4) hx hb dL_law_190 (by decide +kernel) ?_
    refine lv_iadd hx hb dL_law_191 ?_
    refine x_sld hx hb hX hbl hbA hS hL (i + 4) (by omega) (nI_add i 4) dL_law_192 ?_
    refine va_calli (x_runV (As := [.int (xs (i + 1)), .int (xs (i + 2)), .int (xs (i + 3)), .int (xs (i + 4))]) (rest := []) hF hc (cwV 4 hts gL_law_X5_treaty rfl rfl rfl (by decide +kernel) ⟨Nat.le_of_ble_eq_true rfl, Nat.le_of_ble_eq_true rfl⟩) hK hP (by decide) rfl rfl rfl hl.1 rfl (Nat.le_of_ble_eq_true rfl) dL_law_193 ⟨Nat.le_of_ble_eq_true rfl, Nat.le_of_ble_eq_true rfl⟩) hS (fun q _ h => hin q h) hin (fun r u t H locs ht hvm hw hB _ hf hS => ?_)
    have hP : va_P (dC, dI) vwCl (xW (cLy cI cZ cS cG u.1) 42 u.1 u.2) H := by rw [← ht]; exact hB
    have hPm := xW_kept hPm hf hd1
    refine lv_aload_n hx hb dL_law_196 rfl (lv_at hl 2 rfl) ?_
    refine lv_aload_n hx hb dL_law_197 rfl (lv_at hl 0 rfl) ?_
    refine lv_iload_n hx hb dL_law_198 rfl (lv_at hl 3 rfl) ?_
    refine lv_iconst (v := 1) hx hb dL_law_199 (by decide +kernel) ?_
    refine lv_iadd hx hb dL_law_200 ?_
    refine x_sld hx hb hX hbl hbA hS hL (i + 1) (by omega) (nI_add i 1) dL_law_201 ?_
    refine lv_aload_n hx hb dL_law_202 rfl (lv_at hl 0 rfl) ?_
    refine lv_iload_n hx hb dL_law_203 rfl (lv_at hl 3 rfl) ?_
    refine lv_iconst (v := 2) hx hb dL_law_204 (by decide +kernel) ?_
    refine lv_iadd hx hb dL_law_205 ?_
    refine x_sld hx hb hX hbl hbA hS hL (i + 2) (by omega) (nI_add i 2) dL_law_206 ?_
    refine lv_aload_n hx hb dL_law_207 rfl (lv_at hl 0 rfl) ?_
    refine lv_iload_n hx hb dL_law_208 rfl (lv_at hl 3 rfl) ?_
    refine lv_iconst (v := 3) hx hb dL_law_209 (by decide +kernel) ?_
    refine lv_iadd hx hb dL_law_210 ?_
    refine x_sld hx hb hX hbl hbA hS hL (i + 3) (by omega) (nI_add i 3) dL_law_211 ?_
    refine lv_aload_n hx hb dL_law_212 rfl (lv_at hl 0 rfl) ?_
    refine lv_iload_n hx hb dL_law_213 rfl (lv_at hl 3 rfl) ?_
    refine lv_iconst (v := 4) hx hb dL_law_214 (by decide +kernel) ?_
    refine lv_iadd hx hb dL_law_215 ?_
    refine x_sld hx hb hX hbl hbA hS hL (i + 4) (by omega) (nI_add i 4) dL_law_216 ?_
    refine x_calli (x_runV (As := [.int (xs (i + 1)), .int (xs (i + 2)), .int (xs (i + 3)), .int (xs (i + 4))]) (rest := [.int r]) hF hm (cwV 4 hts gL_law_X6_treaty rfl rfl rfl (by decide +kernel) ⟨Nat.le_of_ble_eq_true rfl, Nat.le_of_ble_eq_true rfl⟩) hK hPm (by decide) rfl rfl rfl hl.1 rfl (Nat.le_of_ble_eq_true rfl) dL_law_217 ⟨Nat.le_of_ble_eq_true rfl, Nat.le_of_ble_eq_true rfl⟩) hS hBd (fun r2 M1 H locs hw2 hPm hf hS => ?_)
    obtain ⟨hr, hR1, had⟩ := hh r u r2 M1 hw hw2
    refine lv_icmp_eq (tgt := 1163) hx hb dL_law_220 (by decide) (fun _ => ?_) (fun hc => absurd hr hc)
    rcases had with had | had
    · have hP := xW_kept hP hf (fun k hk => by rw [had]; exact hd2 k hk)
      rw [had] at hP
      exact kk _ _ ad u.2 M1 rfl ⟨hP, hPm, hI, hJ, hAd, hBd, hdis, hR1⟩ hS
    · have hP := xW_kept hP hf (fun k hk => by rw [had]; exact hd2 (sw k) (sw_lt hk))
      rw [had] at hP
      exact kk _ _ (adS ad) u.2 M1 rfl ⟨hP, hPm, xI_sw hI, hJ, fun k hk => hAd _ (sw_lt hk), hBd, fun i j hi hj => hdis _ _ (sw_lt hi) hj, hR1⟩ hS

set_option maxHeartbeats 4000000 in
set_option maxRecDepth 100000 in
theorem lc_ofSon (C0 : lw_At p s m meth c b L xs) (hL : L ≤ 384) (hK : va_K (dC, dI) vwCl (tyl cI cZ cS cG) s) (hi : i + 6 ≤ L) (hW : LI dC dI cI cZ cS cG s ad bd S M H) (hS : va_S (fun q : Nat => s.heap.size ≤ q) s.heap H locs) (hl : lv_has ls 4 [(0, .ref b), (1, .ref (ad 0)), (2, .ref (bd 0)), (3, .int (nI i))]) (kk : ∀ (H : Heap) (locs : List Loc) (ad' : Nat → Nat) (S' M' : xSt), ad' 0 = ad 0 → LI dC dI cI cZ cS cG s ad' bd S' M' H → va_S (fun q : Nat => s.heap.size ≤ q) s.heap H locs → W p l e room_1 s m #[Value.ref b] below meth c H locs 60 915 (lw_Z below #[Value.ref b] s) (F0 m 1163 ls [])) : W p l e room_1 s m #[Value.ref b] below meth c H locs 60 915 (lw_Z below #[Value.ref b] s) (F0 m 225 ls []) := by
  obtain ⟨hx, hb, hr0, hml, hown, hts0, hX, hbl, hlocks, hgv⟩ := id C0
  have hts : ∀ w ∈ wsL_law, w.before #[Value.ref b] s = true := fun w h => hts0 w (law_in w h)
  have hbA : ¬ (fun q : Nat => s.heap.size ≤ q) b := Nat.not_le.mpr hbl
  have hF : CallFix p m c cL_law 4 s #[Value.ref b] wsL_law RL := ⟨hx, hb, hml, hown, hts⟩
  obtain ⟨hP, hPm, hI, hJ, hAd, hBd, hdis, hR⟩ := hW
  have hd1 : ∀ k, k < 18 → ¬ xA 42 ad (bd k) := fun k hk h => by obtain ⟨j, h1, h2⟩ := h; exact hdis j k h1 hk h2.symm
  have hd2 : ∀ k, k < 42 → ¬ xA 18 bd (ad k) := fun k hk h => by obtain ⟨j, h1, h2⟩ := h; exact hdis k j hk h1 h2
  have hin : ∀ q, xA 42 ad q → s.heap.size ≤ q := fun q h => by obtain ⟨j, h1, rfl⟩ := h; exact hAd j h1
  obtain ⟨pc, pm, hc, hm, hh⟩ := st_ofSon (l := l) (dC := dC) (dI := dI) (cI := cI) (cZ := cZ) (cS := cS) (cG := cG) hI hJ hR (xs (i + 1)) (xs (i + 2))
  refine lv_aload_n hx hb dL_law_225 rfl (lv_at hl 1 rfl) ?_
  refine lv_aload_n hx hb dL_law_226 rfl (lv_at hl 0 rfl) ?_
  refine lv_iload_n hx hb dL_law_227 rfl (lv_at hl 3 rfl) ?_
  refine lv_iconst (v := 1) hx hb dL_law_228 (by decide +kernel) ?_
  refine lv_iadd hx hb dL_law_229 ?_
  refine x_sld hx hb hX hbl hbA hS hL (i + 1) (by omega) (nI_add i 1) dL_law_230 ?_
  refine lv_aload_n hx hb dL_law_231 rfl (lv_at hl 0 rfl) ?_
  refine lv_iload_n hx hb dL_law_232 rfl (lv_at hl 3 rfl) ?_
  refine lv_iconst (v := 2) hx hb dL_law_233 (by decide +kernel) ?_
  refine lv_iadd hx hb dL_law_234 ?_
  refine x_sld hx hb hX hbl hbA hS hL (i + 2) (by omega) (nI_add i 2) dL_law_235 ?_
  refine x_calli (x_runV (As := [.int (xs (i + 1)), .int (xs (i + 2))]) (rest := []) hF hc (cwV 2 hts gL_law_X5_ofSon rfl rfl rfl (by decide +kernel) ⟨Nat.le_of_ble_eq_true rfl, Nat.le_of_ble_eq_true rfl⟩) hK hP (by decide) rfl rfl rfl hl.1 rfl (Nat.le_of_ble_eq_true rfl) dL_law_236 ⟨Nat.le_of_ble_eq_true rfl, Nat.le_of_ble_eq_true rfl⟩) hS hAd (fun r S1 H locs hw hP hf hS => ?_)
  have hPm := xW_kept hPm hf hd1
  refine lv_aload_n hx hb dL_law_239 rfl (lv_at hl 2 rfl) ?_
  refine lv_aload_n hx hb dL_law_240 rfl (lv_at hl 0 rfl) ?_
  refine lv_iload_n hx hb dL_law_241 rfl (lv_at hl 3 rfl) ?_
  refine lv_iconst (v := 1) hx hb dL_law_242 (by decide +kernel) ?_
  refine lv_iadd hx hb dL_law_243 ?_
  refine x_sld hx hb hX hbl hbA hS hL (i + 1) (by omega) (nI_add i 1) dL_law_244 ?_
  refine lv_aload_n hx hb dL_law_245 rfl (lv_at hl 0 rfl) ?_
  refine lv_iload_n hx hb dL_law_246 rfl (lv_at hl 3 rfl) ?_
  refine lv_iconst (v := 2) hx hb dL_law_247 (by decide +kernel) ?_
  refine lv_iadd hx hb dL_law_248 ?_
  refine x_sld hx hb hX hbl hbA hS hL (i + 2) (by omega) (nI_add i 2) dL_law_249 ?_
  refine x_calli (x_runV (As := [.int (xs (i + 1)), .int (xs (i + 2))]) (rest := [.int r]) hF hm (cwV 2 hts gL_law_X6_ofSon rfl rfl rfl (by decide +kernel) ⟨Nat.le_of_ble_eq_true rfl, Nat.le_of_ble_eq_true rfl⟩) hK hPm (by decide) rfl rfl rfl hl.1 rfl (Nat.le_of_ble_eq_true rfl) dL_law_250 ⟨Nat.le_of_ble_eq_true rfl, Nat.le_of_ble_eq_true rfl⟩) hS hBd (fun r2 M1 H locs hw2 hPm hf hS => ?_)
  have hP := xW_kept hP hf hd2
  obtain ⟨hr, hR1⟩ := hh r S1 r2 M1 hw hw2
  refine lv_icmp_eq (tgt := 1163) hx hb dL_law_253 (by decide) (fun _ => ?_) (fun hc => absurd hr hc)
  exact kk _ _ ad S1 M1 rfl ⟨hP, hPm, hI, hJ, hAd, hBd, hdis, hR1⟩ hS

set_option maxHeartbeats 4000000 in
set_option maxRecDepth 100000 in
theorem lc_gain (C0 : lw_At p s m meth c b L xs) (hL : L ≤ 384) (hK : va_K (dC, dI) vwCl (tyl cI cZ cS cG) s) (hi : i + 6 ≤ L) (hW : LI dC dI cI cZ cS cG s ad bd S M H) (hS : va_S (fun q : Nat => s.heap.size ≤ q) s.heap H locs) (hl : lv_has ls 4 [(0, .ref b), (1, .ref (ad 0)), (2, .ref (bd 0)), (3, .int (nI i))]) (kk : ∀ (H : Heap) (locs : List Loc) (ad' : Nat → Nat) (S' M' : xSt), ad' 0 = ad 0 → LI dC dI cI cZ cS cG s ad' bd S' M' H → va_S (fun q : Nat => s.heap.size ≤ q) s.heap H locs → W p l e room_1 s m #[Value.ref b] below meth c H locs 60 915 (lw_Z below #[Value.ref b] s) (F0 m 1163 ls [])) : W p l e room_1 s m #[Value.ref b] below meth c H locs 60 915 (lw_Z below #[Value.ref b] s) (F0 m 258 ls []) := by
  obtain ⟨hx, hb, hr0, hml, hown, hts0, hX, hbl, hlocks, hgv⟩ := id C0
  have hts : ∀ w ∈ wsL_law, w.before #[Value.ref b] s = true := fun w h => hts0 w (law_in w h)
  have hbA : ¬ (fun q : Nat => s.heap.size ≤ q) b := Nat.not_le.mpr hbl
  have hF : CallFix p m c cL_law 4 s #[Value.ref b] wsL_law RL := ⟨hx, hb, hml, hown, hts⟩
  obtain ⟨hP, hPm, hI, hJ, hAd, hBd, hdis, hR⟩ := hW
  have hd1 : ∀ k, k < 18 → ¬ xA 42 ad (bd k) := fun k hk h => by obtain ⟨j, h1, h2⟩ := h; exact hdis j k h1 hk h2.symm
  have hd2 : ∀ k, k < 42 → ¬ xA 18 bd (ad k) := fun k hk h => by obtain ⟨j, h1, h2⟩ := h; exact hdis k j hk h1 h2
  have hin : ∀ q, xA 42 ad q → s.heap.size ≤ q := fun q h => by obtain ⟨j, h1, rfl⟩ := h; exact hAd j h1
  obtain ⟨pc, pm, hc, hm, hh⟩ := st_gain (l := l) (dC := dC) (dI := dI) (cI := cI) (cZ := cZ) (cS := cS) (cG := cG) hI hJ hR (xs (i + 1)) (xs (i + 2))
  refine lv_aload_n hx hb dL_law_258 rfl (lv_at hl 1 rfl) ?_
  refine lv_aload_n hx hb dL_law_259 rfl (lv_at hl 0 rfl) ?_
  refine lv_iload_n hx hb dL_law_260 rfl (lv_at hl 3 rfl) ?_
  refine lv_iconst (v := 1) hx hb dL_law_261 (by decide +kernel) ?_
  refine lv_iadd hx hb dL_law_262 ?_
  refine x_sld hx hb hX hbl hbA hS hL (i + 1) (by omega) (nI_add i 1) dL_law_263 ?_
  refine lv_aload_n hx hb dL_law_264 rfl (lv_at hl 0 rfl) ?_
  refine lv_iload_n hx hb dL_law_265 rfl (lv_at hl 3 rfl) ?_
  refine lv_iconst (v := 2) hx hb dL_law_266 (by decide +kernel) ?_
  refine lv_iadd hx hb dL_law_267 ?_
  refine x_sld hx hb hX hbl hbA hS hL (i + 2) (by omega) (nI_add i 2) dL_law_268 ?_
  refine x_calli (x_runV (As := [.int (xs (i + 1)), .int (xs (i + 2))]) (rest := []) hF hc (cwV 2 hts gL_law_X5_gain rfl rfl rfl (by decide +kernel) ⟨Nat.le_of_ble_eq_true rfl, Nat.le_of_ble_eq_true rfl⟩) hK hP (by decide) rfl rfl rfl hl.1 rfl (Nat.le_of_ble_eq_true rfl) dL_law_269 ⟨Nat.le_of_ble_eq_true rfl, Nat.le_of_ble_eq_true rfl⟩) hS hAd (fun r S1 H locs hw hP hf hS => ?_)
  have hPm := xW_kept hPm hf hd1
  refine lv_aload_n hx hb dL_law_272 rfl (lv_at hl 2 rfl) ?_
  refine lv_aload_n hx hb dL_law_273 rfl (lv_at hl 0 rfl) ?_
  refine lv_iload_n hx hb dL_law_274 rfl (lv_at hl 3 rfl) ?_
  refine lv_iconst (v := 1) hx hb dL_law_275 (by decide +kernel) ?_
  refine lv_iadd hx hb dL_law_276 ?_
  refine x_sld hx hb hX hbl hbA hS hL (i + 1) (by omega) (nI_add i 1) dL_law_277 ?_
  refine lv_aload_n hx hb dL_law_278 rfl (lv_at hl 0 rfl) ?_
  refine lv_iload_n hx hb dL_law_279 rfl (lv_at hl 3 rfl) ?_
  refine lv_iconst (v := 2) hx hb dL_law_280 (by decide +kernel) ?_
  refine lv_iadd hx hb dL_law_281 ?_
  refine x_sld hx hb hX hbl hbA hS hL (i + 2) (by omega) (nI_add i 2) dL_law_282 ?_
  refine x_calli (x_runV (As := [.int (xs (i + 1)), .int (xs (i + 2))]) (rest := [.int r]) hF hm (cwV 2 hts gL_law_X6_gain rfl rfl rfl (by decide +kernel) ⟨Nat.le_of_ble_eq_true rfl, Nat.le_of_ble_eq_true rfl⟩) hK hPm (by decide) rfl rfl rfl hl.1 rfl (Nat.le_of_ble_eq_true rfl) dL_law_283 ⟨Nat.le_of_ble_eq_true rfl, Nat.le_of_ble_eq_true rfl⟩) hS hBd (fun r2 M1 H locs hw2 hPm hf hS => ?_)
  have hP := xW_kept hP hf hd2
  obtain ⟨hr, hR1⟩ := hh r S1 r2 M1 hw hw2
  refine lv_icmp_eq (tgt := 1163) hx hb dL_law_286 (by decide) (fun _ => ?_) (fun hc => absurd hr hc)
  exact kk _ _ ad S1 M1 rfl ⟨hP, hPm, hI, hJ, hAd, hBd, hdis, hR1⟩ hS

set_option maxHeartbeats 4000000 in
set_option maxRecDepth 100000 in
theorem lc_tempt (C0 : lw_At p s m meth c b L xs) (hL : L ≤ 384) (hK : va_K (dC, dI) vwCl (tyl cI cZ cS cG) s) (hi : i + 6 ≤ L) (hW : LI dC dI cI cZ cS cG s ad bd S M H) (hS : va_S (fun q : Nat => s.heap.size ≤ q) s.heap H locs) (hl : lv_has ls 4 [(0, .ref b), (1, .ref (ad 0)), (2, .ref (bd 0)), (3, .int (nI i))]) (kk : ∀ (H : Heap) (locs : List Loc) (ad' : Nat → Nat) (S' M' : xSt), ad' 0 = ad 0 → LI dC dI cI cZ cS cG s ad' bd S' M' H → va_S (fun q : Nat => s.heap.size ≤ q) s.heap H locs → W p l e room_1 s m #[Value.ref b] below meth c H locs 60 915 (lw_Z below #[Value.ref b] s) (F0 m 1163 ls [])) : W p l e room_1 s m #[Value.ref b] below meth c H locs 60 915 (lw_Z below #[Value.ref b] s) (F0 m 291 ls []) := by
  obtain ⟨hx, hb, hr0, hml, hown, hts0, hX, hbl, hlocks, hgv⟩ := id C0
  have hts : ∀ w ∈ wsL_law, w.before #[Value.ref b] s = true := fun w h => hts0 w (law_in w h)
  have hbA : ¬ (fun q : Nat => s.heap.size ≤ q) b := Nat.not_le.mpr hbl
  have hF : CallFix p m c cL_law 4 s #[Value.ref b] wsL_law RL := ⟨hx, hb, hml, hown, hts⟩
  obtain ⟨hP, hPm, hI, hJ, hAd, hBd, hdis, hR⟩ := hW
  have hd1 : ∀ k, k < 18 → ¬ xA 42 ad (bd k) := fun k hk h => by obtain ⟨j, h1, h2⟩ := h; exact hdis j k h1 hk h2.symm
  have hd2 : ∀ k, k < 42 → ¬ xA 18 bd (ad k) := fun k hk h => by obtain ⟨j, h1, h2⟩ := h; exact hdis k j hk h1 h2
  have hin : ∀ q, xA 42 ad q → s.heap.size ≤ q := fun q h => by obtain ⟨j, h1, rfl⟩ := h; exact hAd j h1
  obtain ⟨pc, pm, hc, hm, hh⟩ := st_tempt (l := l) (dC := dC) (dI := dI) (cI := cI) (cZ := cZ) (cS := cS) (cG := cG) hI hJ hR (xs (i + 1)) (xs (i + 2)) (xs (i + 3))
  refine lv_aload_n hx hb dL_law_291 rfl (lv_at hl 1 rfl) ?_
  refine lv_aload_n hx hb dL_law_292 rfl (lv_at hl 0 rfl) ?_
  refine lv_iload_n hx hb dL_law_293 rfl (lv_at hl 3 rfl) ?_
  refine lv_iconst (v := 1) hx hb dL_law_294 (by decide +kernel) ?_
  refine lv_iadd hx hb dL_law_295 ?_
  refine x_sld hx hb hX hbl hbA hS hL (i + 1) (by omega) (nI_add i 1) dL_law_296 ?_
  refine lv_aload_n hx hb dL_law_297 rfl (lv_at hl 0 rfl) ?_
  refine lv_iload_n hx hb dL_law_298 rfl (lv_at hl 3 rfl) ?_
  refine lv_iconst (v := 2) hx hb dL_law_299 (by decide +kernel) ?_
  refine lv_iadd hx hb dL_law_300 ?_
  refine x_sld hx hb hX hbl hbA hS hL (i + 2) (by omega) (nI_add i 2) dL_law_301 ?_
  refine lv_aload_n hx hb dL_law_302 rfl (lv_at hl 0 rfl) ?_
  refine lv_iload_n hx hb dL_law_303 rfl (lv_at hl 3 rfl) ?_
  refine lv_iconst (v := 3) hx hb dL_law_304 (by decide +kernel) ?_
  refine lv_iadd hx hb dL_law_305 ?_
  refine x_sld hx hb hX hbl hbA hS hL (i + 3) (by omega) (nI_add i 3) dL_law_306 ?_
  refine x_calli (x_runV (As := [.int (xs (i + 1)), .int (xs (i + 2)), .int (xs (i + 3))]) (rest := []) hF hc (cwV 3 hts gL_law_X5_tempt rfl rfl rfl (by decide +kernel) ⟨Nat.le_of_ble_eq_true rfl, Nat.le_of_ble_eq_true rfl⟩) hK hP (by decide) rfl rfl rfl hl.1 rfl (Nat.le_of_ble_eq_true rfl) dL_law_307 ⟨Nat.le_of_ble_eq_true rfl, Nat.le_of_ble_eq_true rfl⟩) hS hAd (fun r S1 H locs hw hP hf hS => ?_)
  have hPm := xW_kept hPm hf hd1
  refine lv_aload_n hx hb dL_law_310 rfl (lv_at hl 2 rfl) ?_
  refine lv_aload_n hx hb dL_law_311 rfl (lv_at hl 0 rfl) ?_
  refine lv_iload_n hx hb dL_law_312 rfl (lv_at hl 3 rfl) ?_
  refine lv_iconst (v := 1) hx hb dL_law_313 (by decide +kernel) ?_
  refine lv_iadd hx hb dL_law_314 ?_
  refine x_sld hx hb hX hbl hbA hS hL (i + 1) (by omega) (nI_add i 1) dL_law_315 ?_
  refine lv_aload_n hx hb dL_law_316 rfl (lv_at hl 0 rfl) ?_
  refine lv_iload_n hx hb dL_law_317 rfl (lv_at hl 3 rfl) ?_
  refine lv_iconst (v := 2) hx hb dL_law_318 (by decide +kernel) ?_
  refine lv_iadd hx hb dL_law_319 ?_
  refine x_sld hx hb hX hbl hbA hS hL (i + 2) (by omega) (nI_add i 2) dL_law_320 ?_
  refine lv_aload_n hx hb dL_law_321 rfl (lv_at hl 0 rfl) ?_
  refine lv_iload_n hx hb dL_law_322 rfl (lv_at hl 3 rfl) ?_
  refine lv_iconst (v := 3) hx hb dL_law_323 (by decide +kernel) ?_
  refine lv_iadd hx hb dL_law_324 ?_
  refine x_sld hx hb hX hbl hbA hS hL (i + 3) (by omega) (nI_add i 3) dL_law_325 ?_
  refine x_calli (x_runV (As := [.int (xs (i + 1)), .int (xs (i + 2)), .int (xs (i + 3))]) (rest := [.int r]) hF hm (cwV 3 hts gL_law_X6_tempt rfl rfl rfl (by decide +kernel) ⟨Nat.le_of_ble_eq_true rfl, Nat.le_of_ble_eq_true rfl⟩) hK hPm (by decide) rfl rfl rfl hl.1 rfl (Nat.le_of_ble_eq_true rfl) dL_law_326 ⟨Nat.le_of_ble_eq_true rfl, Nat.le_of_ble_eq_true rfl⟩) hS hBd (fun r2 M1 H locs hw2 hPm hf hS => ?_)
  have hP := xW_kept hP hf hd2
  obtain ⟨hr, hR1⟩ := hh r S1 r2 M1 hw hw2
  refine lv_icmp_eq (tgt := 1163) hx hb dL_law_329 (by decide) (fun _ => ?_) (fun hc => absurd hr hc)
  exact kk _ _ ad S1 M1 rfl ⟨hP, hPm, hI, hJ, hAd, hBd, hdis, hR1⟩ hS

set_option maxHeartbeats 4000000 in
set_option maxRecDepth 100000 in
theorem lc_send (C0 : lw_At p s m meth c b L xs) (hL : L ≤ 384) (hK : va_K (dC, dI) vwCl (tyl cI cZ cS cG) s) (hi : i + 6 ≤ L) (hW : LI dC dI cI cZ cS cG s ad bd S M H) (hS : va_S (fun q : Nat => s.heap.size ≤ q) s.heap H locs) (hl : lv_has ls 4 [(0, .ref b), (1, .ref (ad 0)), (2, .ref (bd 0)), (3, .int (nI i))]) (kk : ∀ (H : Heap) (locs : List Loc) (ad' : Nat → Nat) (S' M' : xSt), ad' 0 = ad 0 → LI dC dI cI cZ cS cG s ad' bd S' M' H → va_S (fun q : Nat => s.heap.size ≤ q) s.heap H locs → W p l e room_1 s m #[Value.ref b] below meth c H locs 60 915 (lw_Z below #[Value.ref b] s) (F0 m 1163 ls [])) : W p l e room_1 s m #[Value.ref b] below meth c H locs 60 915 (lw_Z below #[Value.ref b] s) (F0 m 334 ls []) := by
  obtain ⟨hx, hb, hr0, hml, hown, hts0, hX, hbl, hlocks, hgv⟩ := id C0
  have hts : ∀ w ∈ wsL_law, w.before #[Value.ref b] s = true := fun w h => hts0 w (law_in w h)
  have hbA : ¬ (fun q : Nat => s.heap.size ≤ q) b := Nat.not_le.mpr hbl
  have hF : CallFix p m c cL_law 4 s #[Value.ref b] wsL_law RL := ⟨hx, hb, hml, hown, hts⟩
  obtain ⟨hP, hPm, hI, hJ, hAd, hBd, hdis, hR⟩ := hW
  have hd1 : ∀ k, k < 18 → ¬ xA 42 ad (bd k) := fun k hk h => by obtain ⟨j, h1, h2⟩ := h; exact hdis j k h1 hk h2.symm
  have hd2 : ∀ k, k < 42 → ¬ xA 18 bd (ad k) := fun k hk h => by obtain ⟨j, h1, h2⟩ := h; exact hdis k j hk h1 h2
  have hin : ∀ q, xA 42 ad q → s.heap.size ≤ q := fun q h => by obtain ⟨j, h1, rfl⟩ := h; exact hAd j h1
  obtain ⟨pc, pm, hc, hm, hh⟩ := st_send (l := l) (dC := dC) (dI := dI) (cI := cI) (cZ := cZ) (cS := cS) (cG := cG) hI hJ hR (xs (i + 1)) (xs (i + 2)) (xs (i + 3))
  refine lv_aload_n hx hb dL_law_334 rfl (lv_at hl 1 rfl) ?_
  refine lv_aload_n hx hb dL_law_335 rfl (lv_at hl 0 rfl) ?_
  refine lv_iload_n hx hb dL_law_336 rfl (lv_at hl 3 rfl) ?_
  refine lv_iconst (v := 1) hx hb dL_law_337 (by decide +kernel) ?_
  refine lv_iadd hx hb dL_law_338 ?_
  refine x_sld hx hb hX hbl hbA hS hL (i + 1) (by omega) (nI_add i 1) dL_law_339 ?_
  refine lv_aload_n hx hb dL_law_340 rfl (lv_at hl 0 rfl) ?_
  refine lv_iload_n hx hb dL_law_341 rfl (lv_at hl 3 rfl) ?_
  refine lv_iconst (v := 2) hx hb dL_law_342 (by decide +kernel) ?_
  refine lv_iadd hx hb dL_law_343 ?_
  refine x_sld hx hb hX hbl hbA hS hL (i + 2) (by omega) (nI_add i 2) dL_law_344 ?_
  refine lv_aload_n hx hb dL_law_345 rfl (lv_at hl 0 rfl) ?_
  refine lv_iload_n hx hb dL_law_346 rfl (lv_at hl 3 rfl) ?_
  refine lv_iconst (v := 3) hx hb dL_law_347 (by decide +kernel) ?_
  refine lv_iadd hx hb dL_law_348 ?_
  refine x_sld hx hb hX hbl hbA hS hL (i + 3) (by omega) (nI_add i 3) dL_law_349 ?_
  refine x_calli (x_runV (As := [.int (xs (i + 1)), .int (xs (i + 2)), .int (xs (i + 3))]) (rest := []) hF hc (cwV 3 hts gL_law_X5_send rfl rfl rfl (by decide +kernel) ⟨Nat.le_of_ble_eq_true rfl, Nat.le_of_ble_eq_true rfl⟩) hK hP (by decide) rfl rfl rfl hl.1 rfl (Nat.le_of_ble_eq_true rfl) dL_law_350 ⟨Nat.le_of_ble_eq_true rfl, Nat.le_of_ble_eq_true rfl⟩) hS hAd (fun r S1 H locs hw hP hf hS => ?_)
  have hPm := xW_kept hPm hf hd1
  refine lv_aload_n hx hb dL_law_353 rfl (lv_at hl 2 rfl) ?_
  refine lv_aload_n hx hb dL_law_354 rfl (lv_at hl 0 rfl) ?_
  refine lv_iload_n hx hb dL_law_355 rfl (lv_at hl 3 rfl) ?_
  refine lv_iconst (v := 1) hx hb dL_law_356 (by decide +kernel) ?_
  refine lv_iadd hx hb dL_law_357 ?_
  refine x_sld hx hb hX hbl hbA hS hL (i + 1) (by omega) (nI_add i 1) dL_law_358 ?_
  refine lv_aload_n hx hb dL_law_359 rfl (lv_at hl 0 rfl) ?_
  refine lv_iload_n hx hb dL_law_360 rfl (lv_at hl 3 rfl) ?_
  refine lv_iconst (v := 2) hx hb dL_law_361 (by decide +kernel) ?_
  refine lv_iadd hx hb dL_law_362 ?_
  refine x_sld hx hb hX hbl hbA hS hL (i + 2) (by omega) (nI_add i 2) dL_law_363 ?_
  refine lv_aload_n hx hb dL_law_364 rfl (lv_at hl 0 rfl) ?_
  refine lv_iload_n hx hb dL_law_365 rfl (lv_at hl 3 rfl) ?_
  refine lv_iconst (v := 3) hx hb dL_law_366 (by decide +kernel) ?_
  refine lv_iadd hx hb dL_law_367 ?_
  refine x_sld hx hb hX hbl hbA hS hL (i + 3) (by omega) (nI_add i 3) dL_law_368 ?_
  refine x_calli (x_runV (As := [.int (xs (i + 1)), .int (xs (i + 2)), .int (xs (i + 3))]) (rest := [.int r]) hF hm (cwV 3 hts gL_law_X6_send rfl rfl rfl (by decide +kernel) ⟨Nat.le_of_ble_eq_true rfl, Nat.le_of_ble_eq_true rfl⟩) hK hPm (by decide) rfl rfl rfl hl.1 rfl (Nat.le_of_ble_eq_true rfl) dL_law_369 ⟨Nat.le_of_ble_eq_true rfl, Nat.le_of_ble_eq_true rfl⟩) hS hBd (fun r2 M1 H locs hw2 hPm hf hS => ?_)
  have hP := xW_kept hP hf hd2
  obtain ⟨hr, hR1⟩ := hh r S1 r2 M1 hw hw2
  refine lv_icmp_eq (tgt := 1163) hx hb dL_law_372 (by decide) (fun _ => ?_) (fun hc => absurd hr hc)
  exact kk _ _ ad S1 M1 rfl ⟨hP, hPm, hI, hJ, hAd, hBd, hdis, hR1⟩ hS

set_option maxHeartbeats 4000000 in
set_option maxRecDepth 100000 in
theorem lc_home (C0 : lw_At p s m meth c b L xs) (hL : L ≤ 384) (hK : va_K (dC, dI) vwCl (tyl cI cZ cS cG) s) (hi : i + 6 ≤ L) (hW : LI dC dI cI cZ cS cG s ad bd S M H) (hS : va_S (fun q : Nat => s.heap.size ≤ q) s.heap H locs) (hl : lv_has ls 4 [(0, .ref b), (1, .ref (ad 0)), (2, .ref (bd 0)), (3, .int (nI i))]) (kk : ∀ (H : Heap) (locs : List Loc) (ad' : Nat → Nat) (S' M' : xSt), ad' 0 = ad 0 → LI dC dI cI cZ cS cG s ad' bd S' M' H → va_S (fun q : Nat => s.heap.size ≤ q) s.heap H locs → W p l e room_1 s m #[Value.ref b] below meth c H locs 60 915 (lw_Z below #[Value.ref b] s) (F0 m 1163 ls [])) : W p l e room_1 s m #[Value.ref b] below meth c H locs 60 915 (lw_Z below #[Value.ref b] s) (F0 m 377 ls []) := by
  obtain ⟨hx, hb, hr0, hml, hown, hts0, hX, hbl, hlocks, hgv⟩ := id C0
  have hts : ∀ w ∈ wsL_law, w.before #[Value.ref b] s = true := fun w h => hts0 w (law_in w h)
  have hbA : ¬ (fun q : Nat => s.heap.size ≤ q) b := Nat.not_le.mpr hbl
  have hF : CallFix p m c cL_law 4 s #[Value.ref b] wsL_law RL := ⟨hx, hb, hml, hown, hts⟩
  obtain ⟨hP, hPm, hI, hJ, hAd, hBd, hdis, hR⟩ := hW
  have hd1 : ∀ k, k < 18 → ¬ xA 42 ad (bd k) := fun k hk h => by obtain ⟨j, h1, h2⟩ := h; exact hdis j k h1 hk h2.symm
  have hd2 : ∀ k, k < 42 → ¬ xA 18 bd (ad k) := fun k hk h => by obtain ⟨j, h1, h2⟩ := h; exact hdis k j hk h1 h2
  have hin : ∀ q, xA 42 ad q → s.heap.size ≤ q := fun q h => by obtain ⟨j, h1, rfl⟩ := h; exact hAd j h1
  obtain ⟨pc, pm, hc, hm, hh⟩ := st_home (l := l) (dC := dC) (dI := dI) (cI := cI) (cZ := cZ) (cS := cS) (cG := cG) hI hJ hR (xs (i + 1))
  refine lv_aload_n hx hb dL_law_377 rfl (lv_at hl 1 rfl) ?_
  refine lv_aload_n hx hb dL_law_378 rfl (lv_at hl 0 rfl) ?_
  refine lv_iload_n hx hb dL_law_379 rfl (lv_at hl 3 rfl) ?_
  refine lv_iconst (v := 1) hx hb dL_law_380 (by decide +kernel) ?_
  refine lv_iadd hx hb dL_law_381 ?_
  refine x_sld hx hb hX hbl hbA hS hL (i + 1) (by omega) (nI_add i 1) dL_law_382 ?_
  refine x_calli (x_runV (As := [.int (xs (i + 1))]) (rest := []) hF hc (cwV 1 hts gL_law_X5_home rfl rfl rfl (by decide +kernel) ⟨Nat.le_of_ble_eq_true rfl, Nat.le_of_ble_eq_true rfl⟩) hK hP (by decide) rfl rfl rfl hl.1 rfl (Nat.le_of_ble_eq_true rfl) dL_law_383 ⟨Nat.le_of_ble_eq_true rfl, Nat.le_of_ble_eq_true rfl⟩) hS hAd (fun r S1 H locs hw hP hf hS => ?_)
  have hPm := xW_kept hPm hf hd1
  refine lv_aload_n hx hb dL_law_386 rfl (lv_at hl 2 rfl) ?_
  refine lv_aload_n hx hb dL_law_387 rfl (lv_at hl 0 rfl) ?_
  refine lv_iload_n hx hb dL_law_388 rfl (lv_at hl 3 rfl) ?_
  refine lv_iconst (v := 1) hx hb dL_law_389 (by decide +kernel) ?_
  refine lv_iadd hx hb dL_law_390 ?_
  refine x_sld hx hb hX hbl hbA hS hL (i + 1) (by omega) (nI_add i 1) dL_law_391 ?_
  refine x_calli (x_runV (As := [.int (xs (i + 1))]) (rest := [.int r]) hF hm (cwV 1 hts gL_law_X6_home rfl rfl rfl (by decide +kernel) ⟨Nat.le_of_ble_eq_true rfl, Nat.le_of_ble_eq_true rfl⟩) hK hPm (by decide) rfl rfl rfl hl.1 rfl (Nat.le_of_ble_eq_true rfl) dL_law_392 ⟨Nat.le_of_ble_eq_true rfl, Nat.le_of_ble_eq_true rfl⟩) hS hBd (fun r2 M1 H locs hw2 hPm hf hS => ?_)
  have hP := xW_kept hP hf hd2
  obtain ⟨hr, hR1⟩ := hh r S1 r2 M1 hw hw2
  refine lv_icmp_eq (tgt := 1163) hx hb dL_law_395 (by decide) (fun _ => ?_) (fun hc => absurd hr hc)
  exact kk _ _ ad S1 M1 rfl ⟨hP, hPm, hI, hJ, hAd, hBd, hdis, hR1⟩ hS

set_option maxHeartbeats 4000000 in
set_option maxRecDepth 100000 in
theorem lc_stake (C0 : lw_At p s m meth c b L xs) (hL : L ≤ 384) (hK : va_K (dC, dI) vwCl (tyl cI cZ cS cG) s) (hi : i + 6 ≤ L) (hW : LI dC dI cI cZ cS cG s ad bd S M H) (hS : va_S (fun q : Nat => s.heap.size ≤ q) s.heap H locs) (hl : lv_has ls 4 [(0, .ref b), (1, .ref (ad 0)), (2, .ref (bd 0)), (3, .int (nI i))]) (kk : ∀ (H : Heap) (locs : List Loc) (ad' : Nat → Nat) (S' M' : xSt), ad' 0 = ad 0 → LI dC dI cI cZ cS cG s ad' bd S' M' H → va_S (fun q : Nat => s.heap.size ≤ q) s.heap H locs → W p l e room_1 s m #[Value.ref b] below meth c H locs 60 915 (lw_Z below #[Value.ref b] s) (F0 m 1163 ls [])) : W p l e room_1 s m #[Value.ref b] below meth c H locs 60 915 (lw_Z below #[Value.ref b] s) (F0 m 400 ls []) := by
  obtain ⟨hx, hb, hr0, hml, hown, hts0, hX, hbl, hlocks, hgv⟩ := id C0
  have hts : ∀ w ∈ wsL_law, w.before #[Value.ref b] s = true := fun w h => hts0 w (law_in w h)
  have hbA : ¬ (fun q : Nat => s.heap.size ≤ q) b := Nat.not_le.mpr hbl
  have hF : CallFix p m c cL_law 4 s #[Value.ref b] wsL_law RL := ⟨hx, hb, hml, hown, hts⟩
  obtain ⟨hP, hPm, hI, hJ, hAd, hBd, hdis, hR⟩ := hW
  have hd1 : ∀ k, k < 18 → ¬ xA 42 ad (bd k) := fun k hk h => by obtain ⟨j, h1, h2⟩ := h; exact hdis j k h1 hk h2.symm
  have hd2 : ∀ k, k < 42 → ¬ xA 18 bd (ad k) := fun k hk h => by obtain ⟨j, h1, h2⟩ := h; exact hdis k j hk h1 h2
  have hin : ∀ q, xA 42 ad q → s.heap.size ≤ q := fun q h => by obtain ⟨j, h1, rfl⟩ := h; exact hAd j h1
  obtain ⟨pc, pm, hc, hm, hh⟩ := st_stake (l := l) (dC := dC) (dI := dI) (cI := cI) (cZ := cZ) (cS := cS) (cG := cG) hI hJ hR (xs (i + 1)) (xs (i + 2))
  refine lv_aload_n hx hb dL_law_400 rfl (lv_at hl 1 rfl) ?_
  refine lv_aload_n hx hb dL_law_401 rfl (lv_at hl 0 rfl) ?_
  refine lv_iload_n hx hb dL_law_402 rfl (lv_at hl 3 rfl) ?_
  refine lv_iconst (v := 1) hx hb dL_law_403 (by decide +kernel) ?_
  refine lv_iadd hx hb dL_law_404 ?_
  refine x_sld hx hb hX hbl hbA hS hL (i + 1) (by omega) (nI_add i 1) dL_law_405 ?_
  refine lv_aload_n hx hb dL_law_406 rfl (lv_at hl 0 rfl) ?_
  refine lv_iload_n hx hb dL_law_407 rfl (lv_at hl 3 rfl) ?_
  refine lv_iconst (v := 2) hx hb dL_law_408 (by decide +kernel) ?_
  refine lv_iadd hx hb dL_law_409 ?_
  refine x_sld hx hb hX hbl hbA hS hL (i + 2) (by omega) (nI_add i 2) dL_law_410 ?_
  refine x_calli (x_runV (As := [.int (xs (i + 1)), .int (xs (i + 2))]) (rest := []) hF hc (cwV 2 hts gL_law_X5_stake rfl rfl rfl (by decide +kernel) ⟨Nat.le_of_ble_eq_true rfl, Nat.le_of_ble_eq_true rfl⟩) hK hP (by decide) rfl rfl rfl hl.1 rfl (Nat.le_of_ble_eq_true rfl) dL_law_411 ⟨Nat.le_of_ble_eq_true rfl, Nat.le_of_ble_eq_true rfl⟩) hS hAd (fun r S1 H locs hw hP hf hS => ?_)
  have hPm := xW_kept hPm hf hd1
  refine lv_aload_n hx hb dL_law_414 rfl (lv_at hl 2 rfl) ?_
  refine lv_aload_n hx hb dL_law_415 rfl (lv_at hl 0 rfl) ?_
  refine lv_iload_n hx hb dL_law_416 rfl (lv_at hl 3 rfl) ?_
  refine lv_iconst (v := 1) hx hb dL_law_417 (by decide +kernel) ?_
  refine lv_iadd hx hb dL_law_418 ?_
  refine x_sld hx hb hX hbl hbA hS hL (i + 1) (by omega) (nI_add i 1) dL_law_419 ?_
  refine lv_aload_n hx hb dL_law_420 rfl (lv_at hl 0 rfl) ?_
  refine lv_iload_n hx hb dL_law_421 rfl (lv_at hl 3 rfl) ?_
  refine lv_iconst (v := 2) hx hb dL_law_422 (by decide +kernel) ?_
  refine lv_iadd hx hb dL_law_423 ?_
  refine x_sld hx hb hX hbl hbA hS hL (i + 2) (by omega) (nI_add i 2) dL_law_424 ?_
  refine x_calli (x_runV (As := [.int (xs (i + 1)), .int (xs (i + 2))]) (rest := [.int r]) hF hm (cwV 2 hts gL_law_X6_stake rfl rfl rfl (by decide +kernel) ⟨Nat.le_of_ble_eq_true rfl, Nat.le_of_ble_eq_true rfl⟩) hK hPm (by decide) rfl rfl rfl hl.1 rfl (Nat.le_of_ble_eq_true rfl) dL_law_425 ⟨Nat.le_of_ble_eq_true rfl, Nat.le_of_ble_eq_true rfl⟩) hS hBd (fun r2 M1 H locs hw2 hPm hf hS => ?_)
  have hP := xW_kept hP hf hd2
  obtain ⟨hr, hR1⟩ := hh r S1 r2 M1 hw hw2
  refine lv_icmp_eq (tgt := 1163) hx hb dL_law_428 (by decide) (fun _ => ?_) (fun hc => absurd hr hc)
  exact kk _ _ ad S1 M1 rfl ⟨hP, hPm, hI, hJ, hAd, hBd, hdis, hR1⟩ hS

set_option maxHeartbeats 4000000 in
set_option maxRecDepth 100000 in
theorem lc_stakes (C0 : lw_At p s m meth c b L xs) (hL : L ≤ 384) (hK : va_K (dC, dI) vwCl (tyl cI cZ cS cG) s) (hi : i + 6 ≤ L) (hW : LI dC dI cI cZ cS cG s ad bd S M H) (hS : va_S (fun q : Nat => s.heap.size ≤ q) s.heap H locs) (hl : lv_has ls 4 [(0, .ref b), (1, .ref (ad 0)), (2, .ref (bd 0)), (3, .int (nI i))]) (kk : ∀ (H : Heap) (locs : List Loc) (ad' : Nat → Nat) (S' M' : xSt), ad' 0 = ad 0 → LI dC dI cI cZ cS cG s ad' bd S' M' H → va_S (fun q : Nat => s.heap.size ≤ q) s.heap H locs → W p l e room_1 s m #[Value.ref b] below meth c H locs 60 915 (lw_Z below #[Value.ref b] s) (F0 m 1163 ls [])) : W p l e room_1 s m #[Value.ref b] below meth c H locs 60 915 (lw_Z below #[Value.ref b] s) (F0 m 433 ls []) := by
  obtain ⟨hx, hb, hr0, hml, hown, hts0, hX, hbl, hlocks, hgv⟩ := id C0
  have hts : ∀ w ∈ wsL_law, w.before #[Value.ref b] s = true := fun w h => hts0 w (law_in w h)
  have hbA : ¬ (fun q : Nat => s.heap.size ≤ q) b := Nat.not_le.mpr hbl
  have hF : CallFix p m c cL_law 4 s #[Value.ref b] wsL_law RL := ⟨hx, hb, hml, hown, hts⟩
  obtain ⟨hP, hPm, hI, hJ, hAd, hBd, hdis, hR⟩ := hW
  have hd1 : ∀ k, k < 18 → ¬ xA 42 ad (bd k) := fun k hk h => by obtain ⟨j, h1, h2⟩ := h; exact hdis j k h1 hk h2.symm
  have hd2 : ∀ k, k < 42 → ¬ xA 18 bd (ad k) := fun k hk h => by obtain ⟨j, h1, h2⟩ := h; exact hdis k j hk h1 h2
  have hin : ∀ q, xA 42 ad q → s.heap.size ≤ q := fun q h => by obtain ⟨j, h1, rfl⟩ := h; exact hAd j h1
  obtain ⟨pc, pm, hc, hm, hh⟩ := st_stakes (l := l) (dC := dC) (dI := dI) (cI := cI) (cZ := cZ) (cS := cS) (cG := cG) hI hJ hR (xs (i + 1)) (xs (i + 2))
  refine lv_aload_n hx hb dL_law_433 rfl (lv_at hl 1 rfl) ?_
  refine lv_aload_n hx hb dL_law_434 rfl (lv_at hl 0 rfl) ?_
  refine lv_iload_n hx hb dL_law_435 rfl (lv_at hl 3 rfl) ?_
  refine lv_iconst (v := 1) hx hb dL_law_436 (by decide +kernel) ?_
  refine lv_iadd hx hb dL_law_437 ?_
  refine x_sld hx hb hX hbl hbA hS hL (i + 1) (by omega) (nI_add i 1) dL_law_438 ?_
  refine lv_aload_n hx hb dL_law_439 rfl (lv_at hl 0 rfl) ?_
  refine lv_iload_n hx hb dL_law_440 rfl (lv_at hl 3 rfl) ?_
  refine lv_iconst (v := 2) hx hb dL_law_441 (by decide +kernel) ?_
  refine lv_iadd hx hb dL_law_442 ?_
  refine x_sld hx hb hX hbl hbA hS hL (i + 2) (by omega) (nI_add i 2) dL_law_443 ?_
  refine x_calli (x_runV (As := [.int (xs (i + 1)), .int (xs (i + 2))]) (rest := []) hF hc (cwV 2 hts gL_law_X5_stakes rfl rfl rfl (by decide +kernel) ⟨Nat.le_of_ble_eq_true rfl, Nat.le_of_ble_eq_true rfl⟩) hK hP (by decide) rfl rfl rfl hl.1 rfl (Nat.le_of_ble_eq_true rfl) dL_law_444 ⟨Nat.le_of_ble_eq_true rfl, Nat.le_of_ble_eq_true rfl⟩) hS hAd (fun r S1 H locs hw hP hf hS => ?_)
  have hPm := xW_kept hPm hf hd1
  refine lv_aload_n hx hb dL_law_447 rfl (lv_at hl 2 rfl) ?_
  refine lv_aload_n hx hb dL_law_448 rfl (lv_at hl 0 rfl) ?_
  refine lv_iload_n hx hb dL_law_449 rfl (lv_at hl 3 rfl) ?_
  refine lv_iconst (v := 1) hx hb dL_law_450 (by decide +kernel) ?_
  refine lv_iadd hx hb dL_law_451 ?_
  refine x_sld hx hb hX hbl hbA hS hL (i + 1) (by omega) (nI_add i 1) dL_law_452 ?_
  refine lv_aload_n hx hb dL_law_453 rfl (lv_at hl 0 rfl) ?_
  refine lv_iload_n hx hb dL_law_454 rfl (lv_at hl 3 rfl) ?_
  refine lv_iconst (v := 2) hx hb dL_law_455 (by decide +kernel) ?_
  refine lv_iadd hx hb dL_law_456 ?_
  refine x_sld hx hb hX hbl hbA hS hL (i + 2) (by omega) (nI_add i 2) dL_law_457 ?_
  refine x_calli (x_runV (As := [.int (xs (i + 1)), .int (xs (i + 2))]) (rest := [.int r]) hF hm (cwV 2 hts gL_law_X6_stakes rfl rfl rfl (by decide +kernel) ⟨Nat.le_of_ble_eq_true rfl, Nat.le_of_ble_eq_true rfl⟩) hK hPm (by decide) rfl rfl rfl hl.1 rfl (Nat.le_of_ble_eq_true rfl) dL_law_458 ⟨Nat.le_of_ble_eq_true rfl, Nat.le_of_ble_eq_true rfl⟩) hS hBd (fun r2 M1 H locs hw2 hPm hf hS => ?_)
  have hP := xW_kept hP hf hd2
  obtain ⟨hr, hR1⟩ := hh r S1 r2 M1 hw hw2
  refine lv_icmp_eq (tgt := 1163) hx hb dL_law_461 (by decide) (fun _ => ?_) (fun hc => absurd hr hc)
  exact kk _ _ ad S1 M1 rfl ⟨hP, hPm, hI, hJ, hAd, hBd, hdis, hR1⟩ hS

set_option maxHeartbeats 4000000 in
set_option maxRecDepth 100000 in
theorem lc_tempted (C0 : lw_At p s m meth c b L xs) (hL : L ≤ 384) (hK : va_K (dC, dI) vwCl (tyl cI cZ cS cG) s) (hi : i + 6 ≤ L) (hW : LI dC dI cI cZ cS cG s ad bd S M H) (hS : va_S (fun q : Nat => s.heap.size ≤ q) s.heap H locs) (hl : lv_has ls 4 [(0, .ref b), (1, .ref (ad 0)), (2, .ref (bd 0)), (3, .int (nI i))]) (kk : ∀ (H : Heap) (locs : List Loc) (ad' : Nat → Nat) (S' M' : xSt), ad' 0 = ad 0 → LI dC dI cI cZ cS cG s ad' bd S' M' H → va_S (fun q : Nat => s.heap.size ≤ q) s.heap H locs → W p l e room_1 s m #[Value.ref b] below meth c H locs 60 915 (lw_Z below #[Value.ref b] s) (F0 m 1163 ls [])) : W p l e room_1 s m #[Value.ref b] below meth c H locs 60 915 (lw_Z below #[Value.ref b] s) (F0 m 466 ls []) := by
  obtain ⟨hx, hb, hr0, hml, hown, hts0, hX, hbl, hlocks, hgv⟩ := id C0
  have hts : ∀ w ∈ wsL_law, w.before #[Value.ref b] s = true := fun w h => hts0 w (law_in w h)
  have hbA : ¬ (fun q : Nat => s.heap.size ≤ q) b := Nat.not_le.mpr hbl
  have hF : CallFix p m c cL_law 4 s #[Value.ref b] wsL_law RL := ⟨hx, hb, hml, hown, hts⟩
  obtain ⟨hP, hPm, hI, hJ, hAd, hBd, hdis, hR⟩ := hW
  have hd1 : ∀ k, k < 18 → ¬ xA 42 ad (bd k) := fun k hk h => by obtain ⟨j, h1, h2⟩ := h; exact hdis j k h1 hk h2.symm
  have hd2 : ∀ k, k < 42 → ¬ xA 18 bd (ad k) := fun k hk h => by obtain ⟨j, h1, h2⟩ := h; exact hdis k j hk h1 h2
  have hin : ∀ q, xA 42 ad q → s.heap.size ≤ q := fun q h => by obtain ⟨j, h1, rfl⟩ := h; exact hAd j h1
  obtain ⟨pc, pm, hc, hm, hh⟩ := st_tempted (l := l) (dC := dC) (dI := dI) (cI := cI) (cZ := cZ) (cS := cS) (cG := cG) hI hJ hR (xs (i + 1))
  refine lv_aload_n hx hb dL_law_466 rfl (lv_at hl 1 rfl) ?_
  refine lv_aload_n hx hb dL_law_467 rfl (lv_at hl 0 rfl) ?_
  refine lv_iload_n hx hb dL_law_468 rfl (lv_at hl 3 rfl) ?_
  refine lv_iconst (v := 1) hx hb dL_law_469 (by decide +kernel) ?_
  refine lv_iadd hx hb dL_law_470 ?_
  refine x_sld hx hb hX hbl hbA hS hL (i + 1) (by omega) (nI_add i 1) dL_law_471 ?_
  refine x_calli (x_runV (As := [.int (xs (i + 1))]) (rest := []) hF hc (cwV 1 hts gL_law_X5_tempted rfl rfl rfl (by decide +kernel) ⟨Nat.le_of_ble_eq_true rfl, Nat.le_of_ble_eq_true rfl⟩) hK hP (by decide) rfl rfl rfl hl.1 rfl (Nat.le_of_ble_eq_true rfl) dL_law_472 ⟨Nat.le_of_ble_eq_true rfl, Nat.le_of_ble_eq_true rfl⟩) hS hAd (fun r S1 H locs hw hP hf hS => ?_)
  have hPm := xW_kept hPm hf hd1
  refine lv_aload_n hx hb dL_law_475 rfl (lv_at hl 2 rfl) ?_
  refine lv_aload_n hx hb dL_law_476 rfl (lv_at hl 0 rfl) ?_
  refine lv_iload_n hx hb dL_law_477 rfl (lv_at hl 3 rfl) ?_
  refine lv_iconst (v := 1) hx hb dL_law_478 (by decide +kernel) ?_
  refine lv_iadd hx hb dL_law_479 ?_
  refine x_sld hx hb hX hbl hbA hS hL (i + 1) (by omega) (nI_add i 1) dL_law_480 ?_
  refine x_calli (x_runV (As := [.int (xs (i + 1))]) (rest := [.int r]) hF hm (cwV 1 hts gL_law_X6_tempted rfl rfl rfl (by decide +kernel) ⟨Nat.le_of_ble_eq_true rfl, Nat.le_of_ble_eq_true rfl⟩) hK hPm (by decide) rfl rfl rfl hl.1 rfl (Nat.le_of_ble_eq_true rfl) dL_law_481 ⟨Nat.le_of_ble_eq_true rfl, Nat.le_of_ble_eq_true rfl⟩) hS hBd (fun r2 M1 H locs hw2 hPm hf hS => ?_)
  have hP := xW_kept hP hf hd2
  obtain ⟨hr, hR1⟩ := hh r S1 r2 M1 hw hw2
  refine lv_icmp_eq (tgt := 1163) hx hb dL_law_484 (by decide) (fun _ => ?_) (fun hc => absurd hr hc)
  exact kk _ _ ad S1 M1 rfl ⟨hP, hPm, hI, hJ, hAd, hBd, hdis, hR1⟩ hS

set_option maxHeartbeats 4000000 in
set_option maxRecDepth 100000 in
theorem lc_broken (C0 : lw_At p s m meth c b L xs) (hL : L ≤ 384) (hK : va_K (dC, dI) vwCl (tyl cI cZ cS cG) s) (hi : i + 6 ≤ L) (hW : LI dC dI cI cZ cS cG s ad bd S M H) (hS : va_S (fun q : Nat => s.heap.size ≤ q) s.heap H locs) (hl : lv_has ls 4 [(0, .ref b), (1, .ref (ad 0)), (2, .ref (bd 0)), (3, .int (nI i))]) (kk : ∀ (H : Heap) (locs : List Loc) (ad' : Nat → Nat) (S' M' : xSt), ad' 0 = ad 0 → LI dC dI cI cZ cS cG s ad' bd S' M' H → va_S (fun q : Nat => s.heap.size ≤ q) s.heap H locs → W p l e room_1 s m #[Value.ref b] below meth c H locs 60 915 (lw_Z below #[Value.ref b] s) (F0 m 1163 ls [])) : W p l e room_1 s m #[Value.ref b] below meth c H locs 60 915 (lw_Z below #[Value.ref b] s) (F0 m 489 ls []) := by
  obtain ⟨hx, hb, hr0, hml, hown, hts0, hX, hbl, hlocks, hgv⟩ := id C0
  have hts : ∀ w ∈ wsL_law, w.before #[Value.ref b] s = true := fun w h => hts0 w (law_in w h)
  have hbA : ¬ (fun q : Nat => s.heap.size ≤ q) b := Nat.not_le.mpr hbl
  have hF : CallFix p m c cL_law 4 s #[Value.ref b] wsL_law RL := ⟨hx, hb, hml, hown, hts⟩
  obtain ⟨hP, hPm, hI, hJ, hAd, hBd, hdis, hR⟩ := hW
  have hd1 : ∀ k, k < 18 → ¬ xA 42 ad (bd k) := fun k hk h => by obtain ⟨j, h1, h2⟩ := h; exact hdis j k h1 hk h2.symm
  have hd2 : ∀ k, k < 42 → ¬ xA 18 bd (ad k) := fun k hk h => by obtain ⟨j, h1, h2⟩ := h; exact hdis k j hk h1 h2
  have hin : ∀ q, xA 42 ad q → s.heap.size ≤ q := fun q h => by obtain ⟨j, h1, rfl⟩ := h; exact hAd j h1
  obtain ⟨pc, pm, hc, hm, hh⟩ := st_broken (l := l) (dC := dC) (dI := dI) (cI := cI) (cZ := cZ) (cS := cS) (cG := cG) hI hJ hR (xs (i + 1))
  refine lv_aload_n hx hb dL_law_489 rfl (lv_at hl 1 rfl) ?_
  refine lv_aload_n hx hb dL_law_490 rfl (lv_at hl 0 rfl) ?_
  refine lv_iload_n hx hb dL_law_491 rfl (lv_at hl 3 rfl) ?_
  refine lv_iconst (v := 1) hx hb dL_law_492 (by decide +kernel) ?_
  refine lv_iadd hx hb dL_law_493 ?_
  refine x_sld hx hb hX hbl hbA hS hL (i + 1) (by omega) (nI_add i 1) dL_law_494 ?_
  refine x_calli (x_runV (As := [.int (xs (i + 1))]) (rest := []) hF hc (cwV 1 hts gL_law_X5_broken rfl rfl rfl (by decide +kernel) ⟨Nat.le_of_ble_eq_true rfl, Nat.le_of_ble_eq_true rfl⟩) hK hP (by decide) rfl rfl rfl hl.1 rfl (Nat.le_of_ble_eq_true rfl) dL_law_495 ⟨Nat.le_of_ble_eq_true rfl, Nat.le_of_ble_eq_true rfl⟩) hS hAd (fun r S1 H locs hw hP hf hS => ?_)
  have hPm := xW_kept hPm hf hd1
  refine lv_aload_n hx hb dL_law_498 rfl (lv_at hl 2 rfl) ?_
  refine lv_aload_n hx hb dL_law_499 rfl (lv_at hl 0 rfl) ?_
  refine lv_iload_n hx hb dL_law_500 rfl (lv_at hl 3 rfl) ?_
  refine lv_iconst (v := 1) hx hb dL_law_501 (by decide +kernel) ?_
  refine lv_iadd hx hb dL_law_502 ?_
  refine x_sld hx hb hX hbl hbA hS hL (i + 1) (by omega) (nI_add i 1) dL_law_503 ?_
  refine x_calli (x_runV (As := [.int (xs (i + 1))]) (rest := [.int r]) hF hm (cwV 1 hts gL_law_X6_broken rfl rfl rfl (by decide +kernel) ⟨Nat.le_of_ble_eq_true rfl, Nat.le_of_ble_eq_true rfl⟩) hK hPm (by decide) rfl rfl rfl hl.1 rfl (Nat.le_of_ble_eq_true rfl) dL_law_504 ⟨Nat.le_of_ble_eq_true rfl, Nat.le_of_ble_eq_true rfl⟩) hS hBd (fun r2 M1 H locs hw2 hPm hf hS => ?_)
  have hP := xW_kept hP hf hd2
  obtain ⟨hr, hR1⟩ := hh r S1 r2 M1 hw hw2
  refine lv_icmp_eq (tgt := 1163) hx hb dL_law_507 (by decide) (fun _ => ?_) (fun hc => absurd hr hc)
  exact kk _ _ ad S1 M1 rfl ⟨hP, hPm, hI, hJ, hAd, hBd, hdis, hR1⟩ hS

set_option maxHeartbeats 4000000 in
set_option maxRecDepth 100000 in
theorem lc_plan (C0 : lw_At p s m meth c b L xs) (hL : L ≤ 384) (hK : va_K (dC, dI) vwCl (tyl cI cZ cS cG) s) (hi : i + 6 ≤ L) (hW : LI dC dI cI cZ cS cG s ad bd S M H) (hS : va_S (fun q : Nat => s.heap.size ≤ q) s.heap H locs) (hl : lv_has ls 4 [(0, .ref b), (1, .ref (ad 0)), (2, .ref (bd 0)), (3, .int (nI i))]) (kk : ∀ (H : Heap) (locs : List Loc) (ad' : Nat → Nat) (S' M' : xSt), ad' 0 = ad 0 → LI dC dI cI cZ cS cG s ad' bd S' M' H → va_S (fun q : Nat => s.heap.size ≤ q) s.heap H locs → W p l e room_1 s m #[Value.ref b] below meth c H locs 60 915 (lw_Z below #[Value.ref b] s) (F0 m 1163 ls [])) : W p l e room_1 s m #[Value.ref b] below meth c H locs 60 915 (lw_Z below #[Value.ref b] s) (F0 m 512 ls []) := by
  obtain ⟨hx, hb, hr0, hml, hown, hts0, hX, hbl, hlocks, hgv⟩ := id C0
  have hts : ∀ w ∈ wsL_law, w.before #[Value.ref b] s = true := fun w h => hts0 w (law_in w h)
  have hbA : ¬ (fun q : Nat => s.heap.size ≤ q) b := Nat.not_le.mpr hbl
  have hF : CallFix p m c cL_law 4 s #[Value.ref b] wsL_law RL := ⟨hx, hb, hml, hown, hts⟩
  obtain ⟨hP, hPm, hI, hJ, hAd, hBd, hdis, hR⟩ := hW
  have hd1 : ∀ k, k < 18 → ¬ xA 42 ad (bd k) := fun k hk h => by obtain ⟨j, h1, h2⟩ := h; exact hdis j k h1 hk h2.symm
  have hd2 : ∀ k, k < 42 → ¬ xA 18 bd (ad k) := fun k hk h => by obtain ⟨j, h1, h2⟩ := h; exact hdis k j hk h1 h2
  have hin : ∀ q, xA 42 ad q → s.heap.size ≤ q := fun q h => by obtain ⟨j, h1, rfl⟩ := h; exact hAd j h1
  obtain ⟨pc, pm, hc, hm, hh⟩ := st_plan (l := l) (dC := dC) (dI := dI) (cI := cI) (cZ := cZ) (cS := cS) (cG := cG) hI hJ hR (xs (i + 1)) (xs (i + 2)) (xs (i + 3)) (xs (i + 4)) (xs (i + 5))
  refine lv_aload_n hx hb dL_law_512 rfl (lv_at hl 1 rfl) ?_
  refine lv_aload_n hx hb dL_law_513 rfl (lv_at hl 0 rfl) ?_
  refine lv_iload_n hx hb dL_law_514 rfl (lv_at hl 3 rfl) ?_
  refine lv_iconst (v := 1) hx hb dL_law_515 (by decide +kernel) ?_
  refine lv_iadd hx hb dL_law_516 ?_
  refine x_sld hx hb hX hbl hbA hS hL (i + 1) (by omega) (nI_add i 1) dL_law_517 ?_
  refine lv_aload_n hx hb dL_law_518 rfl (lv_at hl 0 rfl) ?_
  refine lv_iload_n hx hb dL_law_519 rfl (lv_at hl 3 rfl) ?_
  refine lv_iconst (v := 2) hx hb dL_law_520 (by decide +kernel) ?_
  refine lv_iadd hx hb dL_law_521 ?_
  refine x_sld hx hb hX hbl hbA hS hL (i + 2) (by omega) (nI_add i 2) dL_law_522 ?_
  refine lv_aload_n hx hb dL_law_523 rfl (lv_at hl 0 rfl) ?_
  refine lv_iload_n hx hb dL_law_524 rfl (lv_at hl 3 rfl) ?_
  refine lv_iconst (v := 3) hx hb dL_law_525 (by decide +kernel) ?_
  refine lv_iadd hx hb dL_law_526 ?_
  refine x_sld hx hb hX hbl hbA hS hL (i + 3) (by omega) (nI_add i 3) dL_law_527 ?_
  refine lv_aload_n hx hb dL_law_528 rfl (lv_at hl 0 rfl) ?_
  refine lv_iload_n hx hb dL_law_529 rfl (lv_at hl 3 rfl) ?_
  refine lv_iconst (v := 4) hx hb dL_law_530 (by decide +kernel) ?_
  refine lv_iadd hx hb dL_law_531 ?_
  refine x_sld hx hb hX hbl hbA hS hL (i + 4) (by omega) (nI_add i 4) dL_law_532 ?_
  refine lv_aload_n hx hb dL_law_533 rfl (lv_at hl 0 rfl) ?_
  refine lv_iload_n hx hb dL_law_534 rfl (lv_at hl 3 rfl) ?_
  refine lv_iconst (v := 5) hx hb dL_law_535 (by decide +kernel) ?_
  refine lv_iadd hx hb dL_law_536 ?_
  refine x_sld hx hb hX hbl hbA hS hL (i + 5) (by omega) (nI_add i 5) dL_law_537 ?_
  refine x_calli (x_runV (As := [.int (xs (i + 1)), .int (xs (i + 2)), .int (xs (i + 3)), .int (xs (i + 4)), .int (xs (i + 5))]) (rest := []) hF hc (cwV 5 hts gL_law_X5_plan rfl rfl rfl (by decide +kernel) ⟨Nat.le_of_ble_eq_true rfl, Nat.le_of_ble_eq_true rfl⟩) hK hP (by decide) rfl rfl rfl hl.1 rfl (Nat.le_of_ble_eq_true rfl) dL_law_538 ⟨Nat.le_of_ble_eq_true rfl, Nat.le_of_ble_eq_true rfl⟩) hS hAd (fun r S1 H locs hw hP hf hS => ?_)
  have hPm := xW_kept hPm hf hd1
  refine lv_aload_n hx hb dL_law_541 rfl (lv_at hl 2 rfl) ?_
  refine lv_aload_n hx hb dL_law_542 rfl (lv_at hl 0 rfl) ?_
  refine lv_iload_n hx hb dL_law_543 rfl (lv_at hl 3 rfl) ?_
  refine lv_iconst (v := 1) hx hb dL_law_544 (by decide +kernel) ?_
  refine lv_iadd hx hb dL_law_545 ?_
  refine x_sld hx hb hX hbl hbA hS hL (i + 1) (by omega) (nI_add i 1) dL_law_546 ?_
  refine lv_aload_n hx hb dL_law_547 rfl (lv_at hl 0 rfl) ?_
  refine lv_iload_n hx hb dL_law_548 rfl (lv_at hl 3 rfl) ?_
  refine lv_iconst (v := 2) hx hb dL_law_549 (by decide +kernel) ?_
  refine lv_iadd hx hb dL_law_550 ?_
  refine x_sld hx hb hX hbl hbA hS hL (i + 2) (by omega) (nI_add i 2) dL_law_551 ?_
  refine lv_aload_n hx hb dL_law_552 rfl (lv_at hl 0 rfl) ?_
  refine lv_iload_n hx hb dL_law_553 rfl (lv_at hl 3 rfl) ?_
  refine lv_iconst (v := 3) hx hb dL_law_554 (by decide +kernel) ?_
  refine lv_iadd hx hb dL_law_555 ?_
  refine x_sld hx hb hX hbl hbA hS hL (i + 3) (by omega) (nI_add i 3) dL_law_556 ?_
  refine lv_aload_n hx hb dL_law_557 rfl (lv_at hl 0 rfl) ?_
  refine lv_iload_n hx hb dL_law_558 rfl (lv_at hl 3 rfl) ?_
  refine lv_iconst (v := 4) hx hb dL_law_559 (by decide +kernel) ?_
  refine lv_iadd hx hb dL_law_560 ?_
  refine x_sld hx hb hX hbl hbA hS hL (i + 4) (by omega) (nI_add i 4) dL_law_561 ?_
  refine lv_aload_n hx hb dL_law_562 rfl (lv_at hl 0 rfl) ?_
  refine lv_iload_n hx hb dL_law_563 rfl (lv_at hl 3 rfl) ?_
  refine lv_iconst (v := 5) hx hb dL_law_564 (by decide +kernel) ?_
  refine lv_iadd hx hb dL_law_565 ?_
  refine x_sld hx hb hX hbl hbA hS hL (i + 5) (by omega) (nI_add i 5) dL_law_566 ?_
  refine x_calli (x_runV (As := [.int (xs (i + 1)), .int (xs (i + 2)), .int (xs (i + 3)), .int (xs (i + 4)), .int (xs (i + 5))]) (rest := [.int r]) hF hm (cwV 5 hts gL_law_X6_plan rfl rfl rfl (by decide +kernel) ⟨Nat.le_of_ble_eq_true rfl, Nat.le_of_ble_eq_true rfl⟩) hK hPm (by decide) rfl rfl rfl hl.1 rfl (Nat.le_of_ble_eq_true rfl) dL_law_567 ⟨Nat.le_of_ble_eq_true rfl, Nat.le_of_ble_eq_true rfl⟩) hS hBd (fun r2 M1 H locs hw2 hPm hf hS => ?_)
  have hP := xW_kept hP hf hd2
  obtain ⟨hr, hR1⟩ := hh r S1 r2 M1 hw hw2
  refine lv_icmp_eq (tgt := 1163) hx hb dL_law_570 (by decide) (fun _ => ?_) (fun hc => absurd hr hc)
  exact kk _ _ ad S1 M1 rfl ⟨hP, hPm, hI, hJ, hAd, hBd, hdis, hR1⟩ hS

set_option maxHeartbeats 4000000 in
set_option maxRecDepth 100000 in
theorem lc_least (C0 : lw_At p s m meth c b L xs) (hL : L ≤ 384) (hK : va_K (dC, dI) vwCl (tyl cI cZ cS cG) s) (hi : i + 6 ≤ L) (hW : LI dC dI cI cZ cS cG s ad bd S M H) (hS : va_S (fun q : Nat => s.heap.size ≤ q) s.heap H locs) (hl : lv_has ls 4 [(0, .ref b), (1, .ref (ad 0)), (2, .ref (bd 0)), (3, .int (nI i))]) (kk : ∀ (H : Heap) (locs : List Loc) (ad' : Nat → Nat) (S' M' : xSt), ad' 0 = ad 0 → LI dC dI cI cZ cS cG s ad' bd S' M' H → va_S (fun q : Nat => s.heap.size ≤ q) s.heap H locs → W p l e room_1 s m #[Value.ref b] below meth c H locs 60 915 (lw_Z below #[Value.ref b] s) (F0 m 1163 ls [])) : W p l e room_1 s m #[Value.ref b] below meth c H locs 60 915 (lw_Z below #[Value.ref b] s) (F0 m 575 ls []) := by
  obtain ⟨hx, hb, hr0, hml, hown, hts0, hX, hbl, hlocks, hgv⟩ := id C0
  have hts : ∀ w ∈ wsL_law, w.before #[Value.ref b] s = true := fun w h => hts0 w (law_in w h)
  have hbA : ¬ (fun q : Nat => s.heap.size ≤ q) b := Nat.not_le.mpr hbl
  have hF : CallFix p m c cL_law 4 s #[Value.ref b] wsL_law RL := ⟨hx, hb, hml, hown, hts⟩
  obtain ⟨hP, hPm, hI, hJ, hAd, hBd, hdis, hR⟩ := hW
  have hd1 : ∀ k, k < 18 → ¬ xA 42 ad (bd k) := fun k hk h => by obtain ⟨j, h1, h2⟩ := h; exact hdis j k h1 hk h2.symm
  have hd2 : ∀ k, k < 42 → ¬ xA 18 bd (ad k) := fun k hk h => by obtain ⟨j, h1, h2⟩ := h; exact hdis k j hk h1 h2
  have hin : ∀ q, xA 42 ad q → s.heap.size ≤ q := fun q h => by obtain ⟨j, h1, rfl⟩ := h; exact hAd j h1
  obtain ⟨pc, pm, hc, hm, hh⟩ := st_least (l := l) (dC := dC) (dI := dI) (cI := cI) (cZ := cZ) (cS := cS) (cG := cG) hI hJ hR 
  refine lv_aload_n hx hb dL_law_575 rfl (lv_at hl 1 rfl) ?_
  refine x_calli (x_runV (As := []) (rest := []) hF hc (cwV 0 hts gL_law_X5_least rfl rfl rfl (by decide +kernel) ⟨Nat.le_of_ble_eq_true rfl, Nat.le_of_ble_eq_true rfl⟩) hK hP (by decide) rfl rfl rfl hl.1 rfl (Nat.le_of_ble_eq_true rfl) dL_law_576 ⟨Nat.le_of_ble_eq_true rfl, Nat.le_of_ble_eq_true rfl⟩) hS hAd (fun r S1 H locs hw hP hf hS => ?_)
  have hPm := xW_kept hPm hf hd1
  refine lv_aload_n hx hb dL_law_579 rfl (lv_at hl 2 rfl) ?_
  refine x_calli (x_runV (As := []) (rest := [.int r]) hF hm (cwV 0 hts gL_law_X6_least rfl rfl rfl (by decide +kernel) ⟨Nat.le_of_ble_eq_true rfl, Nat.le_of_ble_eq_true rfl⟩) hK hPm (by decide) rfl rfl rfl hl.1 rfl (Nat.le_of_ble_eq_true rfl) dL_law_580 ⟨Nat.le_of_ble_eq_true rfl, Nat.le_of_ble_eq_true rfl⟩) hS hBd (fun r2 M1 H locs hw2 hPm hf hS => ?_)
  have hP := xW_kept hP hf hd2
  obtain ⟨hr, hR1⟩ := hh r S1 r2 M1 hw hw2
  refine lv_icmp_eq (tgt := 1163) hx hb dL_law_583 (by decide) (fun _ => ?_) (fun hc => absurd hr hc)
  exact kk _ _ ad S1 M1 rfl ⟨hP, hPm, hI, hJ, hAd, hBd, hdis, hR1⟩ hS

set_option maxHeartbeats 4000000 in
set_option maxRecDepth 100000 in
theorem lc_hole (C0 : lw_At p s m meth c b L xs) (hL : L ≤ 384) (hK : va_K (dC, dI) vwCl (tyl cI cZ cS cG) s) (hi : i + 6 ≤ L) (hW : LI dC dI cI cZ cS cG s ad bd S M H) (hS : va_S (fun q : Nat => s.heap.size ≤ q) s.heap H locs) (hl : lv_has ls 4 [(0, .ref b), (1, .ref (ad 0)), (2, .ref (bd 0)), (3, .int (nI i))]) (kk : ∀ (H : Heap) (locs : List Loc) (ad' : Nat → Nat) (S' M' : xSt), ad' 0 = ad 0 → LI dC dI cI cZ cS cG s ad' bd S' M' H → va_S (fun q : Nat => s.heap.size ≤ q) s.heap H locs → W p l e room_1 s m #[Value.ref b] below meth c H locs 60 915 (lw_Z below #[Value.ref b] s) (F0 m 1163 ls [])) : W p l e room_1 s m #[Value.ref b] below meth c H locs 60 915 (lw_Z below #[Value.ref b] s) (F0 m 588 ls []) := by
  obtain ⟨hx, hb, hr0, hml, hown, hts0, hX, hbl, hlocks, hgv⟩ := id C0
  have hts : ∀ w ∈ wsL_law, w.before #[Value.ref b] s = true := fun w h => hts0 w (law_in w h)
  have hbA : ¬ (fun q : Nat => s.heap.size ≤ q) b := Nat.not_le.mpr hbl
  have hF : CallFix p m c cL_law 4 s #[Value.ref b] wsL_law RL := ⟨hx, hb, hml, hown, hts⟩
  obtain ⟨hP, hPm, hI, hJ, hAd, hBd, hdis, hR⟩ := hW
  have hd1 : ∀ k, k < 18 → ¬ xA 42 ad (bd k) := fun k hk h => by obtain ⟨j, h1, h2⟩ := h; exact hdis j k h1 hk h2.symm
  have hd2 : ∀ k, k < 42 → ¬ xA 18 bd (ad k) := fun k hk h => by obtain ⟨j, h1, h2⟩ := h; exact hdis k j hk h1 h2
  have hin : ∀ q, xA 42 ad q → s.heap.size ≤ q := fun q h => by obtain ⟨j, h1, rfl⟩ := h; exact hAd j h1
  obtain ⟨pc, pm, hc, hm, hh⟩ := st_hole (l := l) (dC := dC) (dI := dI) (cI := cI) (cZ := cZ) (cS := cS) (cG := cG) hI hJ hR (xs (i + 1))
  refine lv_aload_n hx hb dL_law_588 rfl (lv_at hl 1 rfl) ?_
  refine lv_aload_n hx hb dL_law_589 rfl (lv_at hl 0 rfl) ?_
  refine lv_iload_n hx hb dL_law_590 rfl (lv_at hl 3 rfl) ?_
  refine lv_iconst (v := 1) hx hb dL_law_591 (by decide +kernel) ?_
  refine lv_iadd hx hb dL_law_592 ?_
  refine x_sld hx hb hX hbl hbA hS hL (i + 1) (by omega) (nI_add i 1) dL_law_593 ?_
  refine x_calli (x_runV (As := [.int (xs (i + 1))]) (rest := []) hF hc (cwV 1 hts gL_law_X5_hole rfl rfl rfl (by decide +kernel) ⟨Nat.le_of_ble_eq_true rfl, Nat.le_of_ble_eq_true rfl⟩) hK hP (by decide) rfl rfl rfl hl.1 rfl (Nat.le_of_ble_eq_true rfl) dL_law_594 ⟨Nat.le_of_ble_eq_true rfl, Nat.le_of_ble_eq_true rfl⟩) hS hAd (fun r S1 H locs hw hP hf hS => ?_)
  have hPm := xW_kept hPm hf hd1
  refine lv_aload_n hx hb dL_law_597 rfl (lv_at hl 2 rfl) ?_
  refine lv_aload_n hx hb dL_law_598 rfl (lv_at hl 0 rfl) ?_
  refine lv_iload_n hx hb dL_law_599 rfl (lv_at hl 3 rfl) ?_
  refine lv_iconst (v := 1) hx hb dL_law_600 (by decide +kernel) ?_
  refine lv_iadd hx hb dL_law_601 ?_
  refine x_sld hx hb hX hbl hbA hS hL (i + 1) (by omega) (nI_add i 1) dL_law_602 ?_
  refine x_calli (x_runV (As := [.int (xs (i + 1))]) (rest := [.int r]) hF hm (cwV 1 hts gL_law_X6_hole rfl rfl rfl (by decide +kernel) ⟨Nat.le_of_ble_eq_true rfl, Nat.le_of_ble_eq_true rfl⟩) hK hPm (by decide) rfl rfl rfl hl.1 rfl (Nat.le_of_ble_eq_true rfl) dL_law_603 ⟨Nat.le_of_ble_eq_true rfl, Nat.le_of_ble_eq_true rfl⟩) hS hBd (fun r2 M1 H locs hw2 hPm hf hS => ?_)
  have hP := xW_kept hP hf hd2
  obtain ⟨hr, hR1⟩ := hh r S1 r2 M1 hw hw2
  refine lv_icmp_eq (tgt := 1163) hx hb dL_law_606 (by decide) (fun _ => ?_) (fun hc => absurd hr hc)
  exact kk _ _ ad S1 M1 rfl ⟨hP, hPm, hI, hJ, hAd, hBd, hdis, hR1⟩ hS

set_option maxHeartbeats 4000000 in
set_option maxRecDepth 100000 in
theorem lc_when (C0 : lw_At p s m meth c b L xs) (hL : L ≤ 384) (hK : va_K (dC, dI) vwCl (tyl cI cZ cS cG) s) (hi : i + 6 ≤ L) (hW : LI dC dI cI cZ cS cG s ad bd S M H) (hS : va_S (fun q : Nat => s.heap.size ≤ q) s.heap H locs) (hl : lv_has ls 4 [(0, .ref b), (1, .ref (ad 0)), (2, .ref (bd 0)), (3, .int (nI i))]) (kk : ∀ (H : Heap) (locs : List Loc) (ad' : Nat → Nat) (S' M' : xSt), ad' 0 = ad 0 → LI dC dI cI cZ cS cG s ad' bd S' M' H → va_S (fun q : Nat => s.heap.size ≤ q) s.heap H locs → W p l e room_1 s m #[Value.ref b] below meth c H locs 60 915 (lw_Z below #[Value.ref b] s) (F0 m 1163 ls [])) : W p l e room_1 s m #[Value.ref b] below meth c H locs 60 915 (lw_Z below #[Value.ref b] s) (F0 m 611 ls []) := by
  obtain ⟨hx, hb, hr0, hml, hown, hts0, hX, hbl, hlocks, hgv⟩ := id C0
  have hts : ∀ w ∈ wsL_law, w.before #[Value.ref b] s = true := fun w h => hts0 w (law_in w h)
  have hbA : ¬ (fun q : Nat => s.heap.size ≤ q) b := Nat.not_le.mpr hbl
  have hF : CallFix p m c cL_law 4 s #[Value.ref b] wsL_law RL := ⟨hx, hb, hml, hown, hts⟩
  obtain ⟨hP, hPm, hI, hJ, hAd, hBd, hdis, hR⟩ := hW
  have hd1 : ∀ k, k < 18 → ¬ xA 42 ad (bd k) := fun k hk h => by obtain ⟨j, h1, h2⟩ := h; exact hdis j k h1 hk h2.symm
  have hd2 : ∀ k, k < 42 → ¬ xA 18 bd (ad k) := fun k hk h => by obtain ⟨j, h1, h2⟩ := h; exact hdis k j hk h1 h2
  have hin : ∀ q, xA 42 ad q → s.heap.size ≤ q := fun q h => by obtain ⟨j, h1, rfl⟩ := h; exact hAd j h1
  obtain ⟨pc, pm, hc, hm, hh⟩ := st_when (l := l) (dC := dC) (dI := dI) (cI := cI) (cZ := cZ) (cS := cS) (cG := cG) hI hJ hR (xs (i + 1))
  refine lv_aload_n hx hb dL_law_611 rfl (lv_at hl 1 rfl) ?_
  refine lv_aload_n hx hb dL_law_612 rfl (lv_at hl 0 rfl) ?_
  refine lv_iload_n hx hb dL_law_613 rfl (lv_at hl 3 rfl) ?_
  refine lv_iconst (v := 1) hx hb dL_law_614 (by decide +kernel) ?_
  refine lv_iadd hx hb dL_law_615 ?_
  refine x_sld hx hb hX hbl hbA hS hL (i + 1) (by omega) (nI_add i 1) dL_law_616 ?_
  refine x_calli (x_runV (As := [.int (xs (i + 1))]) (rest := []) hF hc (cwV 1 hts gL_law_X5_when rfl rfl rfl (by decide +kernel) ⟨Nat.le_of_ble_eq_true rfl, Nat.le_of_ble_eq_true rfl⟩) hK hP (by decide) rfl rfl rfl hl.1 rfl (Nat.le_of_ble_eq_true rfl) dL_law_617 ⟨Nat.le_of_ble_eq_true rfl, Nat.le_of_ble_eq_true rfl⟩) hS hAd (fun r S1 H locs hw hP hf hS => ?_)
  have hPm := xW_kept hPm hf hd1
  refine lv_aload_n hx hb dL_law_620 rfl (lv_at hl 2 rfl) ?_
  refine lv_aload_n hx hb dL_law_621 rfl (lv_at hl 0 rfl) ?_
  refine lv_iload_n hx hb dL_law_622 rfl (lv_at hl 3 rfl) ?_
  refine lv_iconst (v := 1) hx hb dL_law_623 (by decide +kernel) ?_
  refine lv_iadd hx hb dL_law_624 ?_
  refine x_sld hx hb hX hbl hbA hS hL (i + 1) (by omega) (nI_add i 1) dL_law_625 ?_
  refine x_calli (x_runV (As := [.int (xs (i + 1))]) (rest := [.int r]) hF hm (cwV 1 hts gL_law_X6_when rfl rfl rfl (by decide +kernel) ⟨Nat.le_of_ble_eq_true rfl, Nat.le_of_ble_eq_true rfl⟩) hK hPm (by decide) rfl rfl rfl hl.1 rfl (Nat.le_of_ble_eq_true rfl) dL_law_626 ⟨Nat.le_of_ble_eq_true rfl, Nat.le_of_ble_eq_true rfl⟩) hS hBd (fun r2 M1 H locs hw2 hPm hf hS => ?_)
  have hP := xW_kept hP hf hd2
  obtain ⟨hr, hR1⟩ := hh r S1 r2 M1 hw hw2
  refine lv_icmp_eq (tgt := 1163) hx hb dL_law_629 (by decide) (fun _ => ?_) (fun hc => absurd hr hc)
  exact kk _ _ ad S1 M1 rfl ⟨hP, hPm, hI, hJ, hAd, hBd, hdis, hR1⟩ hS

set_option maxHeartbeats 4000000 in
set_option maxRecDepth 100000 in
theorem lc_reading (C0 : lw_At p s m meth c b L xs) (hL : L ≤ 384) (hK : va_K (dC, dI) vwCl (tyl cI cZ cS cG) s) (hi : i + 6 ≤ L) (hW : LI dC dI cI cZ cS cG s ad bd S M H) (hS : va_S (fun q : Nat => s.heap.size ≤ q) s.heap H locs) (hl : lv_has ls 4 [(0, .ref b), (1, .ref (ad 0)), (2, .ref (bd 0)), (3, .int (nI i))]) (kk : ∀ (H : Heap) (locs : List Loc) (ad' : Nat → Nat) (S' M' : xSt), ad' 0 = ad 0 → LI dC dI cI cZ cS cG s ad' bd S' M' H → va_S (fun q : Nat => s.heap.size ≤ q) s.heap H locs → W p l e room_1 s m #[Value.ref b] below meth c H locs 60 915 (lw_Z below #[Value.ref b] s) (F0 m 1163 ls [])) : W p l e room_1 s m #[Value.ref b] below meth c H locs 60 915 (lw_Z below #[Value.ref b] s) (F0 m 634 ls []) := by
  obtain ⟨hx, hb, hr0, hml, hown, hts0, hX, hbl, hlocks, hgv⟩ := id C0
  have hts : ∀ w ∈ wsL_law, w.before #[Value.ref b] s = true := fun w h => hts0 w (law_in w h)
  have hbA : ¬ (fun q : Nat => s.heap.size ≤ q) b := Nat.not_le.mpr hbl
  have hF : CallFix p m c cL_law 4 s #[Value.ref b] wsL_law RL := ⟨hx, hb, hml, hown, hts⟩
  obtain ⟨hP, hPm, hI, hJ, hAd, hBd, hdis, hR⟩ := hW
  have hd1 : ∀ k, k < 18 → ¬ xA 42 ad (bd k) := fun k hk h => by obtain ⟨j, h1, h2⟩ := h; exact hdis j k h1 hk h2.symm
  have hd2 : ∀ k, k < 42 → ¬ xA 18 bd (ad k) := fun k hk h => by obtain ⟨j, h1, h2⟩ := h; exact hdis k j hk h1 h2
  have hin : ∀ q, xA 42 ad q → s.heap.size ≤ q := fun q h => by obtain ⟨j, h1, rfl⟩ := h; exact hAd j h1
  by_cases z : xs (i + 3) = 0
  · obtain ⟨pc, pm, hc, hm, hh⟩ := st_reading (l := l) (dC := dC) (dI := dI) (cI := cI) (cZ := cZ) (cS := cS) (cG := cG) hI hJ hR (xs (i + 1)) (xs (i + 2)) 0 (Or.inl rfl)
    refine lv_aload_n hx hb dL_law_634 rfl (lv_at hl 1 rfl) ?_
    refine lv_aload_n hx hb dL_law_635 rfl (lv_at hl 0 rfl) ?_
    refine lv_iload_n hx hb dL_law_636 rfl (lv_at hl 3 rfl) ?_
    refine lv_iconst (v := 1) hx hb dL_law_637 (by decide +kernel) ?_
    refine lv_iadd hx hb dL_law_638 ?_
    refine x_sld hx hb hX hbl hbA hS hL (i + 1) (by omega) (nI_add i 1) dL_law_639 ?_
    refine lv_aload_n hx hb dL_law_640 rfl (lv_at hl 0 rfl) ?_
    refine lv_iload_n hx hb dL_law_641 rfl (lv_at hl 3 rfl) ?_
    refine lv_iconst (v := 2) hx hb dL_law_642 (by decide +kernel) ?_
    refine lv_iadd hx hb dL_law_643 ?_
    refine x_sld hx hb hX hbl hbA hS hL (i + 2) (by omega) (nI_add i 2) dL_law_644 ?_
    refine lv_aload_n hx hb dL_law_645 rfl (lv_at hl 0 rfl) ?_
    refine lv_iload_n hx hb dL_law_646 rfl (lv_at hl 3 rfl) ?_
    refine lv_iconst (v := 3) hx hb dL_law_647 (by decide +kernel) ?_
    refine lv_iadd hx hb dL_law_648 ?_
    refine x_sld hx hb hX hbl hbA hS hL (i + 3) (by omega) (nI_add i 3) dL_law_649 ?_
    refine lv_if_eq (tgt := 657) hx hb dL_law_650 (by decide) (fun _ => ?_) (fun hc => absurd z hc)
    refine lv_iconst (v := 0) hx hb dL_law_657 (by decide +kernel) ?_
    refine x_calli (x_runV (As := [.int (xs (i + 1)), .int (xs (i + 2)), .int 0]) (rest := []) hF hc (cwV 3 hts gL_law_X5_reading rfl rfl rfl (by decide +kernel) ⟨Nat.le_of_ble_eq_true rfl, Nat.le_of_ble_eq_true rfl⟩) hK hP (by decide) rfl rfl rfl hl.1 rfl (Nat.le_of_ble_eq_true rfl) dL_law_658 ⟨Nat.le_of_ble_eq_true rfl, Nat.le_of_ble_eq_true rfl⟩) hS hAd (fun r S1 H locs hw hP hf hS => ?_)
    have hPm := xW_kept hPm hf hd1
    refine lv_aload_n hx hb dL_law_661 rfl (lv_at hl 2 rfl) ?_
    refine lv_aload_n hx hb dL_law_662 rfl (lv_at hl 0 rfl) ?_
    refine lv_iload_n hx hb dL_law_663 rfl (lv_at hl 3 rfl) ?_
    refine lv_iconst (v := 1) hx hb dL_law_664 (by decide +kernel) ?_
    refine lv_iadd hx hb dL_law_665 ?_
    refine x_sld hx hb hX hbl hbA hS hL (i + 1) (by omega) (nI_add i 1) dL_law_666 ?_
    refine lv_aload_n hx hb dL_law_667 rfl (lv_at hl 0 rfl) ?_
    refine lv_iload_n hx hb dL_law_668 rfl (lv_at hl 3 rfl) ?_
    refine lv_iconst (v := 2) hx hb dL_law_669 (by decide +kernel) ?_
    refine lv_iadd hx hb dL_law_670 ?_
    refine x_sld hx hb hX hbl hbA hS hL (i + 2) (by omega) (nI_add i 2) dL_law_671 ?_
    refine lv_aload_n hx hb dL_law_672 rfl (lv_at hl 0 rfl) ?_
    refine lv_iload_n hx hb dL_law_673 rfl (lv_at hl 3 rfl) ?_
    refine lv_iconst (v := 3) hx hb dL_law_674 (by decide +kernel) ?_
    refine lv_iadd hx hb dL_law_675 ?_
    refine x_sld hx hb hX hbl hbA hS hL (i + 3) (by omega) (nI_add i 3) dL_law_676 ?_
    refine lv_if_eq (tgt := 684) hx hb dL_law_677 (by decide) (fun _ => ?_) (fun hc => absurd z hc)
    refine lv_iconst (v := 0) hx hb dL_law_684 (by decide +kernel) ?_
    refine x_calli (x_runV (As := [.int (xs (i + 1)), .int (xs (i + 2)), .int 0]) (rest := [.int r]) hF hm (cwV 3 hts gL_law_X6_reading rfl rfl rfl (by decide +kernel) ⟨Nat.le_of_ble_eq_true rfl, Nat.le_of_ble_eq_true rfl⟩) hK hPm (by decide) rfl rfl rfl hl.1 rfl (Nat.le_of_ble_eq_true rfl) dL_law_685 ⟨Nat.le_of_ble_eq_true rfl, Nat.le_of_ble_eq_true rfl⟩) hS hBd (fun r2 M1 H locs hw2 hPm hf hS => ?_)
    have hP := xW_kept hP hf hd2
    obtain ⟨hr, hR1⟩ := hh r S1 r2 M1 hw hw2
    refine lv_icmp_eq (tgt := 1163) hx hb dL_law_688 (by decide) (fun _ => ?_) (fun hc => absurd hr hc)
    exact kk _ _ ad S1 M1 rfl ⟨hP, hPm, hI, hJ, hAd, hBd, hdis, hR1⟩ hS
  · obtain ⟨pc, pm, hc, hm, hh⟩ := st_reading (l := l) (dC := dC) (dI := dI) (cI := cI) (cZ := cZ) (cS := cS) (cG := cG) hI hJ hR (xs (i + 1)) (xs (i + 2)) 1 (Or.inr rfl)
    refine lv_aload_n hx hb dL_law_634 rfl (lv_at hl 1 rfl) ?_
    refine lv_aload_n hx hb dL_law_635 rfl (lv_at hl 0 rfl) ?_
    refine lv_iload_n hx hb dL_law_636 rfl (lv_at hl 3 rfl) ?_
    refine lv_iconst (v := 1) hx hb dL_law_637 (by decide +kernel) ?_
    refine lv_iadd hx hb dL_law_638 ?_
    refine x_sld hx hb hX hbl hbA hS hL (i + 1) (by omega) (nI_add i 1) dL_law_639 ?_
    refine lv_aload_n hx hb dL_law_640 rfl (lv_at hl 0 rfl) ?_
    refine lv_iload_n hx hb dL_law_641 rfl (lv_at hl 3 rfl) ?_
    refine lv_iconst (v := 2) hx hb dL_law_642 (by decide +kernel) ?_
    refine lv_iadd hx hb dL_law_643 ?_
    refine x_sld hx hb hX hbl hbA hS hL (i + 2) (by omega) (nI_add i 2) dL_law_644 ?_
    refine lv_aload_n hx hb dL_law_645 rfl (lv_at hl 0 rfl) ?_
    refine lv_iload_n hx hb dL_law_646 rfl (lv_at hl 3 rfl) ?_
    refine lv_iconst (v := 3) hx hb dL_law_647 (by decide +kernel) ?_
    refine lv_iadd hx hb dL_law_648 ?_
    refine x_sld hx hb hX hbl hbA hS hL (i + 3) (by omega) (nI_add i 3) dL_law_649 ?_
    refine lv_if_eq (tgt := 657) hx hb dL_law_650 (by decide) (fun hc => absurd hc z) (fun _ => ?_)
    refine lv_iconst (v := 1) hx hb dL_law_653 (by decide +kernel) ?_
    refine lv_goto (tgt := 658) hx hb dL_law_654 (by decide) ?_
    refine x_calli (x_runV (As := [.int (xs (i + 1)), .int (xs (i + 2)), .int 1]) (rest := []) hF hc (cwV 3 hts gL_law_X5_reading rfl rfl rfl (by decide +kernel) ⟨Nat.le_of_ble_eq_true rfl, Nat.le_of_ble_eq_true rfl⟩) hK hP (by decide) rfl rfl rfl hl.1 rfl (Nat.le_of_ble_eq_true rfl) dL_law_658 ⟨Nat.le_of_ble_eq_true rfl, Nat.le_of_ble_eq_true rfl⟩) hS hAd (fun r S1 H locs hw hP hf hS => ?_)
    have hPm := xW_kept hPm hf hd1
    refine lv_aload_n hx hb dL_law_661 rfl (lv_at hl 2 rfl) ?_
    refine lv_aload_n hx hb dL_law_662 rfl (lv_at hl 0 rfl) ?_
    refine lv_iload_n hx hb dL_law_663 rfl (lv_at hl 3 rfl) ?_
    refine lv_iconst (v := 1) hx hb dL_law_664 (by decide +kernel) ?_
    refine lv_iadd hx hb dL_law_665 ?_
    refine x_sld hx hb hX hbl hbA hS hL (i + 1) (by omega) (nI_add i 1) dL_law_666 ?_
    refine lv_aload_n hx hb dL_law_667 rfl (lv_at hl 0 rfl) ?_
    refine lv_iload_n hx hb dL_law_668 rfl (lv_at hl 3 rfl) ?_
    refine lv_iconst (v := 2) hx hb dL_law_669 (by decide +kernel) ?_
    refine lv_iadd hx hb dL_law_670 ?_
    refine x_sld hx hb hX hbl hbA hS hL (i + 2) (by omega) (nI_add i 2) dL_law_671 ?_
    refine lv_aload_n hx hb dL_law_672 rfl (lv_at hl 0 rfl) ?_
    refine lv_iload_n hx hb dL_law_673 rfl (lv_at hl 3 rfl) ?_
    refine lv_iconst (v := 3) hx hb dL_law_674 (by decide +kernel) ?_
    refine lv_iadd hx hb dL_law_675 ?_
    refine x_sld hx hb hX hbl hbA hS hL (i + 3) (by omega) (nI_add i 3) dL_law_676 ?_
    refine lv_if_eq (tgt := 684) hx hb dL_law_677 (by decide) (fun hc => absurd hc z) (fun _ => ?_)
    refine lv_iconst (v := 1) hx hb dL_law_680 (by decide +kernel) ?_
    refine lv_goto (tgt := 685) hx hb dL_law_681 (by decide) ?_
    refine x_calli (x_runV (As := [.int (xs (i + 1)), .int (xs (i + 2)), .int 1]) (rest := [.int r]) hF hm (cwV 3 hts gL_law_X6_reading rfl rfl rfl (by decide +kernel) ⟨Nat.le_of_ble_eq_true rfl, Nat.le_of_ble_eq_true rfl⟩) hK hPm (by decide) rfl rfl rfl hl.1 rfl (Nat.le_of_ble_eq_true rfl) dL_law_685 ⟨Nat.le_of_ble_eq_true rfl, Nat.le_of_ble_eq_true rfl⟩) hS hBd (fun r2 M1 H locs hw2 hPm hf hS => ?_)
    have hP := xW_kept hP hf hd2
    obtain ⟨hr, hR1⟩ := hh r S1 r2 M1 hw hw2
    refine lv_icmp_eq (tgt := 1163) hx hb dL_law_688 (by decide) (fun _ => ?_) (fun hc => absurd hr hc)
    exact kk _ _ ad S1 M1 rfl ⟨hP, hPm, hI, hJ, hAd, hBd, hdis, hR1⟩ hS

set_option maxHeartbeats 4000000 in
set_option maxRecDepth 100000 in
theorem lc_back (C0 : lw_At p s m meth c b L xs) (hL : L ≤ 384) (hK : va_K (dC, dI) vwCl (tyl cI cZ cS cG) s) (hi : i + 6 ≤ L) (hW : LI dC dI cI cZ cS cG s ad bd S M H) (hS : va_S (fun q : Nat => s.heap.size ≤ q) s.heap H locs) (hl : lv_has ls 4 [(0, .ref b), (1, .ref (ad 0)), (2, .ref (bd 0)), (3, .int (nI i))]) (kk : ∀ (H : Heap) (locs : List Loc) (ad' : Nat → Nat) (S' M' : xSt), ad' 0 = ad 0 → LI dC dI cI cZ cS cG s ad' bd S' M' H → va_S (fun q : Nat => s.heap.size ≤ q) s.heap H locs → W p l e room_1 s m #[Value.ref b] below meth c H locs 60 915 (lw_Z below #[Value.ref b] s) (F0 m 1163 ls [])) : W p l e room_1 s m #[Value.ref b] below meth c H locs 60 915 (lw_Z below #[Value.ref b] s) (F0 m 693 ls []) := by
  obtain ⟨hx, hb, hr0, hml, hown, hts0, hX, hbl, hlocks, hgv⟩ := id C0
  have hts : ∀ w ∈ wsL_law, w.before #[Value.ref b] s = true := fun w h => hts0 w (law_in w h)
  have hbA : ¬ (fun q : Nat => s.heap.size ≤ q) b := Nat.not_le.mpr hbl
  have hF : CallFix p m c cL_law 4 s #[Value.ref b] wsL_law RL := ⟨hx, hb, hml, hown, hts⟩
  obtain ⟨hP, hPm, hI, hJ, hAd, hBd, hdis, hR⟩ := hW
  have hd1 : ∀ k, k < 18 → ¬ xA 42 ad (bd k) := fun k hk h => by obtain ⟨j, h1, h2⟩ := h; exact hdis j k h1 hk h2.symm
  have hd2 : ∀ k, k < 42 → ¬ xA 18 bd (ad k) := fun k hk h => by obtain ⟨j, h1, h2⟩ := h; exact hdis k j hk h1 h2
  have hin : ∀ q, xA 42 ad q → s.heap.size ≤ q := fun q h => by obtain ⟨j, h1, rfl⟩ := h; exact hAd j h1
  obtain ⟨pc, pm, hc, hm, hh⟩ := st_back (l := l) (dC := dC) (dI := dI) (cI := cI) (cZ := cZ) (cS := cS) (cG := cG) hI hJ hR (xs (i + 1))
  refine lv_aload_n hx hb dL_law_693 rfl (lv_at hl 1 rfl) ?_
  refine lv_aload_n hx hb dL_law_694 rfl (lv_at hl 0 rfl) ?_
  refine lv_iload_n hx hb dL_law_695 rfl (lv_at hl 3 rfl) ?_
  refine lv_iconst (v := 1) hx hb dL_law_696 (by decide +kernel) ?_
  refine lv_iadd hx hb dL_law_697 ?_
  refine x_sld hx hb hX hbl hbA hS hL (i + 1) (by omega) (nI_add i 1) dL_law_698 ?_
  refine x_calli (x_runV (As := [.int (xs (i + 1))]) (rest := []) hF hc (cwV 1 hts gL_law_X5_back rfl rfl rfl (by decide +kernel) ⟨Nat.le_of_ble_eq_true rfl, Nat.le_of_ble_eq_true rfl⟩) hK hP (by decide) rfl rfl rfl hl.1 rfl (Nat.le_of_ble_eq_true rfl) dL_law_699 ⟨Nat.le_of_ble_eq_true rfl, Nat.le_of_ble_eq_true rfl⟩) hS hAd (fun r S1 H locs hw hP hf hS => ?_)
  have hPm := xW_kept hPm hf hd1
  refine lv_aload_n hx hb dL_law_702 rfl (lv_at hl 2 rfl) ?_
  refine lv_aload_n hx hb dL_law_703 rfl (lv_at hl 0 rfl) ?_
  refine lv_iload_n hx hb dL_law_704 rfl (lv_at hl 3 rfl) ?_
  refine lv_iconst (v := 1) hx hb dL_law_705 (by decide +kernel) ?_
  refine lv_iadd hx hb dL_law_706 ?_
  refine x_sld hx hb hX hbl hbA hS hL (i + 1) (by omega) (nI_add i 1) dL_law_707 ?_
  refine x_calli (x_runV (As := [.int (xs (i + 1))]) (rest := [.int r]) hF hm (cwV 1 hts gL_law_X6_back rfl rfl rfl (by decide +kernel) ⟨Nat.le_of_ble_eq_true rfl, Nat.le_of_ble_eq_true rfl⟩) hK hPm (by decide) rfl rfl rfl hl.1 rfl (Nat.le_of_ble_eq_true rfl) dL_law_708 ⟨Nat.le_of_ble_eq_true rfl, Nat.le_of_ble_eq_true rfl⟩) hS hBd (fun r2 M1 H locs hw2 hPm hf hS => ?_)
  have hP := xW_kept hP hf hd2
  obtain ⟨hr, hR1⟩ := hh r S1 r2 M1 hw hw2
  refine lv_icmp_eq (tgt := 1163) hx hb dL_law_711 (by decide) (fun _ => ?_) (fun hc => absurd hr hc)
  exact kk _ _ ad S1 M1 rfl ⟨hP, hPm, hI, hJ, hAd, hBd, hdis, hR1⟩ hS

set_option maxHeartbeats 4000000 in
set_option maxRecDepth 100000 in
theorem lc_worths (C0 : lw_At p s m meth c b L xs) (hL : L ≤ 384) (hK : va_K (dC, dI) vwCl (tyl cI cZ cS cG) s) (hi : i + 6 ≤ L) (hW : LI dC dI cI cZ cS cG s ad bd S M H) (hS : va_S (fun q : Nat => s.heap.size ≤ q) s.heap H locs) (hl : lv_has ls 4 [(0, .ref b), (1, .ref (ad 0)), (2, .ref (bd 0)), (3, .int (nI i))]) (kk : ∀ (H : Heap) (locs : List Loc) (ad' : Nat → Nat) (S' M' : xSt), ad' 0 = ad 0 → LI dC dI cI cZ cS cG s ad' bd S' M' H → va_S (fun q : Nat => s.heap.size ≤ q) s.heap H locs → W p l e room_1 s m #[Value.ref b] below meth c H locs 60 915 (lw_Z below #[Value.ref b] s) (F0 m 1163 ls [])) : W p l e room_1 s m #[Value.ref b] below meth c H locs 60 915 (lw_Z below #[Value.ref b] s) (F0 m 716 ls []) := by
  obtain ⟨hx, hb, hr0, hml, hown, hts0, hX, hbl, hlocks, hgv⟩ := id C0
  have hts : ∀ w ∈ wsL_law, w.before #[Value.ref b] s = true := fun w h => hts0 w (law_in w h)
  have hbA : ¬ (fun q : Nat => s.heap.size ≤ q) b := Nat.not_le.mpr hbl
  have hF : CallFix p m c cL_law 4 s #[Value.ref b] wsL_law RL := ⟨hx, hb, hml, hown, hts⟩
  obtain ⟨hP, hPm, hI, hJ, hAd, hBd, hdis, hR⟩ := hW
  have hd1 : ∀ k, k < 18 → ¬ xA 42 ad (bd k) := fun k hk h => by obtain ⟨j, h1, h2⟩ := h; exact hdis j k h1 hk h2.symm
  have hd2 : ∀ k, k < 42 → ¬ xA 18 bd (ad k) := fun k hk h => by obtain ⟨j, h1, h2⟩ := h; exact hdis k j hk h1 h2
  have hin : ∀ q, xA 42 ad q → s.heap.size ≤ q := fun q h => by obtain ⟨j, h1, rfl⟩ := h; exact hAd j h1
  obtain ⟨pc, pm, hc, hm, hh⟩ := st_worths (l := l) (dC := dC) (dI := dI) (cI := cI) (cZ := cZ) (cS := cS) (cG := cG) hI hJ hR (xs (i + 1))
  refine lv_aload_n hx hb dL_law_716 rfl (lv_at hl 1 rfl) ?_
  refine lv_aload_n hx hb dL_law_717 rfl (lv_at hl 0 rfl) ?_
  refine lv_iload_n hx hb dL_law_718 rfl (lv_at hl 3 rfl) ?_
  refine lv_iconst (v := 1) hx hb dL_law_719 (by decide +kernel) ?_
  refine lv_iadd hx hb dL_law_720 ?_
  refine x_sld hx hb hX hbl hbA hS hL (i + 1) (by omega) (nI_add i 1) dL_law_721 ?_
  refine x_calli (x_runV (As := [.int (xs (i + 1))]) (rest := []) hF hc (cwV 1 hts gL_law_X5_worths rfl rfl rfl (by decide +kernel) ⟨Nat.le_of_ble_eq_true rfl, Nat.le_of_ble_eq_true rfl⟩) hK hP (by decide) rfl rfl rfl hl.1 rfl (Nat.le_of_ble_eq_true rfl) dL_law_722 ⟨Nat.le_of_ble_eq_true rfl, Nat.le_of_ble_eq_true rfl⟩) hS hAd (fun r S1 H locs hw hP hf hS => ?_)
  have hPm := xW_kept hPm hf hd1
  refine lv_aload_n hx hb dL_law_725 rfl (lv_at hl 2 rfl) ?_
  refine lv_aload_n hx hb dL_law_726 rfl (lv_at hl 0 rfl) ?_
  refine lv_iload_n hx hb dL_law_727 rfl (lv_at hl 3 rfl) ?_
  refine lv_iconst (v := 1) hx hb dL_law_728 (by decide +kernel) ?_
  refine lv_iadd hx hb dL_law_729 ?_
  refine x_sld hx hb hX hbl hbA hS hL (i + 1) (by omega) (nI_add i 1) dL_law_730 ?_
  refine x_calli (x_runV (As := [.int (xs (i + 1))]) (rest := [.int r]) hF hm (cwV 1 hts gL_law_X6_worths rfl rfl rfl (by decide +kernel) ⟨Nat.le_of_ble_eq_true rfl, Nat.le_of_ble_eq_true rfl⟩) hK hPm (by decide) rfl rfl rfl hl.1 rfl (Nat.le_of_ble_eq_true rfl) dL_law_731 ⟨Nat.le_of_ble_eq_true rfl, Nat.le_of_ble_eq_true rfl⟩) hS hBd (fun r2 M1 H locs hw2 hPm hf hS => ?_)
  have hP := xW_kept hP hf hd2
  obtain ⟨hr, hR1⟩ := hh r S1 r2 M1 hw hw2
  refine lv_icmp_eq (tgt := 1163) hx hb dL_law_734 (by decide) (fun _ => ?_) (fun hc => absurd hr hc)
  exact kk _ _ ad S1 M1 rfl ⟨hP, hPm, hI, hJ, hAd, hBd, hdis, hR1⟩ hS

set_option maxHeartbeats 4000000 in
set_option maxRecDepth 100000 in
theorem lc_kinds (C0 : lw_At p s m meth c b L xs) (hL : L ≤ 384) (hK : va_K (dC, dI) vwCl (tyl cI cZ cS cG) s) (hi : i + 6 ≤ L) (hW : LI dC dI cI cZ cS cG s ad bd S M H) (hS : va_S (fun q : Nat => s.heap.size ≤ q) s.heap H locs) (hl : lv_has ls 4 [(0, .ref b), (1, .ref (ad 0)), (2, .ref (bd 0)), (3, .int (nI i))]) (kk : ∀ (H : Heap) (locs : List Loc) (ad' : Nat → Nat) (S' M' : xSt), ad' 0 = ad 0 → LI dC dI cI cZ cS cG s ad' bd S' M' H → va_S (fun q : Nat => s.heap.size ≤ q) s.heap H locs → W p l e room_1 s m #[Value.ref b] below meth c H locs 60 915 (lw_Z below #[Value.ref b] s) (F0 m 1163 ls [])) : W p l e room_1 s m #[Value.ref b] below meth c H locs 60 915 (lw_Z below #[Value.ref b] s) (F0 m 739 ls []) := by
  obtain ⟨hx, hb, hr0, hml, hown, hts0, hX, hbl, hlocks, hgv⟩ := id C0
  have hts : ∀ w ∈ wsL_law, w.before #[Value.ref b] s = true := fun w h => hts0 w (law_in w h)
  have hbA : ¬ (fun q : Nat => s.heap.size ≤ q) b := Nat.not_le.mpr hbl
  have hF : CallFix p m c cL_law 4 s #[Value.ref b] wsL_law RL := ⟨hx, hb, hml, hown, hts⟩
  obtain ⟨hP, hPm, hI, hJ, hAd, hBd, hdis, hR⟩ := hW
  have hd1 : ∀ k, k < 18 → ¬ xA 42 ad (bd k) := fun k hk h => by obtain ⟨j, h1, h2⟩ := h; exact hdis j k h1 hk h2.symm
  have hd2 : ∀ k, k < 42 → ¬ xA 18 bd (ad k) := fun k hk h => by obtain ⟨j, h1, h2⟩ := h; exact hdis k j hk h1 h2
  have hin : ∀ q, xA 42 ad q → s.heap.size ≤ q := fun q h => by obtain ⟨j, h1, rfl⟩ := h; exact hAd j h1
  obtain ⟨pc, pm, hc, hm, hh⟩ := st_kinds (l := l) (dC := dC) (dI := dI) (cI := cI) (cZ := cZ) (cS := cS) (cG := cG) hI hJ hR (xs (i + 1))
  refine lv_aload_n hx hb dL_law_739 rfl (lv_at hl 1 rfl) ?_
  refine lv_aload_n hx hb dL_law_740 rfl (lv_at hl 0 rfl) ?_
  refine lv_iload_n hx hb dL_law_741 rfl (lv_at hl 3 rfl) ?_
  refine lv_iconst (v := 1) hx hb dL_law_742 (by decide +kernel) ?_
  refine lv_iadd hx hb dL_law_743 ?_
  refine x_sld hx hb hX hbl hbA hS hL (i + 1) (by omega) (nI_add i 1) dL_law_744 ?_
  refine x_calli (x_runV (As := [.int (xs (i + 1))]) (rest := []) hF hc (cwV 1 hts gL_law_X5_kinds rfl rfl rfl (by decide +kernel) ⟨Nat.le_of_ble_eq_true rfl, Nat.le_of_ble_eq_true rfl⟩) hK hP (by decide) rfl rfl rfl hl.1 rfl (Nat.le_of_ble_eq_true rfl) dL_law_745 ⟨Nat.le_of_ble_eq_true rfl, Nat.le_of_ble_eq_true rfl⟩) hS hAd (fun r S1 H locs hw hP hf hS => ?_)
  have hPm := xW_kept hPm hf hd1
  refine lv_aload_n hx hb dL_law_748 rfl (lv_at hl 2 rfl) ?_
  refine lv_aload_n hx hb dL_law_749 rfl (lv_at hl 0 rfl) ?_
  refine lv_iload_n hx hb dL_law_750 rfl (lv_at hl 3 rfl) ?_
  refine lv_iconst (v := 1) hx hb dL_law_751 (by decide +kernel) ?_
  refine lv_iadd hx hb dL_law_752 ?_
  refine x_sld hx hb hX hbl hbA hS hL (i + 1) (by omega) (nI_add i 1) dL_law_753 ?_
  refine x_calli (x_runV (As := [.int (xs (i + 1))]) (rest := [.int r]) hF hm (cwV 1 hts gL_law_X6_kinds rfl rfl rfl (by decide +kernel) ⟨Nat.le_of_ble_eq_true rfl, Nat.le_of_ble_eq_true rfl⟩) hK hPm (by decide) rfl rfl rfl hl.1 rfl (Nat.le_of_ble_eq_true rfl) dL_law_754 ⟨Nat.le_of_ble_eq_true rfl, Nat.le_of_ble_eq_true rfl⟩) hS hBd (fun r2 M1 H locs hw2 hPm hf hS => ?_)
  have hP := xW_kept hP hf hd2
  obtain ⟨hr, hR1⟩ := hh r S1 r2 M1 hw hw2
  refine lv_icmp_eq (tgt := 1163) hx hb dL_law_757 (by decide) (fun _ => ?_) (fun hc => absurd hr hc)
  exact kk _ _ ad S1 M1 rfl ⟨hP, hPm, hI, hJ, hAd, hBd, hdis, hR1⟩ hS

set_option maxHeartbeats 4000000 in
set_option maxRecDepth 100000 in
theorem lc_fondness (C0 : lw_At p s m meth c b L xs) (hL : L ≤ 384) (hK : va_K (dC, dI) vwCl (tyl cI cZ cS cG) s) (hi : i + 6 ≤ L) (hW : LI dC dI cI cZ cS cG s ad bd S M H) (hS : va_S (fun q : Nat => s.heap.size ≤ q) s.heap H locs) (hl : lv_has ls 4 [(0, .ref b), (1, .ref (ad 0)), (2, .ref (bd 0)), (3, .int (nI i))]) (kk : ∀ (H : Heap) (locs : List Loc) (ad' : Nat → Nat) (S' M' : xSt), ad' 0 = ad 0 → LI dC dI cI cZ cS cG s ad' bd S' M' H → va_S (fun q : Nat => s.heap.size ≤ q) s.heap H locs → W p l e room_1 s m #[Value.ref b] below meth c H locs 60 915 (lw_Z below #[Value.ref b] s) (F0 m 1163 ls [])) : W p l e room_1 s m #[Value.ref b] below meth c H locs 60 915 (lw_Z below #[Value.ref b] s) (F0 m 762 ls []) := by
  obtain ⟨hx, hb, hr0, hml, hown, hts0, hX, hbl, hlocks, hgv⟩ := id C0
  have hts : ∀ w ∈ wsL_law, w.before #[Value.ref b] s = true := fun w h => hts0 w (law_in w h)
  have hbA : ¬ (fun q : Nat => s.heap.size ≤ q) b := Nat.not_le.mpr hbl
  have hF : CallFix p m c cL_law 4 s #[Value.ref b] wsL_law RL := ⟨hx, hb, hml, hown, hts⟩
  obtain ⟨hP, hPm, hI, hJ, hAd, hBd, hdis, hR⟩ := hW
  have hd1 : ∀ k, k < 18 → ¬ xA 42 ad (bd k) := fun k hk h => by obtain ⟨j, h1, h2⟩ := h; exact hdis j k h1 hk h2.symm
  have hd2 : ∀ k, k < 42 → ¬ xA 18 bd (ad k) := fun k hk h => by obtain ⟨j, h1, h2⟩ := h; exact hdis k j hk h1 h2
  have hin : ∀ q, xA 42 ad q → s.heap.size ≤ q := fun q h => by obtain ⟨j, h1, rfl⟩ := h; exact hAd j h1
  obtain ⟨pc, pm, hc, hm, hh⟩ := st_fondness (l := l) (dC := dC) (dI := dI) (cI := cI) (cZ := cZ) (cS := cS) (cG := cG) hI hJ hR (xs (i + 1))
  refine lv_aload_n hx hb dL_law_762 rfl (lv_at hl 1 rfl) ?_
  refine lv_aload_n hx hb dL_law_763 rfl (lv_at hl 0 rfl) ?_
  refine lv_iload_n hx hb dL_law_764 rfl (lv_at hl 3 rfl) ?_
  refine lv_iconst (v := 1) hx hb dL_law_765 (by decide +kernel) ?_
  refine lv_iadd hx hb dL_law_766 ?_
  refine x_sld hx hb hX hbl hbA hS hL (i + 1) (by omega) (nI_add i 1) dL_law_767 ?_
  refine x_calli (x_runV (As := [.int (xs (i + 1))]) (rest := []) hF hc (cwV 1 hts gL_law_X5_fondness rfl rfl rfl (by decide +kernel) ⟨Nat.le_of_ble_eq_true rfl, Nat.le_of_ble_eq_true rfl⟩) hK hP (by decide) rfl rfl rfl hl.1 rfl (Nat.le_of_ble_eq_true rfl) dL_law_768 ⟨Nat.le_of_ble_eq_true rfl, Nat.le_of_ble_eq_true rfl⟩) hS hAd (fun r S1 H locs hw hP hf hS => ?_)
  have hPm := xW_kept hPm hf hd1
  refine lv_aload_n hx hb dL_law_771 rfl (lv_at hl 2 rfl) ?_
  refine lv_aload_n hx hb dL_law_772 rfl (lv_at hl 0 rfl) ?_
  refine lv_iload_n hx hb dL_law_773 rfl (lv_at hl 3 rfl) ?_
  refine lv_iconst (v := 1) hx hb dL_law_774 (by decide +kernel) ?_
  refine lv_iadd hx hb dL_law_775 ?_
  refine x_sld hx hb hX hbl hbA hS hL (i + 1) (by omega) (nI_add i 1) dL_law_776 ?_
  refine x_calli (x_runV (As := [.int (xs (i + 1))]) (rest := [.int r]) hF hm (cwV 1 hts gL_law_X6_fondness rfl rfl rfl (by decide +kernel) ⟨Nat.le_of_ble_eq_true rfl, Nat.le_of_ble_eq_true rfl⟩) hK hPm (by decide) rfl rfl rfl hl.1 rfl (Nat.le_of_ble_eq_true rfl) dL_law_777 ⟨Nat.le_of_ble_eq_true rfl, Nat.le_of_ble_eq_true rfl⟩) hS hBd (fun r2 M1 H locs hw2 hPm hf hS => ?_)
  have hP := xW_kept hP hf hd2
  obtain ⟨hr, hR1⟩ := hh r S1 r2 M1 hw hw2
  refine lv_icmp_eq (tgt := 1163) hx hb dL_law_780 (by decide) (fun _ => ?_) (fun hc => absurd hr hc)
  exact kk _ _ ad S1 M1 rfl ⟨hP, hPm, hI, hJ, hAd, hBd, hdis, hR1⟩ hS

set_option maxHeartbeats 4000000 in
set_option maxRecDepth 100000 in
theorem lc_odds (C0 : lw_At p s m meth c b L xs) (hL : L ≤ 384) (hK : va_K (dC, dI) vwCl (tyl cI cZ cS cG) s) (hi : i + 6 ≤ L) (hW : LI dC dI cI cZ cS cG s ad bd S M H) (hS : va_S (fun q : Nat => s.heap.size ≤ q) s.heap H locs) (hl : lv_has ls 4 [(0, .ref b), (1, .ref (ad 0)), (2, .ref (bd 0)), (3, .int (nI i))]) (kk : ∀ (H : Heap) (locs : List Loc) (ad' : Nat → Nat) (S' M' : xSt), ad' 0 = ad 0 → LI dC dI cI cZ cS cG s ad' bd S' M' H → va_S (fun q : Nat => s.heap.size ≤ q) s.heap H locs → W p l e room_1 s m #[Value.ref b] below meth c H locs 60 915 (lw_Z below #[Value.ref b] s) (F0 m 1163 ls [])) : W p l e room_1 s m #[Value.ref b] below meth c H locs 60 915 (lw_Z below #[Value.ref b] s) (F0 m 785 ls []) := by
  obtain ⟨hx, hb, hr0, hml, hown, hts0, hX, hbl, hlocks, hgv⟩ := id C0
  have hts : ∀ w ∈ wsL_law, w.before #[Value.ref b] s = true := fun w h => hts0 w (law_in w h)
  have hbA : ¬ (fun q : Nat => s.heap.size ≤ q) b := Nat.not_le.mpr hbl
  have hF : CallFix p m c cL_law 4 s #[Value.ref b] wsL_law RL := ⟨hx, hb, hml, hown, hts⟩
  obtain ⟨hP, hPm, hI, hJ, hAd, hBd, hdis, hR⟩ := hW
  have hd1 : ∀ k, k < 18 → ¬ xA 42 ad (bd k) := fun k hk h => by obtain ⟨j, h1, h2⟩ := h; exact hdis j k h1 hk h2.symm
  have hd2 : ∀ k, k < 42 → ¬ xA 18 bd (ad k) := fun k hk h => by obtain ⟨j, h1, h2⟩ := h; exact hdis k j hk h1 h2
  have hin : ∀ q, xA 42 ad q → s.heap.size ≤ q := fun q h => by obtain ⟨j, h1, rfl⟩ := h; exact hAd j h1
  obtain ⟨pc, pm, hc, hm, hh⟩ := st_odds (l := l) (dC := dC) (dI := dI) (cI := cI) (cZ := cZ) (cS := cS) (cG := cG) hI hJ hR (xs (i + 1)) (xs (i + 2))
  refine lv_aload_n hx hb dL_law_785 rfl (lv_at hl 1 rfl) ?_
  refine lv_aload_n hx hb dL_law_786 rfl (lv_at hl 0 rfl) ?_
  refine lv_iload_n hx hb dL_law_787 rfl (lv_at hl 3 rfl) ?_
  refine lv_iconst (v := 1) hx hb dL_law_788 (by decide +kernel) ?_
  refine lv_iadd hx hb dL_law_789 ?_
  refine x_sld hx hb hX hbl hbA hS hL (i + 1) (by omega) (nI_add i 1) dL_law_790 ?_
  refine lv_aload_n hx hb dL_law_791 rfl (lv_at hl 0 rfl) ?_
  refine lv_iload_n hx hb dL_law_792 rfl (lv_at hl 3 rfl) ?_
  refine lv_iconst (v := 2) hx hb dL_law_793 (by decide +kernel) ?_
  refine lv_iadd hx hb dL_law_794 ?_
  refine x_sld hx hb hX hbl hbA hS hL (i + 2) (by omega) (nI_add i 2) dL_law_795 ?_
  refine x_calll (x_runV (As := [.int (xs (i + 1)), .int (xs (i + 2))]) (rest := []) hF hc (cwV 2 hts gL_law_X5_odds rfl rfl rfl (by decide +kernel) ⟨Nat.le_of_ble_eq_true rfl, Nat.le_of_ble_eq_true rfl⟩) hK hP (by decide) rfl rfl rfl hl.1 rfl (Nat.le_of_ble_eq_true rfl) dL_law_796 ⟨Nat.le_of_ble_eq_true rfl, Nat.le_of_ble_eq_true rfl⟩) hS hAd (fun r S1 H locs hw hP hf hS => ?_)
  have hPm := xW_kept hPm hf hd1
  refine lv_aload_n hx hb dL_law_799 rfl (lv_at hl 2 rfl) ?_
  refine lv_aload_n hx hb dL_law_800 rfl (lv_at hl 0 rfl) ?_
  refine lv_iload_n hx hb dL_law_801 rfl (lv_at hl 3 rfl) ?_
  refine lv_iconst (v := 1) hx hb dL_law_802 (by decide +kernel) ?_
  refine lv_iadd hx hb dL_law_803 ?_
  refine x_sld hx hb hX hbl hbA hS hL (i + 1) (by omega) (nI_add i 1) dL_law_804 ?_
  refine lv_aload_n hx hb dL_law_805 rfl (lv_at hl 0 rfl) ?_
  refine lv_iload_n hx hb dL_law_806 rfl (lv_at hl 3 rfl) ?_
  refine lv_iconst (v := 2) hx hb dL_law_807 (by decide +kernel) ?_
  refine lv_iadd hx hb dL_law_808 ?_
  refine x_sld hx hb hX hbl hbA hS hL (i + 2) (by omega) (nI_add i 2) dL_law_809 ?_
  refine x_calll (x_runV (As := [.int (xs (i + 1)), .int (xs (i + 2))]) (rest := [.long r]) hF hm (cwV 2 hts gL_law_X6_odds rfl rfl rfl (by decide +kernel) ⟨Nat.le_of_ble_eq_true rfl, Nat.le_of_ble_eq_true rfl⟩) hK hPm (by decide) rfl rfl rfl hl.1 rfl (Nat.le_of_ble_eq_true rfl) dL_law_810 ⟨Nat.le_of_ble_eq_true rfl, Nat.le_of_ble_eq_true rfl⟩) hS hBd (fun r2 M1 H locs hw2 hPm hf hS => ?_)
  have hP := xW_kept hP hf hd2
  obtain ⟨hr, hR1⟩ := hh r S1 r2 M1 hw hw2
  refine W.lcmp hx hb dL_law_813 ?_
  refine lv_if_eq (tgt := 1163) hx hb dL_law_814 (by decide) (fun _ => ?_) (fun hc => absurd (by rw [hr]; exact lcmp_self _) hc)
  exact kk _ _ ad S1 M1 rfl ⟨hP, hPm, hI, hJ, hAd, hBd, hdis, hR1⟩ hS

set_option maxHeartbeats 4000000 in
set_option maxRecDepth 100000 in
theorem lc_sheet (C0 : lw_At p s m meth c b L xs) (hL : L ≤ 384) (hK : va_K (dC, dI) vwCl (tyl cI cZ cS cG) s) (hi : i + 6 ≤ L) (hW : LI dC dI cI cZ cS cG s ad bd S M H) (hS : va_S (fun q : Nat => s.heap.size ≤ q) s.heap H locs) (hl : lv_has ls 4 [(0, .ref b), (1, .ref (ad 0)), (2, .ref (bd 0)), (3, .int (nI i))]) (kk : ∀ (H : Heap) (locs : List Loc) (ad' : Nat → Nat) (S' M' : xSt), ad' 0 = ad 0 → LI dC dI cI cZ cS cG s ad' bd S' M' H → va_S (fun q : Nat => s.heap.size ≤ q) s.heap H locs → W p l e room_1 s m #[Value.ref b] below meth c H locs 60 915 (lw_Z below #[Value.ref b] s) (F0 m 1163 ls [])) : W p l e room_1 s m #[Value.ref b] below meth c H locs 60 915 (lw_Z below #[Value.ref b] s) (F0 m 819 ls []) := by
  obtain ⟨hx, hb, hr0, hml, hown, hts0, hX, hbl, hlocks, hgv⟩ := id C0
  have hts : ∀ w ∈ wsL_law, w.before #[Value.ref b] s = true := fun w h => hts0 w (law_in w h)
  have hbA : ¬ (fun q : Nat => s.heap.size ≤ q) b := Nat.not_le.mpr hbl
  have hF : CallFix p m c cL_law 4 s #[Value.ref b] wsL_law RL := ⟨hx, hb, hml, hown, hts⟩
  obtain ⟨hP, hPm, hI, hJ, hAd, hBd, hdis, hR⟩ := hW
  have hd1 : ∀ k, k < 18 → ¬ xA 42 ad (bd k) := fun k hk h => by obtain ⟨j, h1, h2⟩ := h; exact hdis j k h1 hk h2.symm
  have hd2 : ∀ k, k < 42 → ¬ xA 18 bd (ad k) := fun k hk h => by obtain ⟨j, h1, h2⟩ := h; exact hdis k j hk h1 h2
  have hin : ∀ q, xA 42 ad q → s.heap.size ≤ q := fun q h => by obtain ⟨j, h1, rfl⟩ := h; exact hAd j h1
  obtain ⟨pc, pm, hc, hm, hh⟩ := st_sheet (l := l) (dC := dC) (dI := dI) (cI := cI) (cZ := cZ) (cS := cS) (cG := cG) hI hJ hR (xs (i + 1)) (xs (i + 2)) (xs (i + 3))
  refine lv_aload_n hx hb dL_law_819 rfl (lv_at hl 1 rfl) ?_
  refine lv_aload_n hx hb dL_law_820 rfl (lv_at hl 0 rfl) ?_
  refine lv_iload_n hx hb dL_law_821 rfl (lv_at hl 3 rfl) ?_
  refine lv_iconst (v := 1) hx hb dL_law_822 (by decide +kernel) ?_
  refine lv_iadd hx hb dL_law_823 ?_
  refine x_sld hx hb hX hbl hbA hS hL (i + 1) (by omega) (nI_add i 1) dL_law_824 ?_
  refine lv_aload_n hx hb dL_law_825 rfl (lv_at hl 0 rfl) ?_
  refine lv_iload_n hx hb dL_law_826 rfl (lv_at hl 3 rfl) ?_
  refine lv_iconst (v := 2) hx hb dL_law_827 (by decide +kernel) ?_
  refine lv_iadd hx hb dL_law_828 ?_
  refine x_sld hx hb hX hbl hbA hS hL (i + 2) (by omega) (nI_add i 2) dL_law_829 ?_
  refine lv_aload_n hx hb dL_law_830 rfl (lv_at hl 0 rfl) ?_
  refine lv_iload_n hx hb dL_law_831 rfl (lv_at hl 3 rfl) ?_
  refine lv_iconst (v := 3) hx hb dL_law_832 (by decide +kernel) ?_
  refine lv_iadd hx hb dL_law_833 ?_
  refine x_sld hx hb hX hbl hbA hS hL (i + 3) (by omega) (nI_add i 3) dL_law_834 ?_
  refine x_calli (x_runV (As := [.int (xs (i + 1)), .int (xs (i + 2)), .int (xs (i + 3))]) (rest := []) hF hc (cwV 3 hts gL_law_X5_sheet rfl rfl rfl (by decide +kernel) ⟨Nat.le_of_ble_eq_true rfl, Nat.le_of_ble_eq_true rfl⟩) hK hP (by decide) rfl rfl rfl hl.1 rfl (Nat.le_of_ble_eq_true rfl) dL_law_835 ⟨Nat.le_of_ble_eq_true rfl, Nat.le_of_ble_eq_true rfl⟩) hS hAd (fun r S1 H locs hw hP hf hS => ?_)
  have hPm := xW_kept hPm hf hd1
  refine lv_aload_n hx hb dL_law_838 rfl (lv_at hl 2 rfl) ?_
  refine lv_aload_n hx hb dL_law_839 rfl (lv_at hl 0 rfl) ?_
  refine lv_iload_n hx hb dL_law_840 rfl (lv_at hl 3 rfl) ?_
  refine lv_iconst (v := 1) hx hb dL_law_841 (by decide +kernel) ?_
  refine lv_iadd hx hb dL_law_842 ?_
  refine x_sld hx hb hX hbl hbA hS hL (i + 1) (by omega) (nI_add i 1) dL_law_843 ?_
  refine lv_aload_n hx hb dL_law_844 rfl (lv_at hl 0 rfl) ?_
  refine lv_iload_n hx hb dL_law_845 rfl (lv_at hl 3 rfl) ?_
  refine lv_iconst (v := 2) hx hb dL_law_846 (by decide +kernel) ?_
  refine lv_iadd hx hb dL_law_847 ?_
  refine x_sld hx hb hX hbl hbA hS hL (i + 2) (by omega) (nI_add i 2) dL_law_848 ?_
  refine lv_aload_n hx hb dL_law_849 rfl (lv_at hl 0 rfl) ?_
  refine lv_iload_n hx hb dL_law_850 rfl (lv_at hl 3 rfl) ?_
  refine lv_iconst (v := 3) hx hb dL_law_851 (by decide +kernel) ?_
  refine lv_iadd hx hb dL_law_852 ?_
  refine x_sld hx hb hX hbl hbA hS hL (i + 3) (by omega) (nI_add i 3) dL_law_853 ?_
  refine x_calli (x_runV (As := [.int (xs (i + 1)), .int (xs (i + 2)), .int (xs (i + 3))]) (rest := [.int r]) hF hm (cwV 3 hts gL_law_X6_sheet rfl rfl rfl (by decide +kernel) ⟨Nat.le_of_ble_eq_true rfl, Nat.le_of_ble_eq_true rfl⟩) hK hPm (by decide) rfl rfl rfl hl.1 rfl (Nat.le_of_ble_eq_true rfl) dL_law_854 ⟨Nat.le_of_ble_eq_true rfl, Nat.le_of_ble_eq_true rfl⟩) hS hBd (fun r2 M1 H locs hw2 hPm hf hS => ?_)
  have hP := xW_kept hP hf hd2
  obtain ⟨hr, hR1⟩ := hh r S1 r2 M1 hw hw2
  refine lv_icmp_eq (tgt := 1163) hx hb dL_law_857 (by decide) (fun _ => ?_) (fun hc => absurd hr hc)
  exact kk _ _ ad S1 M1 rfl ⟨hP, hPm, hI, hJ, hAd, hBd, hdis, hR1⟩ hS

set_option maxHeartbeats 4000000 in
set_option maxRecDepth 100000 in
theorem lc_lose (C0 : lw_At p s m meth c b L xs) (hL : L ≤ 384) (hK : va_K (dC, dI) vwCl (tyl cI cZ cS cG) s) (hi : i + 6 ≤ L) (hW : LI dC dI cI cZ cS cG s ad bd S M H) (hS : va_S (fun q : Nat => s.heap.size ≤ q) s.heap H locs) (hl : lv_has ls 4 [(0, .ref b), (1, .ref (ad 0)), (2, .ref (bd 0)), (3, .int (nI i))]) (kk : ∀ (H : Heap) (locs : List Loc) (ad' : Nat → Nat) (S' M' : xSt), ad' 0 = ad 0 → LI dC dI cI cZ cS cG s ad' bd S' M' H → va_S (fun q : Nat => s.heap.size ≤ q) s.heap H locs → W p l e room_1 s m #[Value.ref b] below meth c H locs 60 915 (lw_Z below #[Value.ref b] s) (F0 m 1163 ls [])) : W p l e room_1 s m #[Value.ref b] below meth c H locs 60 915 (lw_Z below #[Value.ref b] s) (F0 m 862 ls []) := by
  obtain ⟨hx, hb, hr0, hml, hown, hts0, hX, hbl, hlocks, hgv⟩ := id C0
  have hts : ∀ w ∈ wsL_law, w.before #[Value.ref b] s = true := fun w h => hts0 w (law_in w h)
  have hbA : ¬ (fun q : Nat => s.heap.size ≤ q) b := Nat.not_le.mpr hbl
  have hF : CallFix p m c cL_law 4 s #[Value.ref b] wsL_law RL := ⟨hx, hb, hml, hown, hts⟩
  obtain ⟨hP, hPm, hI, hJ, hAd, hBd, hdis, hR⟩ := hW
  have hd1 : ∀ k, k < 18 → ¬ xA 42 ad (bd k) := fun k hk h => by obtain ⟨j, h1, h2⟩ := h; exact hdis j k h1 hk h2.symm
  have hd2 : ∀ k, k < 42 → ¬ xA 18 bd (ad k) := fun k hk h => by obtain ⟨j, h1, h2⟩ := h; exact hdis k j hk h1 h2
  have hin : ∀ q, xA 42 ad q → s.heap.size ≤ q := fun q h => by obtain ⟨j, h1, rfl⟩ := h; exact hAd j h1
  obtain ⟨pc, pm, hc, hm, hh⟩ := st_lose (l := l) (dC := dC) (dI := dI) (cI := cI) (cZ := cZ) (cS := cS) (cG := cG) hI hJ hR (xs (i + 1))
  refine lv_aload_n hx hb dL_law_862 rfl (lv_at hl 1 rfl) ?_
  refine lv_aload_n hx hb dL_law_863 rfl (lv_at hl 0 rfl) ?_
  refine lv_iload_n hx hb dL_law_864 rfl (lv_at hl 3 rfl) ?_
  refine lv_iconst (v := 1) hx hb dL_law_865 (by decide +kernel) ?_
  refine lv_iadd hx hb dL_law_866 ?_
  refine x_sld hx hb hX hbl hbA hS hL (i + 1) (by omega) (nI_add i 1) dL_law_867 ?_
  refine x_calli (x_runV (As := [.int (xs (i + 1))]) (rest := []) hF hc (cwV 1 hts gL_law_X5_lose rfl rfl rfl (by decide +kernel) ⟨Nat.le_of_ble_eq_true rfl, Nat.le_of_ble_eq_true rfl⟩) hK hP (by decide) rfl rfl rfl hl.1 rfl (Nat.le_of_ble_eq_true rfl) dL_law_868 ⟨Nat.le_of_ble_eq_true rfl, Nat.le_of_ble_eq_true rfl⟩) hS hAd (fun r S1 H locs hw hP hf hS => ?_)
  have hPm := xW_kept hPm hf hd1
  refine lv_aload_n hx hb dL_law_871 rfl (lv_at hl 2 rfl) ?_
  refine lv_aload_n hx hb dL_law_872 rfl (lv_at hl 0 rfl) ?_
  refine lv_iload_n hx hb dL_law_873 rfl (lv_at hl 3 rfl) ?_
  refine lv_iconst (v := 1) hx hb dL_law_874 (by decide +kernel) ?_
  refine lv_iadd hx hb dL_law_875 ?_
  refine x_sld hx hb hX hbl hbA hS hL (i + 1) (by omega) (nI_add i 1) dL_law_876 ?_
  refine x_calli (x_runV (As := [.int (xs (i + 1))]) (rest := [.int r]) hF hm (cwV 1 hts gL_law_X6_lose rfl rfl rfl (by decide +kernel) ⟨Nat.le_of_ble_eq_true rfl, Nat.le_of_ble_eq_true rfl⟩) hK hPm (by decide) rfl rfl rfl hl.1 rfl (Nat.le_of_ble_eq_true rfl) dL_law_877 ⟨Nat.le_of_ble_eq_true rfl, Nat.le_of_ble_eq_true rfl⟩) hS hBd (fun r2 M1 H locs hw2 hPm hf hS => ?_)
  have hP := xW_kept hP hf hd2
  obtain ⟨hr, hR1⟩ := hh r S1 r2 M1 hw hw2
  refine lv_icmp_eq (tgt := 1163) hx hb dL_law_880 (by decide) (fun _ => ?_) (fun hc => absurd hr hc)
  exact kk _ _ ad S1 M1 rfl ⟨hP, hPm, hI, hJ, hAd, hBd, hdis, hR1⟩ hS

set_option maxHeartbeats 4000000 in
set_option maxRecDepth 100000 in
theorem lc_put (C0 : lw_At p s m meth c b L xs) (hL : L ≤ 384) (hK : va_K (dC, dI) vwCl (tyl cI cZ cS cG) s) (hi : i + 6 ≤ L) (hW : LI dC dI cI cZ cS cG s ad bd S M H) (hS : va_S (fun q : Nat => s.heap.size ≤ q) s.heap H locs) (hl : lv_has ls 4 [(0, .ref b), (1, .ref (ad 0)), (2, .ref (bd 0)), (3, .int (nI i))]) (kk : ∀ (H : Heap) (locs : List Loc) (ad' : Nat → Nat) (S' M' : xSt), ad' 0 = ad 0 → LI dC dI cI cZ cS cG s ad' bd S' M' H → va_S (fun q : Nat => s.heap.size ≤ q) s.heap H locs → W p l e room_1 s m #[Value.ref b] below meth c H locs 60 915 (lw_Z below #[Value.ref b] s) (F0 m 1163 ls [])) : W p l e room_1 s m #[Value.ref b] below meth c H locs 60 915 (lw_Z below #[Value.ref b] s) (F0 m 885 ls []) := by
  obtain ⟨hx, hb, hr0, hml, hown, hts0, hX, hbl, hlocks, hgv⟩ := id C0
  have hts : ∀ w ∈ wsL_law, w.before #[Value.ref b] s = true := fun w h => hts0 w (law_in w h)
  have hbA : ¬ (fun q : Nat => s.heap.size ≤ q) b := Nat.not_le.mpr hbl
  have hF : CallFix p m c cL_law 4 s #[Value.ref b] wsL_law RL := ⟨hx, hb, hml, hown, hts⟩
  obtain ⟨hP, hPm, hI, hJ, hAd, hBd, hdis, hR⟩ := hW
  have hd1 : ∀ k, k < 18 → ¬ xA 42 ad (bd k) := fun k hk h => by obtain ⟨j, h1, h2⟩ := h; exact hdis j k h1 hk h2.symm
  have hd2 : ∀ k, k < 42 → ¬ xA 18 bd (ad k) := fun k hk h => by obtain ⟨j, h1, h2⟩ := h; exact hdis k j hk h1 h2
  have hin : ∀ q, xA 42 ad q → s.heap.size ≤ q := fun q h => by obtain ⟨j, h1, rfl⟩ := h; exact hAd j h1
  obtain ⟨pc, pm, hc, hm, hh⟩ := st_put (l := l) (dC := dC) (dI := dI) (cI := cI) (cZ := cZ) (cS := cS) (cG := cG) hI hJ hR (xs (i + 1)) (xs (i + 2)) (xs (i + 3))
  refine lv_aload_n hx hb dL_law_885 rfl (lv_at hl 1 rfl) ?_
  refine lv_aload_n hx hb dL_law_886 rfl (lv_at hl 0 rfl) ?_
  refine lv_iload_n hx hb dL_law_887 rfl (lv_at hl 3 rfl) ?_
  refine lv_iconst (v := 1) hx hb dL_law_888 (by decide +kernel) ?_
  refine lv_iadd hx hb dL_law_889 ?_
  refine x_sld hx hb hX hbl hbA hS hL (i + 1) (by omega) (nI_add i 1) dL_law_890 ?_
  refine lv_aload_n hx hb dL_law_891 rfl (lv_at hl 0 rfl) ?_
  refine lv_iload_n hx hb dL_law_892 rfl (lv_at hl 3 rfl) ?_
  refine lv_iconst (v := 2) hx hb dL_law_893 (by decide +kernel) ?_
  refine lv_iadd hx hb dL_law_894 ?_
  refine x_sld hx hb hX hbl hbA hS hL (i + 2) (by omega) (nI_add i 2) dL_law_895 ?_
  refine lv_aload_n hx hb dL_law_896 rfl (lv_at hl 0 rfl) ?_
  refine lv_iload_n hx hb dL_law_897 rfl (lv_at hl 3 rfl) ?_
  refine lv_iconst (v := 3) hx hb dL_law_898 (by decide +kernel) ?_
  refine lv_iadd hx hb dL_law_899 ?_
  refine x_sld hx hb hX hbl hbA hS hL (i + 3) (by omega) (nI_add i 3) dL_law_900 ?_
  refine x_calli (x_runV (As := [.int (xs (i + 1)), .int (xs (i + 2)), .int (xs (i + 3))]) (rest := []) hF hc (cwV 3 hts gL_law_X5_put rfl rfl rfl (by decide +kernel) ⟨Nat.le_of_ble_eq_true rfl, Nat.le_of_ble_eq_true rfl⟩) hK hP (by decide) rfl rfl rfl hl.1 rfl (Nat.le_of_ble_eq_true rfl) dL_law_901 ⟨Nat.le_of_ble_eq_true rfl, Nat.le_of_ble_eq_true rfl⟩) hS hAd (fun r S1 H locs hw hP hf hS => ?_)
  have hPm := xW_kept hPm hf hd1
  refine lv_aload_n hx hb dL_law_904 rfl (lv_at hl 2 rfl) ?_
  refine lv_aload_n hx hb dL_law_905 rfl (lv_at hl 0 rfl) ?_
  refine lv_iload_n hx hb dL_law_906 rfl (lv_at hl 3 rfl) ?_
  refine lv_iconst (v := 1) hx hb dL_law_907 (by decide +kernel) ?_
  refine lv_iadd hx hb dL_law_908 ?_
  refine x_sld hx hb hX hbl hbA hS hL (i + 1) (by omega) (nI_add i 1) dL_law_909 ?_
  refine lv_aload_n hx hb dL_law_910 rfl (lv_at hl 0 rfl) ?_
  refine lv_iload_n hx hb dL_law_911 rfl (lv_at hl 3 rfl) ?_
  refine lv_iconst (v := 2) hx hb dL_law_912 (by decide +kernel) ?_
  refine lv_iadd hx hb dL_law_913 ?_
  refine x_sld hx hb hX hbl hbA hS hL (i + 2) (by omega) (nI_add i 2) dL_law_914 ?_
  refine lv_aload_n hx hb dL_law_915 rfl (lv_at hl 0 rfl) ?_
  refine lv_iload_n hx hb dL_law_916 rfl (lv_at hl 3 rfl) ?_
  refine lv_iconst (v := 3) hx hb dL_law_917 (by decide +kernel) ?_
  refine lv_iadd hx hb dL_law_918 ?_
  refine x_sld hx hb hX hbl hbA hS hL (i + 3) (by omega) (nI_add i 3) dL_law_919 ?_
  refine x_calli (x_runV (As := [.int (xs (i + 1)), .int (xs (i + 2)), .int (xs (i + 3))]) (rest := [.int r]) hF hm (cwV 3 hts gL_law_X6_put rfl rfl rfl (by decide +kernel) ⟨Nat.le_of_ble_eq_true rfl, Nat.le_of_ble_eq_true rfl⟩) hK hPm (by decide) rfl rfl rfl hl.1 rfl (Nat.le_of_ble_eq_true rfl) dL_law_920 ⟨Nat.le_of_ble_eq_true rfl, Nat.le_of_ble_eq_true rfl⟩) hS hBd (fun r2 M1 H locs hw2 hPm hf hS => ?_)
  have hP := xW_kept hP hf hd2
  obtain ⟨hr, hR1⟩ := hh r S1 r2 M1 hw hw2
  refine lv_icmp_eq (tgt := 1163) hx hb dL_law_923 (by decide) (fun _ => ?_) (fun hc => absurd hr hc)
  exact kk _ _ ad S1 M1 rfl ⟨hP, hPm, hI, hJ, hAd, hBd, hdis, hR1⟩ hS

set_option maxHeartbeats 4000000 in
set_option maxRecDepth 100000 in
theorem lc_cell (C0 : lw_At p s m meth c b L xs) (hL : L ≤ 384) (hK : va_K (dC, dI) vwCl (tyl cI cZ cS cG) s) (hi : i + 6 ≤ L) (hW : LI dC dI cI cZ cS cG s ad bd S M H) (hS : va_S (fun q : Nat => s.heap.size ≤ q) s.heap H locs) (hl : lv_has ls 4 [(0, .ref b), (1, .ref (ad 0)), (2, .ref (bd 0)), (3, .int (nI i))]) (kk : ∀ (H : Heap) (locs : List Loc) (ad' : Nat → Nat) (S' M' : xSt), ad' 0 = ad 0 → LI dC dI cI cZ cS cG s ad' bd S' M' H → va_S (fun q : Nat => s.heap.size ≤ q) s.heap H locs → W p l e room_1 s m #[Value.ref b] below meth c H locs 60 915 (lw_Z below #[Value.ref b] s) (F0 m 1163 ls [])) : W p l e room_1 s m #[Value.ref b] below meth c H locs 60 915 (lw_Z below #[Value.ref b] s) (F0 m 928 ls []) := by
  obtain ⟨hx, hb, hr0, hml, hown, hts0, hX, hbl, hlocks, hgv⟩ := id C0
  have hts : ∀ w ∈ wsL_law, w.before #[Value.ref b] s = true := fun w h => hts0 w (law_in w h)
  have hbA : ¬ (fun q : Nat => s.heap.size ≤ q) b := Nat.not_le.mpr hbl
  have hF : CallFix p m c cL_law 4 s #[Value.ref b] wsL_law RL := ⟨hx, hb, hml, hown, hts⟩
  obtain ⟨hP, hPm, hI, hJ, hAd, hBd, hdis, hR⟩ := hW
  have hd1 : ∀ k, k < 18 → ¬ xA 42 ad (bd k) := fun k hk h => by obtain ⟨j, h1, h2⟩ := h; exact hdis j k h1 hk h2.symm
  have hd2 : ∀ k, k < 42 → ¬ xA 18 bd (ad k) := fun k hk h => by obtain ⟨j, h1, h2⟩ := h; exact hdis k j hk h1 h2
  have hin : ∀ q, xA 42 ad q → s.heap.size ≤ q := fun q h => by obtain ⟨j, h1, rfl⟩ := h; exact hAd j h1
  obtain ⟨pc, pm, hc, hm, hh⟩ := st_cell (l := l) (dC := dC) (dI := dI) (cI := cI) (cZ := cZ) (cS := cS) (cG := cG) hI hJ hR (xs (i + 1)) (xs (i + 2)) (xs (i + 3))
  refine lv_aload_n hx hb dL_law_928 rfl (lv_at hl 1 rfl) ?_
  refine lv_aload_n hx hb dL_law_929 rfl (lv_at hl 0 rfl) ?_
  refine lv_iload_n hx hb dL_law_930 rfl (lv_at hl 3 rfl) ?_
  refine lv_iconst (v := 1) hx hb dL_law_931 (by decide +kernel) ?_
  refine lv_iadd hx hb dL_law_932 ?_
  refine x_sld hx hb hX hbl hbA hS hL (i + 1) (by omega) (nI_add i 1) dL_law_933 ?_
  refine lv_aload_n hx hb dL_law_934 rfl (lv_at hl 0 rfl) ?_
  refine lv_iload_n hx hb dL_law_935 rfl (lv_at hl 3 rfl) ?_
  refine lv_iconst (v := 2) hx hb dL_law_936 (by decide +kernel) ?_
  refine lv_iadd hx hb dL_law_937 ?_
  refine x_sld hx hb hX hbl hbA hS hL (i + 2) (by omega) (nI_add i 2) dL_law_938 ?_
  refine lv_aload_n hx hb dL_law_939 rfl (lv_at hl 0 rfl) ?_
  refine lv_iload_n hx hb dL_law_940 rfl (lv_at hl 3 rfl) ?_
  refine lv_iconst (v := 3) hx hb dL_law_941 (by decide +kernel) ?_
  refine lv_iadd hx hb dL_law_942 ?_
  refine x_sld hx hb hX hbl hbA hS hL (i + 3) (by omega) (nI_add i 3) dL_law_943 ?_
  refine x_calll (x_runV (As := [.int (xs (i + 1)), .int (xs (i + 2)), .int (xs (i + 3))]) (rest := []) hF hc (cwV 3 hts gL_law_X5_cell rfl rfl rfl (by decide +kernel) ⟨Nat.le_of_ble_eq_true rfl, Nat.le_of_ble_eq_true rfl⟩) hK hP (by decide) rfl rfl rfl hl.1 rfl (Nat.le_of_ble_eq_true rfl) dL_law_944 ⟨Nat.le_of_ble_eq_true rfl, Nat.le_of_ble_eq_true rfl⟩) hS hAd (fun r S1 H locs hw hP hf hS => ?_)
  have hPm := xW_kept hPm hf hd1
  refine lv_aload_n hx hb dL_law_947 rfl (lv_at hl 2 rfl) ?_
  refine lv_aload_n hx hb dL_law_948 rfl (lv_at hl 0 rfl) ?_
  refine lv_iload_n hx hb dL_law_949 rfl (lv_at hl 3 rfl) ?_
  refine lv_iconst (v := 1) hx hb dL_law_950 (by decide +kernel) ?_
  refine lv_iadd hx hb dL_law_951 ?_
  refine x_sld hx hb hX hbl hbA hS hL (i + 1) (by omega) (nI_add i 1) dL_law_952 ?_
  refine lv_aload_n hx hb dL_law_953 rfl (lv_at hl 0 rfl) ?_
  refine lv_iload_n hx hb dL_law_954 rfl (lv_at hl 3 rfl) ?_
  refine lv_iconst (v := 2) hx hb dL_law_955 (by decide +kernel) ?_
  refine lv_iadd hx hb dL_law_956 ?_
  refine x_sld hx hb hX hbl hbA hS hL (i + 2) (by omega) (nI_add i 2) dL_law_957 ?_
  refine lv_aload_n hx hb dL_law_958 rfl (lv_at hl 0 rfl) ?_
  refine lv_iload_n hx hb dL_law_959 rfl (lv_at hl 3 rfl) ?_
  refine lv_iconst (v := 3) hx hb dL_law_960 (by decide +kernel) ?_
  refine lv_iadd hx hb dL_law_961 ?_
  refine x_sld hx hb hX hbl hbA hS hL (i + 3) (by omega) (nI_add i 3) dL_law_962 ?_
  refine x_calll (x_runV (As := [.int (xs (i + 1)), .int (xs (i + 2)), .int (xs (i + 3))]) (rest := [.long r]) hF hm (cwV 3 hts gL_law_X6_cell rfl rfl rfl (by decide +kernel) ⟨Nat.le_of_ble_eq_true rfl, Nat.le_of_ble_eq_true rfl⟩) hK hPm (by decide) rfl rfl rfl hl.1 rfl (Nat.le_of_ble_eq_true rfl) dL_law_963 ⟨Nat.le_of_ble_eq_true rfl, Nat.le_of_ble_eq_true rfl⟩) hS hBd (fun r2 M1 H locs hw2 hPm hf hS => ?_)
  have hP := xW_kept hP hf hd2
  obtain ⟨hr, hR1⟩ := hh r S1 r2 M1 hw hw2
  refine W.lcmp hx hb dL_law_966 ?_
  refine lv_if_eq (tgt := 1163) hx hb dL_law_967 (by decide) (fun _ => ?_) (fun hc => absurd (by rw [hr]; exact lcmp_self _) hc)
  exact kk _ _ ad S1 M1 rfl ⟨hP, hPm, hI, hJ, hAd, hBd, hdis, hR1⟩ hS

set_option maxHeartbeats 4000000 in
set_option maxRecDepth 100000 in
theorem lc_copy (C0 : lw_At p s m meth c b L xs) (hL : L ≤ 384) (hK : va_K (dC, dI) vwCl (tyl cI cZ cS cG) s) (hi : i + 6 ≤ L) (hW : LI dC dI cI cZ cS cG s ad bd S M H) (hS : va_S (fun q : Nat => s.heap.size ≤ q) s.heap H locs) (hl : lv_has ls 4 [(0, .ref b), (1, .ref (ad 0)), (2, .ref (bd 0)), (3, .int (nI i))]) (kk : ∀ (H : Heap) (locs : List Loc) (ad' : Nat → Nat) (S' M' : xSt), ad' 0 = ad 0 → LI dC dI cI cZ cS cG s ad' bd S' M' H → va_S (fun q : Nat => s.heap.size ≤ q) s.heap H locs → W p l e room_1 s m #[Value.ref b] below meth c H locs 60 915 (lw_Z below #[Value.ref b] s) (F0 m 1163 ls [])) : W p l e room_1 s m #[Value.ref b] below meth c H locs 60 915 (lw_Z below #[Value.ref b] s) (F0 m 972 ls []) := by
  obtain ⟨hx, hb, hr0, hml, hown, hts0, hX, hbl, hlocks, hgv⟩ := id C0
  have hts : ∀ w ∈ wsL_law, w.before #[Value.ref b] s = true := fun w h => hts0 w (law_in w h)
  have hbA : ¬ (fun q : Nat => s.heap.size ≤ q) b := Nat.not_le.mpr hbl
  have hF : CallFix p m c cL_law 4 s #[Value.ref b] wsL_law RL := ⟨hx, hb, hml, hown, hts⟩
  obtain ⟨hP, hPm, hI, hJ, hAd, hBd, hdis, hR⟩ := hW
  have hd1 : ∀ k, k < 18 → ¬ xA 42 ad (bd k) := fun k hk h => by obtain ⟨j, h1, h2⟩ := h; exact hdis j k h1 hk h2.symm
  have hd2 : ∀ k, k < 42 → ¬ xA 18 bd (ad k) := fun k hk h => by obtain ⟨j, h1, h2⟩ := h; exact hdis k j hk h1 h2
  have hin : ∀ q, xA 42 ad q → s.heap.size ≤ q := fun q h => by obtain ⟨j, h1, rfl⟩ := h; exact hAd j h1
  obtain ⟨pc, pm, hc, hm, hh⟩ := st_copy (l := l) (dC := dC) (dI := dI) (cI := cI) (cZ := cZ) (cS := cS) (cG := cG) hI hJ hR (xs (i + 1)) (xs (i + 2)) (xs (i + 3)) (xs (i + 4)) (xs (i + 5))
  refine lv_aload_n hx hb dL_law_972 rfl (lv_at hl 1 rfl) ?_
  refine lv_aload_n hx hb dL_law_973 rfl (lv_at hl 0 rfl) ?_
  refine lv_iload_n hx hb dL_law_974 rfl (lv_at hl 3 rfl) ?_
  refine lv_iconst (v := 1) hx hb dL_law_975 (by decide +kernel) ?_
  refine lv_iadd hx hb dL_law_976 ?_
  refine x_sld hx hb hX hbl hbA hS hL (i + 1) (by omega) (nI_add i 1) dL_law_977 ?_
  refine lv_aload_n hx hb dL_law_978 rfl (lv_at hl 0 rfl) ?_
  refine lv_iload_n hx hb dL_law_979 rfl (lv_at hl 3 rfl) ?_
  refine lv_iconst (v := 2) hx hb dL_law_980 (by decide +kernel) ?_
  refine lv_iadd hx hb dL_law_981 ?_
  refine x_sld hx hb hX hbl hbA hS hL (i + 2) (by omega) (nI_add i 2) dL_law_982 ?_
  refine lv_aload_n hx hb dL_law_983 rfl (lv_at hl 0 rfl) ?_
  refine lv_iload_n hx hb dL_law_984 rfl (lv_at hl 3 rfl) ?_
  refine lv_iconst (v := 3) hx hb dL_law_985 (by decide +kernel) ?_
  refine lv_iadd hx hb dL_law_986 ?_
  refine x_sld hx hb hX hbl hbA hS hL (i + 3) (by omega) (nI_add i 3) dL_law_987 ?_
  refine lv_aload_n hx hb dL_law_988 rfl (lv_at hl 0 rfl) ?_
  refine lv_iload_n hx hb dL_law_989 rfl (lv_at hl 3 rfl) ?_
  refine lv_iconst (v := 4) hx hb dL_law_990 (by decide +kernel) ?_
  refine lv_iadd hx hb dL_law_991 ?_
  refine x_sld hx hb hX hbl hbA hS hL (i + 4) (by omega) (nI_add i 4) dL_law_992 ?_
  refine lv_aload_n hx hb dL_law_993 rfl (lv_at hl 0 rfl) ?_
  refine lv_iload_n hx hb dL_law_994 rfl (lv_at hl 3 rfl) ?_
  refine lv_iconst (v := 5) hx hb dL_law_995 (by decide +kernel) ?_
  refine lv_iadd hx hb dL_law_996 ?_
  refine x_sld hx hb hX hbl hbA hS hL (i + 5) (by omega) (nI_add i 5) dL_law_997 ?_
  refine x_calli (x_runV (As := [.int (xs (i + 1)), .int (xs (i + 2)), .int (xs (i + 3)), .int (xs (i + 4)), .int (xs (i + 5))]) (rest := []) hF hc (cwV 5 hts gL_law_X5_copy rfl rfl rfl (by decide +kernel) ⟨Nat.le_of_ble_eq_true rfl, Nat.le_of_ble_eq_true rfl⟩) hK hP (by decide) rfl rfl rfl hl.1 rfl (Nat.le_of_ble_eq_true rfl) dL_law_998 ⟨Nat.le_of_ble_eq_true rfl, Nat.le_of_ble_eq_true rfl⟩) hS hAd (fun r S1 H locs hw hP hf hS => ?_)
  have hPm := xW_kept hPm hf hd1
  refine lv_aload_n hx hb dL_law_1001 rfl (lv_at hl 2 rfl) ?_
  refine lv_aload_n hx hb dL_law_1002 rfl (lv_at hl 0 rfl) ?_
  refine lv_iload_n hx hb dL_law_1003 rfl (lv_at hl 3 rfl) ?_
  refine lv_iconst (v := 1) hx hb dL_law_1004 (by decide +kernel) ?_
  refine lv_iadd hx hb dL_law_1005 ?_
  refine x_sld hx hb hX hbl hbA hS hL (i + 1) (by omega) (nI_add i 1) dL_law_1006 ?_
  refine lv_aload_n hx hb dL_law_1007 rfl (lv_at hl 0 rfl) ?_
  refine lv_iload_n hx hb dL_law_1008 rfl (lv_at hl 3 rfl) ?_
  refine lv_iconst (v := 2) hx hb dL_law_1009 (by decide +kernel) ?_
  refine lv_iadd hx hb dL_law_1010 ?_
  refine x_sld hx hb hX hbl hbA hS hL (i + 2) (by omega) (nI_add i 2) dL_law_1011 ?_
  refine lv_aload_n hx hb dL_law_1012 rfl (lv_at hl 0 rfl) ?_
  refine lv_iload_n hx hb dL_law_1013 rfl (lv_at hl 3 rfl) ?_
  refine lv_iconst (v := 3) hx hb dL_law_1014 (by decide +kernel) ?_
  refine lv_iadd hx hb dL_law_1015 ?_
  refine x_sld hx hb hX hbl hbA hS hL (i + 3) (by omega) (nI_add i 3) dL_law_1016 ?_
  refine lv_aload_n hx hb dL_law_1017 rfl (lv_at hl 0 rfl) ?_
  refine lv_iload_n hx hb dL_law_1018 rfl (lv_at hl 3 rfl) ?_
  refine lv_iconst (v := 4) hx hb dL_law_1019 (by decide +kernel) ?_
  refine lv_iadd hx hb dL_law_1020 ?_
  refine x_sld hx hb hX hbl hbA hS hL (i + 4) (by omega) (nI_add i 4) dL_law_1021 ?_
  refine lv_aload_n hx hb dL_law_1022 rfl (lv_at hl 0 rfl) ?_
  refine lv_iload_n hx hb dL_law_1023 rfl (lv_at hl 3 rfl) ?_
  refine lv_iconst (v := 5) hx hb dL_law_1024 (by decide +kernel) ?_
  refine lv_iadd hx hb dL_law_1025 ?_
  refine x_sld hx hb hX hbl hbA hS hL (i + 5) (by omega) (nI_add i 5) dL_law_1026 ?_
  refine x_calli (x_runV (As := [.int (xs (i + 1)), .int (xs (i + 2)), .int (xs (i + 3)), .int (xs (i + 4)), .int (xs (i + 5))]) (rest := [.int r]) hF hm (cwV 5 hts gL_law_X6_copy rfl rfl rfl (by decide +kernel) ⟨Nat.le_of_ble_eq_true rfl, Nat.le_of_ble_eq_true rfl⟩) hK hPm (by decide) rfl rfl rfl hl.1 rfl (Nat.le_of_ble_eq_true rfl) dL_law_1027 ⟨Nat.le_of_ble_eq_true rfl, Nat.le_of_ble_eq_true rfl⟩) hS hBd (fun r2 M1 H locs hw2 hPm hf hS => ?_)
  have hP := xW_kept hP hf hd2
  obtain ⟨hr, hR1⟩ := hh r S1 r2 M1 hw hw2
  refine lv_icmp_eq (tgt := 1163) hx hb dL_law_1030 (by decide) (fun _ => ?_) (fun hc => absurd hr hc)
  exact kk _ _ ad S1 M1 rfl ⟨hP, hPm, hI, hJ, hAd, hBd, hdis, hR1⟩ hS

set_option maxHeartbeats 4000000 in
set_option maxRecDepth 100000 in
theorem lc_tell (C0 : lw_At p s m meth c b L xs) (hL : L ≤ 384) (hK : va_K (dC, dI) vwCl (tyl cI cZ cS cG) s) (hi : i + 6 ≤ L) (hW : LI dC dI cI cZ cS cG s ad bd S M H) (hS : va_S (fun q : Nat => s.heap.size ≤ q) s.heap H locs) (hl : lv_has ls 4 [(0, .ref b), (1, .ref (ad 0)), (2, .ref (bd 0)), (3, .int (nI i))]) (kk : ∀ (H : Heap) (locs : List Loc) (ad' : Nat → Nat) (S' M' : xSt), ad' 0 = ad 0 → LI dC dI cI cZ cS cG s ad' bd S' M' H → va_S (fun q : Nat => s.heap.size ≤ q) s.heap H locs → W p l e room_1 s m #[Value.ref b] below meth c H locs 60 915 (lw_Z below #[Value.ref b] s) (F0 m 1163 ls [])) : W p l e room_1 s m #[Value.ref b] below meth c H locs 60 915 (lw_Z below #[Value.ref b] s) (F0 m 1035 ls []) := by
  obtain ⟨hx, hb, hr0, hml, hown, hts0, hX, hbl, hlocks, hgv⟩ := id C0
  have hts : ∀ w ∈ wsL_law, w.before #[Value.ref b] s = true := fun w h => hts0 w (law_in w h)
  have hbA : ¬ (fun q : Nat => s.heap.size ≤ q) b := Nat.not_le.mpr hbl
  have hF : CallFix p m c cL_law 4 s #[Value.ref b] wsL_law RL := ⟨hx, hb, hml, hown, hts⟩
  obtain ⟨hP, hPm, hI, hJ, hAd, hBd, hdis, hR⟩ := hW
  have hd1 : ∀ k, k < 18 → ¬ xA 42 ad (bd k) := fun k hk h => by obtain ⟨j, h1, h2⟩ := h; exact hdis j k h1 hk h2.symm
  have hd2 : ∀ k, k < 42 → ¬ xA 18 bd (ad k) := fun k hk h => by obtain ⟨j, h1, h2⟩ := h; exact hdis k j hk h1 h2
  have hin : ∀ q, xA 42 ad q → s.heap.size ≤ q := fun q h => by obtain ⟨j, h1, rfl⟩ := h; exact hAd j h1
  obtain ⟨pc, pm, hc, hm, hh⟩ := st_tell (l := l) (dC := dC) (dI := dI) (cI := cI) (cZ := cZ) (cS := cS) (cG := cG) hI hJ hR (xs (i + 1))
  refine lv_aload_n hx hb dL_law_1035 rfl (lv_at hl 1 rfl) ?_
  refine lv_aload_n hx hb dL_law_1036 rfl (lv_at hl 0 rfl) ?_
  refine lv_iload_n hx hb dL_law_1037 rfl (lv_at hl 3 rfl) ?_
  refine lv_iconst (v := 1) hx hb dL_law_1038 (by decide +kernel) ?_
  refine lv_iadd hx hb dL_law_1039 ?_
  refine x_sld hx hb hX hbl hbA hS hL (i + 1) (by omega) (nI_add i 1) dL_law_1040 ?_
  refine x_calli (x_runV (As := [.int (xs (i + 1))]) (rest := []) hF hc (cwV 1 hts gL_law_X5_tell rfl rfl rfl (by decide +kernel) ⟨Nat.le_of_ble_eq_true rfl, Nat.le_of_ble_eq_true rfl⟩) hK hP (by decide) rfl rfl rfl hl.1 rfl (Nat.le_of_ble_eq_true rfl) dL_law_1041 ⟨Nat.le_of_ble_eq_true rfl, Nat.le_of_ble_eq_true rfl⟩) hS hAd (fun r S1 H locs hw hP hf hS => ?_)
  have hPm := xW_kept hPm hf hd1
  refine lv_aload_n hx hb dL_law_1044 rfl (lv_at hl 2 rfl) ?_
  refine lv_aload_n hx hb dL_law_1045 rfl (lv_at hl 0 rfl) ?_
  refine lv_iload_n hx hb dL_law_1046 rfl (lv_at hl 3 rfl) ?_
  refine lv_iconst (v := 1) hx hb dL_law_1047 (by decide +kernel) ?_
  refine lv_iadd hx hb dL_law_1048 ?_
  refine x_sld hx hb hX hbl hbA hS hL (i + 1) (by omega) (nI_add i 1) dL_law_1049 ?_
  refine x_calli (x_runV (As := [.int (xs (i + 1))]) (rest := [.int r]) hF hm (cwV 1 hts gL_law_X6_tell rfl rfl rfl (by decide +kernel) ⟨Nat.le_of_ble_eq_true rfl, Nat.le_of_ble_eq_true rfl⟩) hK hPm (by decide) rfl rfl rfl hl.1 rfl (Nat.le_of_ble_eq_true rfl) dL_law_1050 ⟨Nat.le_of_ble_eq_true rfl, Nat.le_of_ble_eq_true rfl⟩) hS hBd (fun r2 M1 H locs hw2 hPm hf hS => ?_)
  have hP := xW_kept hP hf hd2
  obtain ⟨hr, hR1⟩ := hh r S1 r2 M1 hw hw2
  refine lv_icmp_eq (tgt := 1163) hx hb dL_law_1053 (by decide) (fun _ => ?_) (fun hc => absurd hr hc)
  exact kk _ _ ad S1 M1 rfl ⟨hP, hPm, hI, hJ, hAd, hBd, hdis, hR1⟩ hS

set_option maxHeartbeats 4000000 in
set_option maxRecDepth 100000 in
theorem lc_teach (C0 : lw_At p s m meth c b L xs) (hL : L ≤ 384) (hK : va_K (dC, dI) vwCl (tyl cI cZ cS cG) s) (hi : i + 6 ≤ L) (hW : LI dC dI cI cZ cS cG s ad bd S M H) (hS : va_S (fun q : Nat => s.heap.size ≤ q) s.heap H locs) (hl : lv_has ls 4 [(0, .ref b), (1, .ref (ad 0)), (2, .ref (bd 0)), (3, .int (nI i))]) (kk : ∀ (H : Heap) (locs : List Loc) (ad' : Nat → Nat) (S' M' : xSt), ad' 0 = ad 0 → LI dC dI cI cZ cS cG s ad' bd S' M' H → va_S (fun q : Nat => s.heap.size ≤ q) s.heap H locs → W p l e room_1 s m #[Value.ref b] below meth c H locs 60 915 (lw_Z below #[Value.ref b] s) (F0 m 1163 ls [])) : W p l e room_1 s m #[Value.ref b] below meth c H locs 60 915 (lw_Z below #[Value.ref b] s) (F0 m 1058 ls []) := by
  obtain ⟨hx, hb, hr0, hml, hown, hts0, hX, hbl, hlocks, hgv⟩ := id C0
  have hts : ∀ w ∈ wsL_law, w.before #[Value.ref b] s = true := fun w h => hts0 w (law_in w h)
  have hbA : ¬ (fun q : Nat => s.heap.size ≤ q) b := Nat.not_le.mpr hbl
  have hF : CallFix p m c cL_law 4 s #[Value.ref b] wsL_law RL := ⟨hx, hb, hml, hown, hts⟩
  obtain ⟨hP, hPm, hI, hJ, hAd, hBd, hdis, hR⟩ := hW
  have hd1 : ∀ k, k < 18 → ¬ xA 42 ad (bd k) := fun k hk h => by obtain ⟨j, h1, h2⟩ := h; exact hdis j k h1 hk h2.symm
  have hd2 : ∀ k, k < 42 → ¬ xA 18 bd (ad k) := fun k hk h => by obtain ⟨j, h1, h2⟩ := h; exact hdis k j hk h1 h2
  have hin : ∀ q, xA 42 ad q → s.heap.size ≤ q := fun q h => by obtain ⟨j, h1, rfl⟩ := h; exact hAd j h1
  obtain ⟨pc, pm, hc, hm, hh⟩ := st_teach (l := l) (dC := dC) (dI := dI) (cI := cI) (cZ := cZ) (cS := cS) (cG := cG) hI hJ hR (xs (i + 1))
  refine lv_aload_n hx hb dL_law_1058 rfl (lv_at hl 1 rfl) ?_
  refine lv_aload_n hx hb dL_law_1059 rfl (lv_at hl 0 rfl) ?_
  refine lv_iload_n hx hb dL_law_1060 rfl (lv_at hl 3 rfl) ?_
  refine lv_iconst (v := 1) hx hb dL_law_1061 (by decide +kernel) ?_
  refine lv_iadd hx hb dL_law_1062 ?_
  refine x_sld hx hb hX hbl hbA hS hL (i + 1) (by omega) (nI_add i 1) dL_law_1063 ?_
  refine x_calli (x_runV (As := [.int (xs (i + 1))]) (rest := []) hF hc (cwV 1 hts gL_law_X5_teach rfl rfl rfl (by decide +kernel) ⟨Nat.le_of_ble_eq_true rfl, Nat.le_of_ble_eq_true rfl⟩) hK hP (by decide) rfl rfl rfl hl.1 rfl (Nat.le_of_ble_eq_true rfl) dL_law_1064 ⟨Nat.le_of_ble_eq_true rfl, Nat.le_of_ble_eq_true rfl⟩) hS hAd (fun r S1 H locs hw hP hf hS => ?_)
  have hPm := xW_kept hPm hf hd1
  refine lv_aload_n hx hb dL_law_1067 rfl (lv_at hl 2 rfl) ?_
  refine lv_aload_n hx hb dL_law_1068 rfl (lv_at hl 0 rfl) ?_
  refine lv_iload_n hx hb dL_law_1069 rfl (lv_at hl 3 rfl) ?_
  refine lv_iconst (v := 1) hx hb dL_law_1070 (by decide +kernel) ?_
  refine lv_iadd hx hb dL_law_1071 ?_
  refine x_sld hx hb hX hbl hbA hS hL (i + 1) (by omega) (nI_add i 1) dL_law_1072 ?_
  refine x_calli (x_runV (As := [.int (xs (i + 1))]) (rest := [.int r]) hF hm (cwV 1 hts gL_law_X6_teach rfl rfl rfl (by decide +kernel) ⟨Nat.le_of_ble_eq_true rfl, Nat.le_of_ble_eq_true rfl⟩) hK hPm (by decide) rfl rfl rfl hl.1 rfl (Nat.le_of_ble_eq_true rfl) dL_law_1073 ⟨Nat.le_of_ble_eq_true rfl, Nat.le_of_ble_eq_true rfl⟩) hS hBd (fun r2 M1 H locs hw2 hPm hf hS => ?_)
  have hP := xW_kept hP hf hd2
  obtain ⟨hr, hR1⟩ := hh r S1 r2 M1 hw hw2
  refine lv_icmp_eq (tgt := 1163) hx hb dL_law_1076 (by decide) (fun _ => ?_) (fun hc => absurd hr hc)
  exact kk _ _ ad S1 M1 rfl ⟨hP, hPm, hI, hJ, hAd, hBd, hdis, hR1⟩ hS

set_option maxHeartbeats 4000000 in
set_option maxRecDepth 100000 in
theorem lc_as (C0 : lw_At p s m meth c b L xs) (hL : L ≤ 384) (hK : va_K (dC, dI) vwCl (tyl cI cZ cS cG) s) (hi : i + 6 ≤ L) (hW : LI dC dI cI cZ cS cG s ad bd S M H) (hS : va_S (fun q : Nat => s.heap.size ≤ q) s.heap H locs) (hl : lv_has ls 4 [(0, .ref b), (1, .ref (ad 0)), (2, .ref (bd 0)), (3, .int (nI i))]) (kk : ∀ (H : Heap) (locs : List Loc) (ad' : Nat → Nat) (S' M' : xSt), ad' 0 = ad 0 → LI dC dI cI cZ cS cG s ad' bd S' M' H → va_S (fun q : Nat => s.heap.size ≤ q) s.heap H locs → W p l e room_1 s m #[Value.ref b] below meth c H locs 60 915 (lw_Z below #[Value.ref b] s) (F0 m 1163 ls [])) : W p l e room_1 s m #[Value.ref b] below meth c H locs 60 915 (lw_Z below #[Value.ref b] s) (F0 m 1081 ls []) := by
  obtain ⟨hx, hb, hr0, hml, hown, hts0, hX, hbl, hlocks, hgv⟩ := id C0
  have hts : ∀ w ∈ wsL_law, w.before #[Value.ref b] s = true := fun w h => hts0 w (law_in w h)
  have hbA : ¬ (fun q : Nat => s.heap.size ≤ q) b := Nat.not_le.mpr hbl
  have hF : CallFix p m c cL_law 4 s #[Value.ref b] wsL_law RL := ⟨hx, hb, hml, hown, hts⟩
  obtain ⟨hP, hPm, hI, hJ, hAd, hBd, hdis, hR⟩ := hW
  have hd1 : ∀ k, k < 18 → ¬ xA 42 ad (bd k) := fun k hk h => by obtain ⟨j, h1, h2⟩ := h; exact hdis j k h1 hk h2.symm
  have hd2 : ∀ k, k < 42 → ¬ xA 18 bd (ad k) := fun k hk h => by obtain ⟨j, h1, h2⟩ := h; exact hdis k j hk h1 h2
  have hin : ∀ q, xA 42 ad q → s.heap.size ≤ q := fun q h => by obtain ⟨j, h1, rfl⟩ := h; exact hAd j h1
  obtain ⟨pc, pm, hc, hm, hh⟩ := st_as (l := l) (dC := dC) (dI := dI) (cI := cI) (cZ := cZ) (cS := cS) (cG := cG) hI hJ hR (xs (i + 1)) (xs (i + 2))
  refine lv_aload_n hx hb dL_law_1081 rfl (lv_at hl 1 rfl) ?_
  refine lv_aload_n hx hb dL_law_1082 rfl (lv_at hl 0 rfl) ?_
  refine lv_iload_n hx hb dL_law_1083 rfl (lv_at hl 3 rfl) ?_
  refine lv_iconst (v := 1) hx hb dL_law_1084 (by decide +kernel) ?_
  refine lv_iadd hx hb dL_law_1085 ?_
  refine x_sld hx hb hX hbl hbA hS hL (i + 1) (by omega) (nI_add i 1) dL_law_1086 ?_
  refine lv_aload_n hx hb dL_law_1087 rfl (lv_at hl 0 rfl) ?_
  refine lv_iload_n hx hb dL_law_1088 rfl (lv_at hl 3 rfl) ?_
  refine lv_iconst (v := 2) hx hb dL_law_1089 (by decide +kernel) ?_
  refine lv_iadd hx hb dL_law_1090 ?_
  refine x_sld hx hb hX hbl hbA hS hL (i + 2) (by omega) (nI_add i 2) dL_law_1091 ?_
  refine x_calli (x_runV (As := [.int (xs (i + 1)), .int (xs (i + 2))]) (rest := []) hF hc (cwV 2 hts gL_law_X5_as rfl rfl rfl (by decide +kernel) ⟨Nat.le_of_ble_eq_true rfl, Nat.le_of_ble_eq_true rfl⟩) hK hP (by decide) rfl rfl rfl hl.1 rfl (Nat.le_of_ble_eq_true rfl) dL_law_1092 ⟨Nat.le_of_ble_eq_true rfl, Nat.le_of_ble_eq_true rfl⟩) hS hAd (fun r S1 H locs hw hP hf hS => ?_)
  have hPm := xW_kept hPm hf hd1
  refine lv_aload_n hx hb dL_law_1095 rfl (lv_at hl 2 rfl) ?_
  refine lv_aload_n hx hb dL_law_1096 rfl (lv_at hl 0 rfl) ?_
  refine lv_iload_n hx hb dL_law_1097 rfl (lv_at hl 3 rfl) ?_
  refine lv_iconst (v := 1) hx hb dL_law_1098 (by decide +kernel) ?_
  refine lv_iadd hx hb dL_law_1099 ?_
  refine x_sld hx hb hX hbl hbA hS hL (i + 1) (by omega) (nI_add i 1) dL_law_1100 ?_
  refine lv_aload_n hx hb dL_law_1101 rfl (lv_at hl 0 rfl) ?_
  refine lv_iload_n hx hb dL_law_1102 rfl (lv_at hl 3 rfl) ?_
  refine lv_iconst (v := 2) hx hb dL_law_1103 (by decide +kernel) ?_
  refine lv_iadd hx hb dL_law_1104 ?_
  refine x_sld hx hb hX hbl hbA hS hL (i + 2) (by omega) (nI_add i 2) dL_law_1105 ?_
  refine x_calli (x_runV (As := [.int (xs (i + 1)), .int (xs (i + 2))]) (rest := [.int r]) hF hm (cwV 2 hts gL_law_X6_as rfl rfl rfl (by decide +kernel) ⟨Nat.le_of_ble_eq_true rfl, Nat.le_of_ble_eq_true rfl⟩) hK hPm (by decide) rfl rfl rfl hl.1 rfl (Nat.le_of_ble_eq_true rfl) dL_law_1106 ⟨Nat.le_of_ble_eq_true rfl, Nat.le_of_ble_eq_true rfl⟩) hS hBd (fun r2 M1 H locs hw2 hPm hf hS => ?_)
  have hP := xW_kept hP hf hd2
  obtain ⟨hr, hR1⟩ := hh r S1 r2 M1 hw hw2
  refine lv_icmp_eq (tgt := 1163) hx hb dL_law_1109 (by decide) (fun _ => ?_) (fun hc => absurd hr hc)
  exact kk _ _ ad S1 M1 rfl ⟨hP, hPm, hI, hJ, hAd, hBd, hdis, hR1⟩ hS

set_option maxHeartbeats 4000000 in
set_option maxRecDepth 100000 in
theorem lc_trace (C0 : lw_At p s m meth c b L xs) (hL : L ≤ 384) (hK : va_K (dC, dI) vwCl (tyl cI cZ cS cG) s) (hi : i + 6 ≤ L) (hW : LI dC dI cI cZ cS cG s ad bd S M H) (hS : va_S (fun q : Nat => s.heap.size ≤ q) s.heap H locs) (hl : lv_has ls 4 [(0, .ref b), (1, .ref (ad 0)), (2, .ref (bd 0)), (3, .int (nI i))]) (kk : ∀ (H : Heap) (locs : List Loc) (ad' : Nat → Nat) (S' M' : xSt), ad' 0 = ad 0 → LI dC dI cI cZ cS cG s ad' bd S' M' H → va_S (fun q : Nat => s.heap.size ≤ q) s.heap H locs → W p l e room_1 s m #[Value.ref b] below meth c H locs 60 915 (lw_Z below #[Value.ref b] s) (F0 m 1163 ls [])) : W p l e room_1 s m #[Value.ref b] below meth c H locs 60 915 (lw_Z below #[Value.ref b] s) (F0 m 1114 ls []) := by
  obtain ⟨hx, hb, hr0, hml, hown, hts0, hX, hbl, hlocks, hgv⟩ := id C0
  have hts : ∀ w ∈ wsL_law, w.before #[Value.ref b] s = true := fun w h => hts0 w (law_in w h)
  have hbA : ¬ (fun q : Nat => s.heap.size ≤ q) b := Nat.not_le.mpr hbl
  have hF : CallFix p m c cL_law 4 s #[Value.ref b] wsL_law RL := ⟨hx, hb, hml, hown, hts⟩
  obtain ⟨hP, hPm, hI, hJ, hAd, hBd, hdis, hR⟩ := hW
  have hd1 : ∀ k, k < 18 → ¬ xA 42 ad (bd k) := fun k hk h => by obtain ⟨j, h1, h2⟩ := h; exact hdis j k h1 hk h2.symm
  have hd2 : ∀ k, k < 42 → ¬ xA 18 bd (ad k) := fun k hk h => by obtain ⟨j, h1, h2⟩ := h; exact hdis k j hk h1 h2
  have hin : ∀ q, xA 42 ad q → s.heap.size ≤ q := fun q h => by obtain ⟨j, h1, rfl⟩ := h; exact hAd j h1
  obtain ⟨pc, pm, hc, hm, hh⟩ := st_trace (l := l) (dC := dC) (dI := dI) (cI := cI) (cZ := cZ) (cS := cS) (cG := cG) hI hJ hR 
  refine lv_aload_n hx hb dL_law_1114 rfl (lv_at hl 1 rfl) ?_
  refine x_calli (x_runV (As := []) (rest := []) hF hc (cwV 0 hts gL_law_X5_trace rfl rfl rfl (by decide +kernel) ⟨Nat.le_of_ble_eq_true rfl, Nat.le_of_ble_eq_true rfl⟩) hK hP (by decide) rfl rfl rfl hl.1 rfl (Nat.le_of_ble_eq_true rfl) dL_law_1115 ⟨Nat.le_of_ble_eq_true rfl, Nat.le_of_ble_eq_true rfl⟩) hS hAd (fun r S1 H locs hw hP hf hS => ?_)
  have hPm := xW_kept hPm hf hd1
  refine lv_aload_n hx hb dL_law_1118 rfl (lv_at hl 2 rfl) ?_
  refine x_calli (x_runV (As := []) (rest := [.int r]) hF hm (cwV 0 hts gL_law_X6_trace rfl rfl rfl (by decide +kernel) ⟨Nat.le_of_ble_eq_true rfl, Nat.le_of_ble_eq_true rfl⟩) hK hPm (by decide) rfl rfl rfl hl.1 rfl (Nat.le_of_ble_eq_true rfl) dL_law_1119 ⟨Nat.le_of_ble_eq_true rfl, Nat.le_of_ble_eq_true rfl⟩) hS hBd (fun r2 M1 H locs hw2 hPm hf hS => ?_)
  have hP := xW_kept hP hf hd2
  obtain ⟨hr, hR1⟩ := hh r S1 r2 M1 hw hw2
  refine lv_icmp_eq (tgt := 1163) hx hb dL_law_1122 (by decide) (fun _ => ?_) (fun hc => absurd hr hc)
  exact kk _ _ ad S1 M1 rfl ⟨hP, hPm, hI, hJ, hAd, hBd, hdis, hR1⟩ hS

set_option maxHeartbeats 4000000 in
set_option maxRecDepth 100000 in
theorem lc_fault (C0 : lw_At p s m meth c b L xs) (hL : L ≤ 384) (hK : va_K (dC, dI) vwCl (tyl cI cZ cS cG) s) (hi : i + 6 ≤ L) (hW : LI dC dI cI cZ cS cG s ad bd S M H) (hS : va_S (fun q : Nat => s.heap.size ≤ q) s.heap H locs) (hl : lv_has ls 4 [(0, .ref b), (1, .ref (ad 0)), (2, .ref (bd 0)), (3, .int (nI i))]) (kk : ∀ (H : Heap) (locs : List Loc) (ad' : Nat → Nat) (S' M' : xSt), ad' 0 = ad 0 → LI dC dI cI cZ cS cG s ad' bd S' M' H → va_S (fun q : Nat => s.heap.size ≤ q) s.heap H locs → W p l e room_1 s m #[Value.ref b] below meth c H locs 60 915 (lw_Z below #[Value.ref b] s) (F0 m 1163 ls [])) : W p l e room_1 s m #[Value.ref b] below meth c H locs 60 915 (lw_Z below #[Value.ref b] s) (F0 m 1127 ls []) := by
  obtain ⟨hx, hb, hr0, hml, hown, hts0, hX, hbl, hlocks, hgv⟩ := id C0
  have hts : ∀ w ∈ wsL_law, w.before #[Value.ref b] s = true := fun w h => hts0 w (law_in w h)
  have hbA : ¬ (fun q : Nat => s.heap.size ≤ q) b := Nat.not_le.mpr hbl
  have hF : CallFix p m c cL_law 4 s #[Value.ref b] wsL_law RL := ⟨hx, hb, hml, hown, hts⟩
  obtain ⟨hP, hPm, hI, hJ, hAd, hBd, hdis, hR⟩ := hW
  have hd1 : ∀ k, k < 18 → ¬ xA 42 ad (bd k) := fun k hk h => by obtain ⟨j, h1, h2⟩ := h; exact hdis j k h1 hk h2.symm
  have hd2 : ∀ k, k < 42 → ¬ xA 18 bd (ad k) := fun k hk h => by obtain ⟨j, h1, h2⟩ := h; exact hdis k j hk h1 h2
  have hin : ∀ q, xA 42 ad q → s.heap.size ≤ q := fun q h => by obtain ⟨j, h1, rfl⟩ := h; exact hAd j h1
  obtain ⟨pc, pm, hc, hm, hh⟩ := st_fault (l := l) (dC := dC) (dI := dI) (cI := cI) (cZ := cZ) (cS := cS) (cG := cG) hI hJ hR 
  refine lv_aload_n hx hb dL_law_1127 rfl (lv_at hl 1 rfl) ?_
  refine x_calli (x_runV (As := []) (rest := []) hF hc (cwV 0 hts gL_law_X5_fault rfl rfl rfl (by decide +kernel) ⟨Nat.le_of_ble_eq_true rfl, Nat.le_of_ble_eq_true rfl⟩) hK hP (by decide) rfl rfl rfl hl.1 rfl (Nat.le_of_ble_eq_true rfl) dL_law_1128 ⟨Nat.le_of_ble_eq_true rfl, Nat.le_of_ble_eq_true rfl⟩) hS hAd (fun r S1 H locs hw hP hf hS => ?_)
  have hPm := xW_kept hPm hf hd1
  refine lv_aload_n hx hb dL_law_1131 rfl (lv_at hl 2 rfl) ?_
  refine x_calli (x_runV (As := []) (rest := [.int r]) hF hm (cwV 0 hts gL_law_X6_fault rfl rfl rfl (by decide +kernel) ⟨Nat.le_of_ble_eq_true rfl, Nat.le_of_ble_eq_true rfl⟩) hK hPm (by decide) rfl rfl rfl hl.1 rfl (Nat.le_of_ble_eq_true rfl) dL_law_1132 ⟨Nat.le_of_ble_eq_true rfl, Nat.le_of_ble_eq_true rfl⟩) hS hBd (fun r2 M1 H locs hw2 hPm hf hS => ?_)
  have hP := xW_kept hP hf hd2
  obtain ⟨hr, hR1⟩ := hh r S1 r2 M1 hw hw2
  refine lv_icmp_eq (tgt := 1163) hx hb dL_law_1135 (by decide) (fun _ => ?_) (fun hc => absurd hr hc)
  exact kk _ _ ad S1 M1 rfl ⟨hP, hPm, hI, hJ, hAd, hBd, hdis, hR1⟩ hS

set_option maxHeartbeats 4000000 in
set_option maxRecDepth 100000 in
theorem lc_many (C0 : lw_At p s m meth c b L xs) (hL : L ≤ 384) (hK : va_K (dC, dI) vwCl (tyl cI cZ cS cG) s) (hi : i + 6 ≤ L) (hW : LI dC dI cI cZ cS cG s ad bd S M H) (hS : va_S (fun q : Nat => s.heap.size ≤ q) s.heap H locs) (hl : lv_has ls 4 [(0, .ref b), (1, .ref (ad 0)), (2, .ref (bd 0)), (3, .int (nI i))]) (kk : ∀ (H : Heap) (locs : List Loc) (ad' : Nat → Nat) (S' M' : xSt), ad' 0 = ad 0 → LI dC dI cI cZ cS cG s ad' bd S' M' H → va_S (fun q : Nat => s.heap.size ≤ q) s.heap H locs → W p l e room_1 s m #[Value.ref b] below meth c H locs 60 915 (lw_Z below #[Value.ref b] s) (F0 m 1163 ls [])) : W p l e room_1 s m #[Value.ref b] below meth c H locs 60 915 (lw_Z below #[Value.ref b] s) (F0 m 1140 ls []) := by
  obtain ⟨hx, hb, hr0, hml, hown, hts0, hX, hbl, hlocks, hgv⟩ := id C0
  have hts : ∀ w ∈ wsL_law, w.before #[Value.ref b] s = true := fun w h => hts0 w (law_in w h)
  have hbA : ¬ (fun q : Nat => s.heap.size ≤ q) b := Nat.not_le.mpr hbl
  have hF : CallFix p m c cL_law 4 s #[Value.ref b] wsL_law RL := ⟨hx, hb, hml, hown, hts⟩
  obtain ⟨hP, hPm, hI, hJ, hAd, hBd, hdis, hR⟩ := hW
  have hd1 : ∀ k, k < 18 → ¬ xA 42 ad (bd k) := fun k hk h => by obtain ⟨j, h1, h2⟩ := h; exact hdis j k h1 hk h2.symm
  have hd2 : ∀ k, k < 42 → ¬ xA 18 bd (ad k) := fun k hk h => by obtain ⟨j, h1, h2⟩ := h; exact hdis k j hk h1 h2
  have hin : ∀ q, xA 42 ad q → s.heap.size ≤ q := fun q h => by obtain ⟨j, h1, rfl⟩ := h; exact hAd j h1
  obtain ⟨pc, pm, hc, hm, hh⟩ := st_many (l := l) (dC := dC) (dI := dI) (cI := cI) (cZ := cZ) (cS := cS) (cG := cG) hI hJ hR (xs (i + 1))
  refine lv_aload_n hx hb dL_law_1140 rfl (lv_at hl 1 rfl) ?_
  refine lv_aload_n hx hb dL_law_1141 rfl (lv_at hl 0 rfl) ?_
  refine lv_iload_n hx hb dL_law_1142 rfl (lv_at hl 3 rfl) ?_
  refine lv_iconst (v := 1) hx hb dL_law_1143 (by decide +kernel) ?_
  refine lv_iadd hx hb dL_law_1144 ?_
  refine x_sld hx hb hX hbl hbA hS hL (i + 1) (by omega) (nI_add i 1) dL_law_1145 ?_
  refine x_calli (x_runV (As := [.int (xs (i + 1))]) (rest := []) hF hc (cwV 1 hts gL_law_X5_many rfl rfl rfl (by decide +kernel) ⟨Nat.le_of_ble_eq_true rfl, Nat.le_of_ble_eq_true rfl⟩) hK hP (by decide) rfl rfl rfl hl.1 rfl (Nat.le_of_ble_eq_true rfl) dL_law_1146 ⟨Nat.le_of_ble_eq_true rfl, Nat.le_of_ble_eq_true rfl⟩) hS hAd (fun r S1 H locs hw hP hf hS => ?_)
  have hPm := xW_kept hPm hf hd1
  refine lv_aload_n hx hb dL_law_1149 rfl (lv_at hl 2 rfl) ?_
  refine lv_aload_n hx hb dL_law_1150 rfl (lv_at hl 0 rfl) ?_
  refine lv_iload_n hx hb dL_law_1151 rfl (lv_at hl 3 rfl) ?_
  refine lv_iconst (v := 1) hx hb dL_law_1152 (by decide +kernel) ?_
  refine lv_iadd hx hb dL_law_1153 ?_
  refine x_sld hx hb hX hbl hbA hS hL (i + 1) (by omega) (nI_add i 1) dL_law_1154 ?_
  refine x_calli (x_runV (As := [.int (xs (i + 1))]) (rest := [.int r]) hF hm (cwV 1 hts gL_law_X6_many rfl rfl rfl (by decide +kernel) ⟨Nat.le_of_ble_eq_true rfl, Nat.le_of_ble_eq_true rfl⟩) hK hPm (by decide) rfl rfl rfl hl.1 rfl (Nat.le_of_ble_eq_true rfl) dL_law_1155 ⟨Nat.le_of_ble_eq_true rfl, Nat.le_of_ble_eq_true rfl⟩) hS hBd (fun r2 M1 H locs hw2 hPm hf hS => ?_)
  have hP := xW_kept hP hf hd2
  obtain ⟨hr, hR1⟩ := hh r S1 r2 M1 hw hw2
  refine lv_icmp_eq (tgt := 1163) hx hb dL_law_1158 (by decide) (fun _ => ?_) (fun hc => absurd hr hc)
  exact kk _ _ ad S1 M1 rfl ⟨hP, hPm, hI, hJ, hAd, hBd, hdis, hR1⟩ hS
end LC
