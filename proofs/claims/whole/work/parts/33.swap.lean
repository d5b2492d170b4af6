/-! ===== the draft becomes the TREATY: the two change places ===== -/
def sw (k : Nat) : Nat := if 12 ≤ k ∧ k ≤ 21 then k + 10 else if 22 ≤ k ∧ k ≤ 31 then k - 10 else k
theorem sw_lt {k : Nat} (h : k < 42) : sw k < 42 := by
  unfold sw
  split
  · omega
  · split <;> omega
theorem sw_sw (k : Nat) : sw (sw k) = k := by
  by_cases h1 : 12 ≤ k ∧ k ≤ 21
  · rw [show sw k = k + 10 from if_pos h1, sw, if_neg (by omega), if_pos (by omega)]; omega
  · by_cases h2 : 22 ≤ k ∧ k ≤ 31
    · rw [show sw k = k - 10 from (if_neg h1).trans (if_pos h2), sw, if_pos (by omega)]; omega
    · have e : sw k = k := (if_neg h1).trans (if_neg h2)
      rw [e, e]
theorem sw_g {i : Nat} (h : i < 4) : sw (14 + i) = 24 + i ∧ sw (24 + i) = 14 + i ∧ sw (2 + i) = 2 + i := by
  refine ⟨?_, ?_, ?_⟩
  · rw [sw, if_pos (by omega)]; omega
  · rw [sw, if_neg (by omega), if_pos (by omega)]; omega
  · rw [sw, if_neg (by omega), if_neg (by omega)]
def adS (ad : Nat → Nat) : Nat → Nat := fun k => ad (sw k)
def stS (S : xSt) : xSt := fun k => S (sw k)
theorem xI_sw {ad : Nat → Nat} (h : xI 42 ad) : xI 42 (adS ad) := fun i j hi hj e => by
  have := h (sw i) (sw j) (sw_lt hi) (sw_lt hj) e
  rw [← sw_sw i, this, sw_sw]
theorem xA_sw {ad : Nat → Nat} : ∀ k, k < 42 → xA 42 ad (adS ad k) := fun k h => ⟨sw k, sw_lt h, rfl⟩
section SWP
variable {cI cZ cS cG : ClassId} {ad : Nat → Nat}
theorem refs_eq {x y : Nat → Nat} (h : ∀ i, i < 4 → x i = y i) : (fun i => if i < 4 then some (x i) else none) = (fun i => if i < 4 then some (y i) else none) := by
  funext i
  by_cases q : i < 4
  · simp [q, h i q]
  · simp [q]
set_option maxRecDepth 100000 in
theorem cLy_sw : ∀ (k : Nat), k < 42 → k ≠ 0 → ∀ f, cLy cI cZ cS cG (adS ad) k f = cLy cI cZ cS cG ad (sw k) f := by
  intro k hk h0 f
  rcases (show k = 1 ∨ k = 13 ∨ k = 23 ∨ (k ≠ 1 ∧ k ≠ 13 ∧ k ≠ 23) by omega) with rfl | rfl | rfl | hn
  · show Sum.inl (cS, 4, Sum.inr (Sum.inr (Sum.inr (Sum.inr (fun i => if i < 4 then some (ad (sw (2 + i))) else none))))) = Sum.inl (cS, 4, Sum.inr (Sum.inr (Sum.inr (Sum.inr (fun i => if i < 4 then some (ad (2 + i)) else none)))))
    rw [refs_eq (x := fun i => ad (sw (2 + i))) (y := fun i => ad (2 + i)) (fun i h => by show ad (sw (2 + i)) = _; rw [(sw_g h).2.2])]
  · show Sum.inl (cG, 4, Sum.inr (Sum.inr (Sum.inr (Sum.inr (fun i => if i < 4 then some (ad (sw (14 + i))) else none))))) = Sum.inl (cG, 4, Sum.inr (Sum.inr (Sum.inr (Sum.inr (fun i => if i < 4 then some (ad (24 + i)) else none)))))
    rw [refs_eq (x := fun i => ad (sw (14 + i))) (y := fun i => ad (24 + i)) (fun i h => by show ad (sw (14 + i)) = _; rw [(sw_g h).1])]
  · show Sum.inl (cG, 4, Sum.inr (Sum.inr (Sum.inr (Sum.inr (fun i => if i < 4 then some (ad (sw (24 + i))) else none))))) = Sum.inl (cG, 4, Sum.inr (Sum.inr (Sum.inr (Sum.inr (fun i => if i < 4 then some (ad (14 + i)) else none)))))
    rw [refs_eq (x := fun i => ad (sw (24 + i))) (y := fun i => ad (14 + i)) (fun i h => by show ad (sw (24 + i)) = _; rw [(sw_g h).2.1])]
  · obtain ⟨h1, h13, h23⟩ := hn
    match k, hk, h0, h1, h13, h23 with
    | 2, _, _, _, _, _ => rfl
    | 3, _, _, _, _, _ => rfl
    | 4, _, _, _, _, _ => rfl
    | 5, _, _, _, _, _ => rfl
    | 6, _, _, _, _, _ => rfl
    | 7, _, _, _, _, _ => rfl
    | 8, _, _, _, _, _ => rfl
    | 9, _, _, _, _, _ => rfl
    | 10, _, _, _, _, _ => rfl
    | 11, _, _, _, _, _ => rfl
    | 12, _, _, _, _, _ => rfl
    | 14, _, _, _, _, _ => rfl
    | 15, _, _, _, _, _ => rfl
    | 16, _, _, _, _, _ => rfl
    | 17, _, _, _, _, _ => rfl
    | 18, _, _, _, _, _ => rfl
    | 19, _, _, _, _, _ => rfl
    | 20, _, _, _, _, _ => rfl
    | 21, _, _, _, _, _ => rfl
    | 22, _, _, _, _, _ => rfl
    | 24, _, _, _, _, _ => rfl
    | 25, _, _, _, _, _ => rfl
    | 26, _, _, _, _, _ => rfl
    | 27, _, _, _, _, _ => rfl
    | 28, _, _, _, _, _ => rfl
    | 29, _, _, _, _, _ => rfl
    | 30, _, _, _, _, _ => rfl
    | 31, _, _, _, _, _ => rfl
    | 32, _, _, _, _, _ => rfl
    | 33, _, _, _, _, _ => rfl
    | 34, _, _, _, _, _ => rfl
    | 35, _, _, _, _, _ => rfl
    | 36, _, _, _, _, _ => rfl
    | 37, _, _, _, _, _ => rfl
    | 38, _, _, _, _, _ => rfl
    | 39, _, _, _, _, _ => rfl
    | 40, _, _, _, _, _ => rfl
    | 41, _, _, _, _, _ => rfl
    | k + 42, hk, _, _, _, _ => exact absurd hk (by omega)
/-- the object with the two references changed is the world with the two places changed -/
theorem xW_sw {D : va_G} {cl : List vw_C} {S : xSt} {H : Heap} {e1 e2 : Nat × va_E} (h : va_P D cl (((xW (cLy cI cZ cS cG ad) 42 ad S).set 0 e1).set 0 e2) H) (he : e2 = (ad 0, .inr (5, [.ref (ad 1), .ref (ad 10), .ref (ad 22), .ref (ad 12), .ref (ad 32), .ref (ad 35), .ref (ad 38), .int (S 0 7), .int (S 0 8)]))) :
    va_P D cl (xW (cLy cI cZ cS cG (adS ad)) 42 (adS ad) (stS S)) H := by
  intro k q hk
  obtain ⟨hk42, rfl⟩ := xW_some hk
  by_cases h0 : k = 0
  · subst h0
    have h1 := h 0 e2 (by rw [List.getElem?_set_self (by rw [List.length_set, xW_len]; decide)])
    rw [he] at h1
    exact h1
  · have hs : sw k ≠ 0 := fun z => h0 (by rw [← sw_sw k, z]; rfl)
    have h1 := h (sw k) (ad (sw k), cLy cI cZ cS cG ad (sw k) (S (sw k))) (by rw [List.getElem?_set_ne (Ne.symm hs), List.getElem?_set_ne (Ne.symm hs), xW_at (sw_lt hk42)])
    rw [cLy_sw k hk42 h0]
    exact h1
end SWP
/-- behind beginAnew -/
def bgA (S : xSt) : xSt := su (sr (stS S) 34 (frG 0 (S 34))) 38 3 0
set_option maxHeartbeats 4000000 in
set_option maxRecDepth 100000 in
theorem c5_beginAnew {l : Launch} {dC : Nat → ClassId} {dI : Nat → Nat → Nat} {cI cZ cS cG : ClassId} {ad : Nat → Nat} (hI : xI 42 ad) (S : xSt) : Met l yX5_beginAnew wsX5_beginAnew ({ frames := 2, cells := 0, slots := 0, locals := 42 }) (xPc (dC, dI) vwCl (tyl cI cZ cS cG) (cLy cI cZ cS cG ad) 42 ad [.ref (ad 0)] S) (va_Qv (fun S' => S' = bgA S) (fun S' t => va_P (dC, dI) vwCl (xW (cLy cI cZ cS cG (adS ad)) 42 (adS ad) S') t.heap) (xA 42 ad)) 0 0 (xA 42 ad) := by
  refine xM_of (cc := cX5_beginAnew) (nL := 2) (ret := none) (by decide) rfl (Nat.le_of_ble_eq_true rfl) ?_
  intro p e s m below meth c ls B hl hK hP
  obtain ⟨hx, hb, hml, hown, hts, hr, hlocks⟩ := B
  have hl : lv_has ls 2 [(0, .ref (ad 0))] := hl
  have hS : va_S (xA 42 ad) s.heap s.heap [] := va_S.rf
  have hAd : ∀ k, k < 42 → xA 42 ad (ad k) := xA_in
  have hinX5 : ∀ w ∈ wsX50, w ∈ wsX5_beginAnew := fun _ h => List.mem_cons_of_mem _ (List.mem_append_left _ (List.mem_append_left _ (List.mem_append_right _ h)))
  have hinX0 : ∀ w ∈ wsX00, w ∈ wsX5_beginAnew := fun _ h => List.mem_cons_of_mem _ (List.mem_append_left _ (List.mem_append_right _ h))
  have hF : CallFix p m c cX5_beginAnew 2 s _ wsX5_beginAnew RX5 := ⟨hx, hb, hml, hown, hts⟩
  refine lv_aload_n hx hb dX5_beginAnew_0 rfl (lv_at hl 0 rfl) ?_
  refine x_get (v := .ref (ad 12)) hx hb hts hinX5 hown hK hP 0 (by decide) rfl rfl 2 (by decide) (hts _ (List.mem_of_getElem? (i := 1) rfl)) rfl dX5_beginAnew_1 ?_
  refine lv_astore_n (lv' := [(1, .ref (ad 12)), (0, .ref (ad 0))]) hx hb dX5_beginAnew_4 rfl hl (by decide) rfl (fun ls hl => ?_)
  refine lv_aload_n hx hb dX5_beginAnew_5 rfl (lv_at hl 1 rfl) ?_
  refine lv_aload_n hx hb dX5_beginAnew_6 rfl (lv_at hl 1 rfl) ?_
  refine x_get (v := .ref (ad 22)) hx hb hts hinX5 hown hK hP 0 (by decide) rfl rfl 3 (by decide) (hts _ (List.mem_of_getElem? (i := 2) rfl)) rfl dX5_beginAnew_7 ?_
  refine va_put (D := (dC, dI)) (ci := 5) (v := .ref (ad 22)) (ty := .object "FosterSons$Treaty") (C := RX5) (T := TX5) (N := 9) hx hb hts hinX5 tyX5 tyX5_ok nmX5 hown hK hP (xD S hI hAd) hS 0 (xW_at (by decide)) rfl 2 (by decide) (hts _ (List.mem_of_getElem? (i := 1) rfl)) (fun _ h9 => h9) rfl (by decide +kernel) rfl rfl (Nat.le_of_ble_eq_true rfl) dX5_beginAnew_10 (fun H locs hP hD hS => ?_)
  refine lv_aload_n hx hb dX5_beginAnew_13 rfl (lv_at hl 1 rfl) ?_
  refine lv_aload_n hx hb dX5_beginAnew_14 rfl (lv_at hl 0 rfl) ?_
  refine va_put (D := (dC, dI)) (ci := 5) (v := .ref (ad 12)) (ty := .object "FosterSons$Treaty") (C := RX5) (T := TX5) (N := 9) hx hb hts hinX5 tyX5 tyX5_ok nmX5 hown hK hP hD hS 0 (List.getElem?_set_self (by rw [xW_len]; decide)) rfl 3 (by decide) (hts _ (List.mem_of_getElem? (i := 2) rfl)) (fun _ h9 => h9) rfl (by decide +kernel) rfl rfl (Nat.le_of_ble_eq_true rfl) dX5_beginAnew_15 (fun H locs hP hD hS => ?_)
  have hP := xW_sw hP rfl
  have hI := xI_sw hI
  have hAd : ∀ k, k < 42 → xA 42 ad (adS ad k) := xA_sw
  refine lv_aload_n hx hb dX5_beginAnew_18 rfl (lv_at hl 1 rfl) ?_
  refine x_get (ad := adS ad) (v := .ref (ad 32)) hx hb hts hinX5 hown hK hP 0 (by decide) rfl rfl 4 (by decide) (hts _ (List.mem_of_getElem? (i := 3) rfl)) rfl dX5_beginAnew_19 ?_
  refine x_callv (ad := adS ad) (x_runV (ad := adS ad) (k := 32) (As := []) (rest := []) hF (c1_nobody hI (stS S) 32 (Or.inl rfl)) (cwV 0 hts gX5_beginAnew_X1_nobody rfl rfl rfl (by decide +kernel) ⟨Nat.le_of_ble_eq_true rfl, Nat.le_of_ble_eq_true rfl⟩) hK hP (by decide) rfl rfl rfl hl.1 rfl (Nat.le_of_ble_eq_true rfl) dX5_beginAnew_22 ⟨Nat.zero_le _, Nat.zero_le _⟩) hS hAd (fun S22 H locs hw hP _ hS => ?_)
  rw [hw] at hP
  refine lv_aload_n hx hb dX5_beginAnew_25 rfl (lv_at hl 1 rfl) ?_
  refine x_get (ad := adS ad) (v := .ref (ad 38)) hx hb hts hinX5 hown hK hP 0 (by decide) rfl rfl 6 (by decide) (hts _ (List.mem_of_getElem? (i := 4) rfl)) rfl dX5_beginAnew_26 ?_
  refine lv_iconst (v := 0) hx hb dX5_beginAnew_29 (by decide +kernel) ?_
  refine x_put (ad := adS ad) hx hb hts hinX0 tyX0 tyX0_ok nmX0 hown hK hI hAd hP hS 38 (by decide) rfl rfl 3 (by decide) (hts _ (List.mem_of_getElem? (i := 5) rfl)) rfl (upd (S 38) 3 0) rfl rfl rfl (Nat.le_of_ble_eq_true rfl) dX5_beginAnew_30 (fun H locs hP hS => ?_)
  exact W.vret hx hb hr (fun t ht hW => ⟨⟨bgA S, rfl, rfl, (by show va_P (dC, dI) vwCl (xW (cLy cI cZ cS cG (adS ad)) 42 (adS ad) (bgA S)) t.heap; rw [ht]; exact hP)⟩, hS.F ht⟩) hS.2.2 dX5_beginAnew_33
