theorem outT0_30 {x : Int32} (h0 : ¬ x = 0) (h1 : ¬ x = 1) (h2 : ¬ x = 2) (h3 : ¬ x = 3) (h4 : ¬ x = 4) (h5 : ¬ x = 5) (h6 : ¬ x = 6) (h7 : ¬ x = 7) (h8 : ¬ x = 8) (h9 : ¬ x = 9) (h10 : ¬ x = 10) (h11 : ¬ x = 11) (h12 : ¬ x = 12) (h13 : ¬ x = 13) (h14 : ¬ x = 14) (h15 : ¬ x = 15) (h16 : ¬ x = 16) (h17 : ¬ x = 17) (h18 : ¬ x = 18) (h19 : ¬ x = 19) (h20 : ¬ x = 20) (h21 : ¬ x = 21) (h22 : ¬ x = 22) (h23 : ¬ x = 23) (h24 : ¬ x = 24) (h25 : ¬ x = 25) (h26 : ¬ x = 26) (h27 : ¬ x = 27) (h28 : ¬ x = 28) (h29 : ¬ x = 29) (h30 : ¬ x = 30) : x.toInt < 0 ∨ 30 < x.toInt := by
  have a0 := i32ne (a := 0) h0 (by decide +kernel)
  have a1 := i32ne (a := 1) h1 (by decide +kernel)
  have a2 := i32ne (a := 2) h2 (by decide +kernel)
  have a3 := i32ne (a := 3) h3 (by decide +kernel)
  have a4 := i32ne (a := 4) h4 (by decide +kernel)
  have a5 := i32ne (a := 5) h5 (by decide +kernel)
  have a6 := i32ne (a := 6) h6 (by decide +kernel)
  have a7 := i32ne (a := 7) h7 (by decide +kernel)
  have a8 := i32ne (a := 8) h8 (by decide +kernel)
  have a9 := i32ne (a := 9) h9 (by decide +kernel)
  have a10 := i32ne (a := 10) h10 (by decide +kernel)
  have a11 := i32ne (a := 11) h11 (by decide +kernel)
  have a12 := i32ne (a := 12) h12 (by decide +kernel)
  have a13 := i32ne (a := 13) h13 (by decide +kernel)
  have a14 := i32ne (a := 14) h14 (by decide +kernel)
  have a15 := i32ne (a := 15) h15 (by decide +kernel)
  have a16 := i32ne (a := 16) h16 (by decide +kernel)
  have a17 := i32ne (a := 17) h17 (by decide +kernel)
  have a18 := i32ne (a := 18) h18 (by decide +kernel)
  have a19 := i32ne (a := 19) h19 (by decide +kernel)
  have a20 := i32ne (a := 20) h20 (by decide +kernel)
  have a21 := i32ne (a := 21) h21 (by decide +kernel)
  have a22 := i32ne (a := 22) h22 (by decide +kernel)
  have a23 := i32ne (a := 23) h23 (by decide +kernel)
  have a24 := i32ne (a := 24) h24 (by decide +kernel)
  have a25 := i32ne (a := 25) h25 (by decide +kernel)
  have a26 := i32ne (a := 26) h26 (by decide +kernel)
  have a27 := i32ne (a := 27) h27 (by decide +kernel)
  have a28 := i32ne (a := 28) h28 (by decide +kernel)
  have a29 := i32ne (a := 29) h29 (by decide +kernel)
  have a30 := i32ne (a := 30) h30 (by decide +kernel)
  omega

theorem lim_lt {i L : Nat} (hi : i ≤ 390) (hL : L ≤ 384) : nI L - 6 < nI i ↔ L < i + 6 := by
  have h3 : (nI L - 6).toInt = (L : Int) - 6 := pk_sub_toInt (b := 6) (by omega) (by decide)
  rw [Int32.lt_iff_toInt_lt, h3, nI_toInt (by omega)]
  omega
theorem vaP_l {D : va_G} {cl : List vw_C} {w1 w2 : va_W} {H : Heap} (h : va_P D cl (w1 ++ w2) H) : va_P D cl w1 H := fun k q hk => h k q (by rw [List.getElem?_append_left (List.getElem?_eq_some_iff.mp hk).1]; exact hk)
theorem app_r {w1 w2 : va_W} {k : Nat} {q : Nat × va_E} (hk : w2[k]? = some q) : (w1 ++ w2)[w1.length + k]? = some q := by
  rw [List.getElem?_append_right (by omega), Nat.add_sub_cancel_left]
  exact hk
theorem app_l {w1 w2 : va_W} {k : Nat} {q : Nat × va_E} (hk : w1[k]? = some q) : (w1 ++ w2)[k]? = some q := by
  rw [List.getElem?_append_left (List.getElem?_eq_some_iff.mp hk).1]
  exact hk
theorem vaP_r {D : va_G} {cl : List vw_C} {w1 w2 : va_W} {H : Heap} (h : va_P D cl (w1 ++ w2) H) : va_P D cl w2 H := fun k q hk => h (w1.length + k) q (app_r hk)
theorem vaD_l {A : Nat → Prop} {w1 w2 : va_W} (h : va_D A (w1 ++ w2)) : va_D A w1 := ⟨fun i j p q hi hj e => h.1 i j p q (app_l hi) (app_l hj) e, fun k q hk => h.2 k q (app_l hk)⟩
theorem vaD_r {A : Nat → Prop} {w1 w2 : va_W} (h : va_D A (w1 ++ w2)) : va_D A w2 := ⟨fun i j p q hi hj e => by have := h.1 _ _ p q (app_r hi) (app_r hj) e; omega, fun k q hk => h.2 _ q (app_r hk)⟩
theorem vaD_x {A : Nat → Prop} {w1 w2 : va_W} (h : va_D A (w1 ++ w2)) {i j : Nat} {p q : Nat × va_E} (hi : w1[i]? = some p) (hj : w2[j]? = some q) : p.1 ≠ q.1 := fun e => by
  have h1 := h.1 _ _ p q (app_l hi) (app_r hj) e
  have h2 := (List.getElem?_eq_some_iff.mp hi).1
  omega

section LC
variable {p : Program} {l : Launch} {e : Env} {s : State} {m : MethodId} {below : List Frame} {meth : Method} {c : Code} {b L : Nat} {xs : Nat → Int32} {dC : Nat → ClassId} {dI : Nat → Nat → Nat} {cI cZ cS cG : ClassId} {ad bd : Nat → Nat} {S M : xSt} {H : Heap} {locs : List Loc} {ls : Array Slot} {i : Nat}

set_option maxHeartbeats 8000000 in
set_option maxRecDepth 100000 in
theorem law_loop (hL : L ≤ 384) (C0 : lw_At p s m meth c b L xs) (hK : va_K (dC, dI) vwCl (tyl cI cZ cS cG) s) : ∀ (n i : Nat), i ≤ 390 → L ≤ i + n → ∀ (ad : Nat → Nat) (S M : xSt) (H : Heap) (locs : List Loc) (ls : Array Slot), LI dC dI cI cZ cS cG s ad bd S M H → va_S (fun q : Nat => s.heap.size ≤ q) s.heap H locs → lv_has ls 4 [(0, .ref b), (1, .ref (ad 0)), (2, .ref (bd 0)), (3, .int (nI i))] → W p l e room_1 s m #[Value.ref b] below meth c H locs 60 915 (lw_Z below #[Value.ref b] s) (F0 m 18 ls []) := by
  obtain ⟨hx, hb, hr0, hml, hown, hts0, hX, hbl, hlocks, hgv⟩ := id C0
  have hbA : ¬ (fun q : Nat => s.heap.size ≤ q) b := Nat.not_le.mpr hbl
  intro n
  induction n with
  | zero =>
    intro i hi390 hn ad S M H locs ls hW hS hl
    refine lv_iload_n hx hb dL_law_18 rfl (lv_at hl 3 rfl) ?_
    refine lv_aload_n hx hb dL_law_19 rfl (lv_at hl 0 rfl) ?_
    refine va_slen hx hb hX hbl hbA hS dL_law_20 ?_
    refine lv_bipush (v := 6) hx hb dL_law_21 (by decide +kernel) ?_
    refine lv_isub hx hb dL_law_23 ?_
    refine lv_icmp_gt (tgt := 1169) hx hb dL_law_24 (by decide) (fun _ => ?_) (fun hc => absurd ((lim_lt hi390 hL).mpr (by omega)) hc)
    refine lv_iconst (v := 1) hx hb dL_law_1169 (by decide +kernel) ?_
    refine va_forget (fun q hq => hS.2.2 q hq) ?_
    refine W.widen (k := 600000) (n := 7302250) (by decide) (by decide) ?_
    exact lw_ret hx hb hr0 hlocks dL_law_1170
  | succ n ih =>
    intro i hi390 hn ad S M H locs ls hW hS hl
    refine lv_iload_n hx hb dL_law_18 rfl (lv_at hl 3 rfl) ?_
    refine lv_aload_n hx hb dL_law_19 rfl (lv_at hl 0 rfl) ?_
    refine va_slen hx hb hX hbl hbA hS dL_law_20 ?_
    refine lv_bipush (v := 6) hx hb dL_law_21 (by decide +kernel) ?_
    refine lv_isub hx hb dL_law_23 ?_
    refine lv_icmp_gt (tgt := 1169) hx hb dL_law_24 (by decide) (fun _ => ?_) (fun hc => ?_)
    · refine lv_iconst (v := 1) hx hb dL_law_1169 (by decide +kernel) ?_
      refine va_forget (fun q hq => hS.2.2 q hq) ?_
      refine W.widen (k := 600000) (n := 7302250) (by decide) (by decide) ?_
      exact lw_ret hx hb hr0 hlocks dL_law_1170
    · have hi : i + 6 ≤ L := by
        rcases Nat.lt_or_ge L (i + 6) with z | z
        · exact absurd ((lim_lt hi390 hL).mpr z) hc
        · exact z
      have J : ∀ (H : Heap) (locs : List Loc) (ad' : Nat → Nat) (S' M' : xSt), ad' 0 = ad 0 → LI dC dI cI cZ cS cG s ad' bd S' M' H → va_S (fun q : Nat => s.heap.size ≤ q) s.heap H locs → W p l e room_1 s m #[Value.ref b] below meth c H locs 60 915 (lw_Z below #[Value.ref b] s) (F0 m 1163 ls []) := by
        intro H locs ad' S' M' e0 hW hS
        refine lv_iinc (v := nI (i + 6)) (lv' := [(3, .int (nI (i + 6))), (0, .ref b), (1, .ref (ad 0)), (2, .ref (bd 0))]) hx hb dL_law_1163 hl (k := 3) rfl (nI_add i 6) (by decide) rfl (fun ls hl => ?_)
        refine lv_goto (tgt := 18) hx hb dL_law_1166 (by decide) ?_
        exact ih (i + 6) (by omega) (by omega) ad' S' M' H locs ls hW hS (by rw [e0]; exact lv_sub hl [1, 2, 3, 0] rfl)
      refine lv_aload_n hx hb dL_law_27 rfl (lv_at hl 0 rfl) ?_
      refine lv_iload_n hx hb dL_law_28 rfl (lv_at hl 3 rfl) ?_
      refine x_sld hx hb hX hbl hbA hS hL i (by omega) rfl dL_law_29 ?_
      refine lv_bipush (v := 31) hx hb dL_law_30 (by decide +kernel) ?_
      refine lv_iand hx hb dL_law_32 ?_
      generalize xs i &&& 31 = v
      by_cases z0 : v = 0
      · refine W.eq (g2 := F0 m 33 ls [.int 0]) (by rw [z0]) ?_
        refine lv_tableIn (tgt := 172) (off := 139) hx hb dL_law_33 (by decide +kernel) (by decide +kernel) (by decide +kernel) (by decide) ?_
        exact lc_treaty C0 hL hK hi hW hS hl J
      by_cases z1 : v = 1
      · refine W.eq (g2 := F0 m 33 ls [.int 1]) (by rw [z1]) ?_
        refine lv_tableIn (tgt := 225) (off := 192) hx hb dL_law_33 (by decide +kernel) (by decide +kernel) (by decide +kernel) (by decide) ?_
        exact lc_ofSon C0 hL hK hi hW hS hl J
      by_cases z2 : v = 2
      · refine W.eq (g2 := F0 m 33 ls [.int 2]) (by rw [z2]) ?_
        refine lv_tableIn (tgt := 258) (off := 225) hx hb dL_law_33 (by decide +kernel) (by decide +kernel) (by decide +kernel) (by decide) ?_
        exact lc_gain C0 hL hK hi hW hS hl J
      by_cases z3 : v = 3
      · refine W.eq (g2 := F0 m 33 ls [.int 3]) (by rw [z3]) ?_
        refine lv_tableIn (tgt := 291) (off := 258) hx hb dL_law_33 (by decide +kernel) (by decide +kernel) (by decide +kernel) (by decide) ?_
        exact lc_tempt C0 hL hK hi hW hS hl J
      by_cases z4 : v = 4
      · refine W.eq (g2 := F0 m 33 ls [.int 4]) (by rw [z4]) ?_
        refine lv_tableIn (tgt := 334) (off := 301) hx hb dL_law_33 (by decide +kernel) (by decide +kernel) (by decide +kernel) (by decide) ?_
        exact lc_send C0 hL hK hi hW hS hl J
      by_cases z5 : v = 5
      · refine W.eq (g2 := F0 m 33 ls [.int 5]) (by rw [z5]) ?_
        refine lv_tableIn (tgt := 377) (off := 344) hx hb dL_law_33 (by decide +kernel) (by decide +kernel) (by decide +kernel) (by decide) ?_
        exact lc_home C0 hL hK hi hW hS hl J
      by_cases z6 : v = 6
      · refine W.eq (g2 := F0 m 33 ls [.int 6]) (by rw [z6]) ?_
        refine lv_tableIn (tgt := 400) (off := 367) hx hb dL_law_33 (by decide +kernel) (by decide +kernel) (by decide +kernel) (by decide) ?_
        exact lc_stake C0 hL hK hi hW hS hl J
      by_cases z7 : v = 7
      · refine W.eq (g2 := F0 m 33 ls [.int 7]) (by rw [z7]) ?_
        refine lv_tableIn (tgt := 433) (off := 400) hx hb dL_law_33 (by decide +kernel) (by decide +kernel) (by decide +kernel) (by decide) ?_
        exact lc_stakes C0 hL hK hi hW hS hl J
      by_cases z8 : v = 8
      · refine W.eq (g2 := F0 m 33 ls [.int 8]) (by rw [z8]) ?_
        refine lv_tableIn (tgt := 466) (off := 433) hx hb dL_law_33 (by decide +kernel) (by decide +kernel) (by decide +kernel) (by decide) ?_
        exact lc_tempted C0 hL hK hi hW hS hl J
      by_cases z9 : v = 9
      · refine W.eq (g2 := F0 m 33 ls [.int 9]) (by rw [z9]) ?_
        refine lv_tableIn (tgt := 489) (off := 456) hx hb dL_law_33 (by decide +kernel) (by decide +kernel) (by decide +kernel) (by decide) ?_
        exact lc_broken C0 hL hK hi hW hS hl J
      by_cases z10 : v = 10
      · refine W.eq (g2 := F0 m 33 ls [.int 10]) (by rw [z10]) ?_
        refine lv_tableIn (tgt := 512) (off := 479) hx hb dL_law_33 (by decide +kernel) (by decide +kernel) (by decide +kernel) (by decide) ?_
        exact lc_plan C0 hL hK hi hW hS hl J
      by_cases z11 : v = 11
      · refine W.eq (g2 := F0 m 33 ls [.int 11]) (by rw [z11]) ?_
        refine lv_tableIn (tgt := 575) (off := 542) hx hb dL_law_33 (by decide +kernel) (by decide +kernel) (by decide +kernel) (by decide) ?_
        exact lc_least C0 hL hK hi hW hS hl J
      by_cases z12 : v = 12
      · refine W.eq (g2 := F0 m 33 ls [.int 12]) (by rw [z12]) ?_
        refine lv_tableIn (tgt := 588) (off := 555) hx hb dL_law_33 (by decide +kernel) (by decide +kernel) (by decide +kernel) (by decide) ?_
        exact lc_hole C0 hL hK hi hW hS hl J
      by_cases z13 : v = 13
      · refine W.eq (g2 := F0 m 33 ls [.int 13]) (by rw [z13]) ?_
        refine lv_tableIn (tgt := 611) (off := 578) hx hb dL_law_33 (by decide +kernel) (by decide +kernel) (by decide +kernel) (by decide) ?_
        exact lc_when C0 hL hK hi hW hS hl J
      by_cases z14 : v = 14
      · refine W.eq (g2 := F0 m 33 ls [.int 14]) (by rw [z14]) ?_
        refine lv_tableIn (tgt := 634) (off := 601) hx hb dL_law_33 (by decide +kernel) (by decide +kernel) (by decide +kernel) (by decide) ?_
        exact lc_reading C0 hL hK hi hW hS hl J
      by_cases z15 : v = 15
      · refine W.eq (g2 := F0 m 33 ls [.int 15]) (by rw [z15]) ?_
        refine lv_tableIn (tgt := 693) (off := 660) hx hb dL_law_33 (by decide +kernel) (by decide +kernel) (by decide +kernel) (by decide) ?_
        exact lc_back C0 hL hK hi hW hS hl J
      by_cases z16 : v = 16
      · refine W.eq (g2 := F0 m 33 ls [.int 16]) (by rw [z16]) ?_
        refine lv_tableIn (tgt := 716) (off := 683) hx hb dL_law_33 (by decide +kernel) (by decide +kernel) (by decide +kernel) (by decide) ?_
        exact lc_worths C0 hL hK hi hW hS hl J
      by_cases z17 : v = 17
      · refine W.eq (g2 := F0 m 33 ls [.int 17]) (by rw [z17]) ?_
        refine lv_tableIn (tgt := 739) (off := 706) hx hb dL_law_33 (by decide +kernel) (by decide +kernel) (by decide +kernel) (by decide) ?_
        exact lc_kinds C0 hL hK hi hW hS hl J
      by_cases z18 : v = 18
      · refine W.eq (g2 := F0 m 33 ls [.int 18]) (by rw [z18]) ?_
        refine lv_tableIn (tgt := 762) (off := 729) hx hb dL_law_33 (by decide +kernel) (by decide +kernel) (by decide +kernel) (by decide) ?_
        exact lc_fondness C0 hL hK hi hW hS hl J
      by_cases z19 : v = 19
      · refine W.eq (g2 := F0 m 33 ls [.int 19]) (by rw [z19]) ?_
        refine lv_tableIn (tgt := 785) (off := 752) hx hb dL_law_33 (by decide +kernel) (by decide +kernel) (by decide +kernel) (by decide) ?_
        exact lc_odds C0 hL hK hi hW hS hl J
      by_cases z20 : v = 20
      · refine W.eq (g2 := F0 m 33 ls [.int 20]) (by rw [z20]) ?_
        refine lv_tableIn (tgt := 819) (off := 786) hx hb dL_law_33 (by decide +kernel) (by decide +kernel) (by decide +kernel) (by decide) ?_
        exact lc_sheet C0 hL hK hi hW hS hl J
      by_cases z21 : v = 21
      · refine W.eq (g2 := F0 m 33 ls [.int 21]) (by rw [z21]) ?_
        refine lv_tableIn (tgt := 862) (off := 829) hx hb dL_law_33 (by decide +kernel) (by decide +kernel) (by decide +kernel) (by decide) ?_
        exact lc_lose C0 hL hK hi hW hS hl J
      by_cases z22 : v = 22
      · refine W.eq (g2 := F0 m 33 ls [.int 22]) (by rw [z22]) ?_
        refine lv_tableIn (tgt := 885) (off := 852) hx hb dL_law_33 (by decide +kernel) (by decide +kernel) (by decide +kernel) (by decide) ?_
        exact lc_put C0 hL hK hi hW hS hl J
      by_cases z23 : v = 23
      · refine W.eq (g2 := F0 m 33 ls [.int 23]) (by rw [z23]) ?_
        refine lv_tableIn (tgt := 928) (off := 895) hx hb dL_law_33 (by decide +kernel) (by decide +kernel) (by decide +kernel) (by decide) ?_
        exact lc_cell C0 hL hK hi hW hS hl J
      by_cases z24 : v = 24
      · refine W.eq (g2 := F0 m 33 ls [.int 24]) (by rw [z24]) ?_
        refine lv_tableIn (tgt := 972) (off := 939) hx hb dL_law_33 (by decide +kernel) (by decide +kernel) (by decide +kernel) (by decide) ?_
        exact lc_copy C0 hL hK hi hW hS hl J
      by_cases z25 : v = 25
      · refine W.eq (g2 := F0 m 33 ls [.int 25]) (by rw [z25]) ?_
        refine lv_tableIn (tgt := 1035) (off := 1002) hx hb dL_law_33 (by decide +kernel) (by decide +kernel) (by decide +kernel) (by decide) ?_
        exact lc_tell C0 hL hK hi hW hS hl J
      by_cases z26 : v = 26
      · refine W.eq (g2 := F0 m 33 ls [.int 26]) (by rw [z26]) ?_
        refine lv_tableIn (tgt := 1058) (off := 1025) hx hb dL_law_33 (by decide +kernel) (by decide +kernel) (by decide +kernel) (by decide) ?_
        exact lc_teach C0 hL hK hi hW hS hl J
      by_cases z27 : v = 27
      · refine W.eq (g2 := F0 m 33 ls [.int 27]) (by rw [z27]) ?_
        refine lv_tableIn (tgt := 1081) (off := 1048) hx hb dL_law_33 (by decide +kernel) (by decide +kernel) (by decide +kernel) (by decide) ?_
        exact lc_as C0 hL hK hi hW hS hl J
      by_cases z28 : v = 28
      · refine W.eq (g2 := F0 m 33 ls [.int 28]) (by rw [z28]) ?_
        refine lv_tableIn (tgt := 1114) (off := 1081) hx hb dL_law_33 (by decide +kernel) (by decide +kernel) (by decide +kernel) (by decide) ?_
        exact lc_trace C0 hL hK hi hW hS hl J
      by_cases z29 : v = 29
      · refine W.eq (g2 := F0 m 33 ls [.int 29]) (by rw [z29]) ?_
        refine lv_tableIn (tgt := 1127) (off := 1094) hx hb dL_law_33 (by decide +kernel) (by decide +kernel) (by decide +kernel) (by decide) ?_
        exact lc_fault C0 hL hK hi hW hS hl J
      by_cases z30 : v = 30
      · refine W.eq (g2 := F0 m 33 ls [.int 30]) (by rw [z30]) ?_
        refine lv_tableIn (tgt := 1140) (off := 1107) hx hb dL_law_33 (by decide +kernel) (by decide +kernel) (by decide +kernel) (by decide) ?_
        exact lc_many C0 hL hK hi hW hS hl J
      refine lv_tableOut (tgt := 1163) hx hb dL_law_33 (outT0_30 z0 z1 z2 z3 z4 z5 z6 z7 z8 z9 z10 z11 z12 z13 z14 z15 z16 z17 z18 z19 z20 z21 z22 z23 z24 z25 z26 z27 z28 z29 z30) (by decide) ?_
      exact J H locs ad S M rfl hW hS

set_option maxHeartbeats 8000000 in
set_option maxRecDepth 100000 in
theorem whole_start {p : Program} {e : Env} {s : State} {m : MethodId} {below : List Frame} {meth : Method} {c : Code} (l : Launch) {b L : Nat} {xs : Nat → Int32} (hL : L ≤ 384) (C0 : lw_At p s m meth c b L xs) : W p l e room_1 s m #[Value.ref b] below meth c s.heap [] 0 0 (lw_Z below #[Value.ref b] s) (entryFrame m ([Value.ref b] : List Value).toArray 4) := by
  obtain ⟨hx, hb, hr, hml, hown, hts0, hX, hbl, hlocks, hgv⟩ := id C0
  have hts : ∀ w ∈ wsL_law, w.before #[Value.ref b] s = true := fun w h => hts0 w (law_in w h)
  have hown : s.vm.findClass RL = some m.cls := hown
  have hA : ∀ q : Nat, s.heap.size ≤ q → (fun q : Nat => s.heap.size ≤ q) q := fun _ h => h
  obtain ⟨c0, iS0, hKn0⟩ := u_known (C := RX0) (T := TX0) (N := 4) (n := 4) hts inlX0 (hts _ (List.mem_of_getElem? (i := 29) rfl))
  obtain ⟨c1, iS1, hKn1⟩ := u_known (C := RX1) (T := TX1) (N := 2) (n := 2) hts inlX1 (hts _ (List.mem_of_getElem? (i := 24) rfl))
  obtain ⟨c2, iS2, hKn2⟩ := u_known (C := RX2) (T := TX2) (N := 4) (n := 4) hts inlX2 (hts _ (List.mem_of_getElem? (i := 34) rfl))
  obtain ⟨c3, iS3, hKn3⟩ := u_known (C := RX3) (T := TX3) (N := 3) (n := 3) hts inlX3 (hts _ (List.mem_of_getElem? (i := 15) rfl))
  obtain ⟨c4, iS4, hKn4⟩ := u_known (C := RX4) (T := TX4) (N := 8) (n := 8) hts inlX4 (hts _ (List.mem_of_getElem? (i := 19) rfl))
  obtain ⟨c5, iS5, hKn5⟩ := u_known (C := RX5) (T := TX5) (N := 9) (n := 9) hts inlX5 (hts _ (List.mem_of_getElem? (i := 1) rfl))
  obtain ⟨c6, iS6, hKn6⟩ := u_known (C := RX6) (T := TX6) (N := 27) (n := 27) hts inlX6 (hts _ (List.mem_of_getElem? (i := 4) rfl))
  obtain ⟨dC, dI, hKc⟩ : ∃ (dC : Nat → ClassId) (dI : Nat → Nat → Nat), ∀ (k : Nat) (q : vw_C), vwCl[k]? = some q → u_Kn s q.1 q.2.1 q.2.2 (dC k) (dI k) := by
    refine ⟨fun k => if k = 0 then c0 else if k = 1 then c1 else if k = 2 then c2 else if k = 3 then c3 else if k = 4 then c4 else if k = 5 then c5 else c6, fun k => if k = 0 then iS0 else if k = 1 then iS1 else if k = 2 then iS2 else if k = 3 then iS3 else if k = 4 then iS4 else if k = 5 then iS5 else iS6, ?_⟩
    intro k q hq
    match k, hq with
    | 0, hq => cases hq; exact hKn0
    | 1, hq => cases hq; exact hKn1
    | 2, hq => cases hq; exact hKn2
    | 3, hq => cases hq; exact hKn3
    | 4, hq => cases hq; exact hKn4
    | 5, hq => cases hq; exact hKn5
    | 6, hq => cases hq; exact hKn6
    | k + 7, hq => simp [vwCl] at hq
  have hS : va_S (fun q : Nat => s.heap.size ≤ q) s.heap s.heap [] := va_S.rf
  have hK0 : va_K (dC, dI) vwCl [] s := ⟨hKc, fun k q h => by simp at h⟩
  have hO : va_AO "FosterSons$Sheet" s := va_AO.of (hts0 _ (List.mem_of_getElem? (i := 66) rfl))
  have hOA : va_AOA .int s := va_AOA.of (hts0 _ (List.mem_of_getElem? (i := 92) rfl))
  obtain ⟨cI, cZ, cS, cG, hK⟩ := tyl_known hK0 (hts _ (List.mem_of_getElem? (i := 39) rfl)) (hts _ (List.mem_of_getElem? (i := 70) rfl)) hO hOA
  have hP : va_P (dC, dI) vwCl [] s.heap := fun k q h => by simp at h
  have hD : va_D (fun q : Nat => s.heap.size ≤ q) [] := ⟨fun i j p q h => by simp at h, fun k q h => by simp at h⟩
  have hl := lv_entry ([.ref b]) (n := 4) (Nat.le_of_ble_eq_true rfl)
  rw [lg_entry_eq]
  generalize (lg_sl ([.ref b]) ++ List.replicate (4 - (lg_sl ([.ref b])).length) Slot.unset).toArray = ls at hl ⊢
  have hl : lv_has ls 4 [(0, .ref b)] := hl
  have hN19 : va_Nw (.methodLinkNest RX5 19 yX3_init "FosterSons") s := va_Nw.of rfl (hts0 _ (List.mem_of_getElem? (i := 69) rfl))
  have hN26 : va_Nw (.methodLinkNest RX5 26 yX4_init "FosterSons") s := va_Nw.of rfl (hts0 _ (List.mem_of_getElem? (i := 87) rfl))
  have hN46 : va_Nw (.methodLinkNest RX5 46 yX0_init "FosterSons") s := va_Nw.of rfl (hts0 _ (List.mem_of_getElem? (i := 148) rfl))
  have hN58 : va_Nw (.methodLinkNest RX5 58 yX2_init "FosterSons") s := va_Nw.of rfl (hts0 _ (List.mem_of_getElem? (i := 168) rfl))
  refine va_new (ci := 5) (fs := [.null, .null, .null, .null, .null, .null, .null, .int 0, .int 0]) (C := RX5) (T := TX5) (N := 9) hx hb hts inlX5 tyX5 tyX5_ok hown (hts _ (List.mem_of_getElem? (i := 0) rfl)) (hts _ (List.mem_of_getElem? (i := 1) rfl)) (hts _ (List.mem_of_getElem? (i := 2) rfl)) hK hP hD hS hA rfl (fun j hj => by rcases (show j = 0 ∨ j = 1 ∨ j = 2 ∨ j = 3 ∨ j = 4 ∨ j = 5 ∨ j = 6 ∨ j = 7 ∨ j = 8 by omega) with rfl | rfl | rfl | rfl | rfl | rfl | rfl | rfl | rfl <;> rfl) (Nat.le_of_ble_eq_true rfl) (Nat.le_of_ble_eq_true rfl) dL_law_0 (fun q0 H hP hD hS => ?_)
  have hP : va_P (dC, dI) vwCl [(q0, .inr (5, [.null, .null, .null, .null, .null, .null, .null, .int 0, .int 0]))] H := hP
  have hD : va_D (fun q : Nat => s.heap.size ≤ q) [(q0, .inr (5, [.null, .null, .null, .null, .null, .null, .null, .int 0, .int 0]))] := hD
  refine W.widen (k := 1) (n := 9) (by omega) (by omega) ?_
  refine lv_dup hx hb dL_law_3 rfl ?_
  have hFc := va_free (wc := [(q0, .inr (5, [.null, .null, .null, .null, .null, .null, .null, .int 0, .int 0]))]) hD hS hA [0] rfl
  refine va_callv (va_runI (As := []) (rest := [.ref q0]) ⟨hx, hb, hml, hown, hts⟩ (kX5_init q0 H.size) (cwI 0 hts gL_law_X5_init rfl rfl rfl (hts _ (List.mem_of_getElem? (i := 2) rfl)) (hts _ (List.mem_of_getElem? (i := 6) rfl)) (hts _ (List.mem_of_getElem? (i := 7) rfl)) rfl (by decide +kernel) ⟨Nat.le_of_ble_eq_true rfl, Nat.le_of_ble_eq_true rfl⟩) ⟨fun a U g mk q => by obtain ⟨p0, p1, qP, qK, qD, qO, qA, q19, q26, q46, q58⟩ := q; exact ⟨p0, p1, qP, va_K.moved (u := U) (U := U.calling g mk a) (Vm.Alike.refl U.vm) qK, qD, va_AO.moved (u := U) (U := U.calling g mk a) (Vm.Alike.refl U.vm) qO, va_AOA.moved (u := U) (U := U.calling g mk a) (Vm.Alike.refl U.vm) qA, va_Nw.same (u := U) (U := U.calling g mk a) rfl rfl q19, va_Nw.same (u := U) (U := U.calling g mk a) rfl rfl q26, va_Nw.same (u := U) (U := U.calling g mk a) rfl rfl q46, va_Nw.same (u := U) (U := U.calling g mk a) rfl rfl q58⟩, fun U hU hW => ⟨rfl, by rw [hU], by rw [hU]; exact hP, va_K.moved hW.alike hK, hD.weaken (fun _ _ _ _ => trivial), va_AO.moved hW.alike hO, va_AOA.moved hW.alike hOA, va_Nw.warmM hW hN19, va_Nw.warmM hW hN26, va_Nw.warmM hW hN46, va_Nw.warmM hW hN58⟩⟩ rfl rfl hl.1 rfl (lv_room (Nat.le_of_ble_eq_true rfl)) dL_law_4 ⟨Nat.le_of_ble_eq_true rfl, Nat.le_of_ble_eq_true rfl⟩) hS (fun q _ h => hFc q h) hFc (fun ad t H1 locs ht hvm e0 hB hz1 hk1 hS => ?_)
  obtain ⟨hP1, hD1⟩ := hB
  rw [ht] at hP1
  obtain ⟨hP, hD⟩ := va_join (wr := []) (w1 := xW (cLy cI cZ cS cG ad) 42 ad S0) hP hD [0] [] rfl rfl (by decide) (by decide) hk1 hFc hP1 hD1
  generalize H1 = H at hP hS ⊢
  have hP : va_P (dC, dI) vwCl (xW (cLy cI cZ cS cG ad) 42 ad S0) H := hP
  have hD : va_D (fun q : Nat => s.heap.size ≤ q) (xW (cLy cI cZ cS cG ad) 42 ad S0) := hD
  refine W.widen (k := 42) (n := 496) (by omega) (by omega) ?_
  refine lv_astore_n (lv' := [(1, .ref q0), (0, .ref b)]) hx hb dL_law_7 rfl hl (by decide) rfl (fun ls hl => ?_)
  refine va_new (ci := 6) (fs := [.int 0, .int 0, .null, .null, .null, .int 0, .int 0, .int 0, .null, .null, .null, .null, .null, .null, .null, .int 0, .int 0, .int 0, .int 0, .null, .null, .null, .int 0, .null, .null, .null, .null]) (C := RX6) (T := TX6) (N := 27) hx hb hts inlX6 tyX6 tyX6_ok hown (hts _ (List.mem_of_getElem? (i := 3) rfl)) (hts _ (List.mem_of_getElem? (i := 4) rfl)) (hts _ (List.mem_of_getElem? (i := 5) rfl)) hK hP hD hS hA rfl (fun j hj => by rcases (show j = 0 ∨ j = 1 ∨ j = 2 ∨ j = 3 ∨ j = 4 ∨ j = 5 ∨ j = 6 ∨ j = 7 ∨ j = 8 ∨ j = 9 ∨ j = 10 ∨ j = 11 ∨ j = 12 ∨ j = 13 ∨ j = 14 ∨ j = 15 ∨ j = 16 ∨ j = 17 ∨ j = 18 ∨ j = 19 ∨ j = 20 ∨ j = 21 ∨ j = 22 ∨ j = 23 ∨ j = 24 ∨ j = 25 ∨ j = 26 by omega) with rfl | rfl | rfl | rfl | rfl | rfl | rfl | rfl | rfl | rfl | rfl | rfl | rfl | rfl | rfl | rfl | rfl | rfl | rfl | rfl | rfl | rfl | rfl | rfl | rfl | rfl | rfl <;> rfl) (Nat.le_of_ble_eq_true rfl) (Nat.le_of_ble_eq_true rfl) dL_law_8 (fun q8 H hP hD hS => ?_)
  refine W.widen (k := 43) (n := 523) (by omega) (by omega) ?_
  refine lv_dup hx hb dL_law_11 rfl ?_
  have hPc : va_P (dC, dI) vwCl [(q8, .inr (6, [.int 0, .int 0, .null, .null, .null, .int 0, .int 0, .int 0, .null, .null, .null, .null, .null, .null, .null, .int 0, .int 0, .int 0, .int 0, .null, .null, .null, .int 0, .null, .null, .null, .null]))] H := vaP_r hP
  have hDc : va_D (fun q : Nat => s.heap.size ≤ q) [(q8, .inr (6, [.int 0, .int 0, .null, .null, .null, .int 0, .int 0, .int 0, .null, .null, .null, .null, .null, .null, .null, .int 0, .int 0, .int 0, .int 0, .null, .null, .null, .int 0, .null, .null, .null, .null]))] := vaD_r hD
  have hFc : ∀ q, va_A [(q8, .inr (6, [.int 0, .int 0, .null, .null, .null, .int 0, .int 0, .int 0, .null, .null, .null, .null, .null, .null, .null, .int 0, .int 0, .int 0, .int 0, .null, .null, .null, .int 0, .null, .null, .null, .null]))] H.size q → s.heap.size ≤ q := fun q h => by
    rcases h with ⟨k, e, h⟩ | h
    · exact hDc.2 k _ h
    · exact Nat.le_trans hS.1 h
  refine va_callv (va_runI (As := []) (rest := [.ref q8]) ⟨hx, hb, hml, hown, hts⟩ (kX6_init q8 H.size) (cwI 0 hts gL_law_X6_init rfl rfl rfl (hts _ (List.mem_of_getElem? (i := 5) rfl)) (hts _ (List.mem_of_getElem? (i := 80) rfl)) (hts _ (List.mem_of_getElem? (i := 81) rfl)) rfl (by decide +kernel) ⟨Nat.le_of_ble_eq_true rfl, Nat.le_of_ble_eq_true rfl⟩) ⟨fun a U g mk q => by obtain ⟨p0, p1, qP, qK, qD⟩ := q; exact ⟨p0, p1, qP, va_K.moved (u := U) (U := U.calling g mk a) (Vm.Alike.refl U.vm) qK, qD⟩, fun U hU hW => ⟨rfl, by rw [hU], by rw [hU]; exact hPc, va_K.moved hW.alike hK, hDc.weaken (fun _ _ _ _ => trivial)⟩⟩ rfl rfl hl.1 rfl (lv_room (Nat.le_of_ble_eq_true rfl)) dL_law_12 ⟨Nat.le_of_ble_eq_true rfl, Nat.le_of_ble_eq_true rfl⟩) hS (fun q _ h => hFc q h) hFc (fun bd t H1 locs ht hvm e8 hB hz1 hk1 hS => ?_)
  obtain ⟨hP1, hD1⟩ := hB
  rw [ht] at hP1
  have hl5 : ∀ k, k < 42 → ad k < H.size ∧ ¬ va_A [(q8, .inr (6, [.int 0, .int 0, .null, .null, .null, .int 0, .int 0, .int 0, .null, .null, .null, .null, .null, .null, .null, .int 0, .int 0, .int 0, .int 0, .null, .null, .null, .int 0, .null, .null, .null, .null]))] H.size (ad k) := fun k hk => by
    have h1 := vaP_l hP k _ (xW_at hk)
    refine ⟨h1.lt, fun z => ?_⟩
    rcases z with ⟨j, e, z⟩ | z
    · exact vaD_x hD (xW_at hk) z rfl
    · exact absurd h1.lt (Nat.not_lt.mpr z)
  have hP5 : va_P (dC, dI) vwCl (xW (cLy cI cZ cS cG ad) 42 ad S0) H1 := xW_kept (vaP_l hP) hk1 (fun k hk => (hl5 k hk).2)
  obtain ⟨hI, hAd⟩ := xI_of_D (vaD_l hD)
  obtain ⟨hJ, hBd⟩ := xI_of_D hD1
  have hW : LI dC dI cI cZ cS cG s ad bd S0 M0 H1 := ⟨hP5, hP1, hI, hJ, hAd, fun k hk => hFc _ (hBd k hk), fun i j hi hj z => (hl5 i hi).2 (by rw [z]; exact hBd j hj), rel0⟩
  refine W.widen (k := 60) (n := 915) (by omega) (by omega) ?_
  refine lv_astore_n (lv' := [(2, .ref q8), (1, .ref q0), (0, .ref b)]) hx hb dL_law_15 rfl hl (by decide) rfl (fun ls hl => ?_)
  refine lv_iconst (v := 0) hx hb dL_law_16 (by decide) ?_
  refine lv_istore_n (lv' := [(3, .int 0), (2, .ref q8), (1, .ref q0), (0, .ref b)]) hx hb dL_law_17 rfl hl (by decide) rfl (fun ls hl => ?_)
  exact law_loop hL C0 hK L 0 (by omega) (by omega) ad S0 M0 _ _ ls hW hS (by rw [e0, e8]; exact lv_sub hl [3, 2, 1, 0] rfl)

end LC
