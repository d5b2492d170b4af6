section C7
variable {l : Launch} {dC : Nat → ClassId} {dI : Nat → Nat → Nat} {cI cZ cS cG : ClassId} {ad bd : Nat → Nat}
set_option maxHeartbeats 4000000 in
set_option maxRecDepth 100000 in
theorem c4_readsHead (hI : xI 42 ad) (S : xSt) (q : Nat) (hq : S 10 1 = nI q) (hq60 : q ≤ 60) (cd : Nat → Int32) (hcd : ∀ u, u < q → S 11 u = cd u) (hp : S 10 2 = nI 0) : xMi l yX4_readsHead wsX4_readsHead ({ frames := 2, cells := 0, slots := 0, locals := 44 }) (dC, dI) vwCl (tyl cI cZ cS cG) (cLy cI cZ cS cG ad) 42 ad [.ref (ad 22), .ref (ad 10)] S (fun r S' => (r = 1 ∧ tAt cd q 3 (3, 0, 0) ∧ (2 ≤ cC cd ∧ cC cd ≤ 4 ∧ 1 ≤ cY cd ∧ cY cd ≤ 6) ∧ S' = su (su (su S 10 2 (nI 3)) 22 0 (nI (cC cd))) 22 1 (nI (cY cd))) ∨ (r = 0 ∧ ∃ t, tBad cd q t ∧ S' = su S 10 2 (nI t))) := by
  refine xM_of (cc := cX4_readsHead) (nL := 4) (ret := (some .boolean)) (by decide) rfl (Nat.le_of_ble_eq_true rfl) ?_
  intro p e s m below meth c ls B hl hK hP
  obtain ⟨hx, hb, hml, hown, hts, hr, hlocks⟩ := B
  have hl : lv_has ls 4 [(0, .ref (ad 22)), (1, .ref (ad 10))] := hl
  have hS : va_S (xA 42 ad) s.heap s.heap [] := va_S.rf
  have hAd : ∀ k, k < 42 → xA 42 ad (ad k) := xA_in
  have hinX4 : ∀ w ∈ wsX40, w ∈ wsX4_readsHead := fun _ h => List.mem_cons_of_mem _ (List.mem_append_left _ (List.mem_append_right _ h))
  have hF : CallFix p m c cX4_readsHead 4 s _ wsX4_readsHead RX4 := ⟨hx, hb, hml, hown, hts⟩
  refine lv_aload_n hx hb dX4_readsHead_0 rfl (lv_at hl 1 rfl) ?_
  refine lv_bipush (v := 120) hx hb dX4_readsHead_1 (by decide +kernel) ?_
  refine x_calli (x_runV (As := [.int 120]) (rest := []) hF (c3_takes hI S q 0 hq hp (tat0 cd q).1.le hq60 120) (cwV 1 hts gX4_readsHead_X3_takes rfl rfl rfl (by decide +kernel) ⟨Nat.le_of_ble_eq_true rfl, Nat.le_of_ble_eq_true rfl⟩) hK hP (by decide) rfl rfl rfl hl.1 rfl (Nat.le_of_ble_eq_true rfl) dX4_readsHead_3 ⟨Nat.zero_le _, Nat.zero_le _⟩) hS hAd (fun r3 S3 H locs hw hP _ hS => ?_)
  obtain ⟨hw, eS3⟩ := hw
  by_cases q3 : tko q 0 (S 11 0) 120 120 = true
  · have eS3 := eS3.trans (if_pos q3)
    rw [eS3] at hP
    have hw : r3 = 1 := hw.trans (if_pos q3)
    subst hw
    have hA3 : tAt cd q (0 + 1) (1, 0, 0) := (tat0 cd q).step (tko_t q3).1 (by rw [okp0, ← hcd _ (tko_t q3).1]; exact (tko_t q3).2)
    refine lv_if_ne (tgt := 11) hx hb dX4_readsHead_6 (by decide) (fun _ => ?_) (fun hc => absurd hc (by decide))
    refine lv_aload_n hx hb dX4_readsHead_11 rfl (lv_at hl 1 rfl) ?_
    refine lv_bipush (v := 50) hx hb dX4_readsHead_12 (by decide +kernel) ?_
    refine lv_bipush (v := 52) hx hb dX4_readsHead_14 (by decide +kernel) ?_
    refine x_calli (x_runV (As := [.int 50, .int 52]) (rest := []) hF (c3_takesDigit hI (su S 10 2 (nI (0 + 1))) q (0 + 1) hq rfl hA3.1.le hq60 50 52) (cwV 2 hts gX4_readsHead_X3_takesDigit rfl rfl rfl (by decide +kernel) ⟨Nat.le_of_ble_eq_true rfl, Nat.le_of_ble_eq_true rfl⟩) hK hP (by decide) rfl rfl rfl hl.1 rfl (Nat.le_of_ble_eq_true rfl) dX4_readsHead_16 ⟨Nat.zero_le _, Nat.zero_le _⟩) hS hAd (fun r16 S16 H locs hw hP _ hS => ?_)
    obtain ⟨hw, eS16⟩ := hw
    by_cases q16 : tko q (0 + 1) (S 11 (0 + 1)) 50 52 = true
    · have eS16 := eS16.trans (if_pos q16)
      rw [eS16] at hP
      have hw : r16 = S 11 (0 + 1) - 50 := hw.trans (if_pos q16)
      subst hw
      have hA16 : tAt cd q (0 + 1 + 1) (2, 0, 0) := hA3.step (tko_t q16).1 (by rw [okp1, ← hcd _ (tko_t q16).1]; exact (tko_t q16).2)
      refine lv_topi (fun x19 ex19 => ?_)
      refine lv_istore_n (lv' := [(2, .int x19), (0, .ref (ad 22)), (1, .ref (ad 10))]) hx hb dX4_readsHead_19 rfl hl (by decide) rfl (fun ls hl => ?_)
      refine lv_iload_n hx hb dX4_readsHead_20 rfl (lv_at hl 0 rfl) ?_
      refine lv_bipush (v := (-9)) hx hb dX4_readsHead_21 (by decide +kernel) ?_
      refine lv_icmp_ne (tgt := 28) hx hb dX4_readsHead_23 (by decide) (fun _ => ?_) (fun hc => absurd hc (by rw [ex19]; exact (hd_C (tko_t q16).2).2.2.2.2.1))
      refine lv_aload_n hx hb dX4_readsHead_28 rfl (lv_at hl 2 rfl) ?_
      refine lv_bipush (v := 49) hx hb dX4_readsHead_29 (by decide +kernel) ?_
      refine lv_bipush (v := 54) hx hb dX4_readsHead_31 (by decide +kernel) ?_
      refine x_calli (x_runV (As := [.int 49, .int 54]) (rest := []) hF (c3_takesDigit hI (su (su S 10 2 (nI (0 + 1))) 10 2 (nI (0 + 1 + 1))) q (0 + 1 + 1) hq rfl hA16.1.le hq60 49 54) (cwV 2 hts gX4_readsHead_X3_takesDigit rfl rfl rfl (by decide +kernel) ⟨Nat.le_of_ble_eq_true rfl, Nat.le_of_ble_eq_true rfl⟩) hK hP (by decide) rfl rfl rfl hl.1 rfl (Nat.le_of_ble_eq_true rfl) dX4_readsHead_33 ⟨Nat.zero_le _, Nat.zero_le _⟩) hS hAd (fun r33 S33 H locs hw hP _ hS => ?_)
      obtain ⟨hw, eS33⟩ := hw
      by_cases q33 : tko q (0 + 1 + 1) (S 11 (0 + 1 + 1)) 49 54 = true
      · have eS33 := eS33.trans (if_pos q33)
        rw [eS33] at hP
        have hw : r33 = S 11 (0 + 1 + 1) - 49 := hw.trans (if_pos q33)
        subst hw
        have hA33 : tAt cd q (0 + 1 + 1 + 1) (3, 0, 0) := hA16.step (tko_t q33).1 (by rw [okp2, ← hcd _ (tko_t q33).1]; exact (tko_t q33).2)
        refine lv_topi (fun x36 ex36 => ?_)
        refine lv_istore_n (lv' := [(3, .int x36), (2, .int x19), (0, .ref (ad 22)), (1, .ref (ad 10))]) hx hb dX4_readsHead_36 rfl hl (by decide) rfl (fun ls hl => ?_)
        refine lv_iload_n hx hb dX4_readsHead_37 rfl (lv_at hl 0 rfl) ?_
        refine lv_bipush (v := (-9)) hx hb dX4_readsHead_38 (by decide +kernel) ?_
        refine lv_icmp_ne (tgt := 45) hx hb dX4_readsHead_40 (by decide) (fun _ => ?_) (fun hc => absurd hc (by rw [ex36]; exact (hd_Y (tko_t q33).2).2.2.2.2.1))
        refine lv_aload_n hx hb dX4_readsHead_45 rfl (lv_at hl 2 rfl) ?_
        refine lv_iconst (v := 2) hx hb dX4_readsHead_46 (by decide +kernel) ?_
        refine lv_iload_n hx hb dX4_readsHead_47 rfl (lv_at hl 1 rfl) ?_
        refine lv_iadd hx hb dX4_readsHead_48 ?_
        refine x_put hx hb hts hinX4 tyX4 tyX4_ok nmX4 hown hK hI hAd hP hS 22 (by decide) rfl rfl 0 (by decide) (hts _ (List.mem_of_getElem? (i := 1) rfl)) rfl (upd ((su (su (su S 10 2 (nI (0 + 1))) 10 2 (nI (0 + 1 + 1))) 10 2 (nI (0 + 1 + 1 + 1))) 22) 0 (2 + x19)) rfl rfl rfl (Nat.le_of_ble_eq_true rfl) dX4_readsHead_49 (fun H locs hP hS => ?_)
        have hP : va_P (dC, dI) vwCl (xW (cLy cI cZ cS cG ad) 42 ad (su (su (su (su S 10 2 (nI (0 + 1))) 10 2 (nI (0 + 1 + 1))) 10 2 (nI (0 + 1 + 1 + 1))) 22 0 (2 + x19))) H := hP
        refine lv_aload_n hx hb dX4_readsHead_52 rfl (lv_at hl 2 rfl) ?_
        refine lv_iconst (v := 1) hx hb dX4_readsHead_53 (by decide +kernel) ?_
        refine lv_iload_n hx hb dX4_readsHead_54 rfl (lv_at hl 0 rfl) ?_
        refine lv_iadd hx hb dX4_readsHead_55 ?_
        refine x_put hx hb hts hinX4 tyX4 tyX4_ok nmX4 hown hK hI hAd hP hS 22 (by decide) rfl rfl 1 (by decide) (hts _ (List.mem_of_getElem? (i := 2) rfl)) rfl (upd ((su (su (su (su S 10 2 (nI (0 + 1))) 10 2 (nI (0 + 1 + 1))) 10 2 (nI (0 + 1 + 1 + 1))) 22 0 (2 + x19)) 22) 1 (1 + x36)) rfl rfl rfl (Nat.le_of_ble_eq_true rfl) dX4_readsHead_56 (fun H locs hP hS => ?_)
        have hP : va_P (dC, dI) vwCl (xW (cLy cI cZ cS cG ad) 42 ad (su (su (su (su (su S 10 2 (nI (0 + 1))) 10 2 (nI (0 + 1 + 1))) 10 2 (nI (0 + 1 + 1 + 1))) 22 0 (2 + x19)) 22 1 (1 + x36))) H := hP
        refine lv_iconst (v := 1) hx hb dX4_readsHead_59 (by decide +kernel) ?_
        refine x_zret hx hb hr hlocks hP hS dX4_readsHead_60 (Or.inr rfl) ?_
        have k1 := hd_C (tko_t q16).2
        have k2 := hd_Y (tko_t q33).2
        have j1 : nN (S 11 1) - 48 = cC cd := by rw [hcd 1 (tko_t q16).1]; rfl
        have j2 : nN (S 11 2) - 48 = cY cd := by rw [hcd 2 (tko_t q33).1]; rfl
        rw [show 0 + 1 = 1 from rfl, j1] at k1
        rw [show 0 + 1 + 1 = 2 from rfl, j2] at k2
        subst ex19; subst ex36
        exact Or.inl ⟨rfl, hA33, ⟨k1.2.2.1, k1.2.2.2.1, k2.2.2.1, k2.2.2.2.1⟩, by rw [su_su, su_su]; show su (su (su S 10 2 (nI 3)) 22 0 (2 + (S 11 1 - 50))) 22 1 (1 + (S 11 2 - 49)) = _; rw [k1.1, k2.1]⟩
      · have eS33 := eS33.trans (if_neg q33)
        rw [eS33] at hP
        have hw : r33 = -9 := hw.trans (if_neg q33)
        subst hw
        have hB := hA16.bad (fun z => tko_f q33 ⟨z.1, by have z2 := z.2; rw [okp2, ← hcd _ z.1] at z2; exact z2⟩) (fun _ s hs z => by simp at z)
        refine lv_istore_n (lv' := [(3, .int (-9)), (2, .int x19), (0, .ref (ad 22)), (1, .ref (ad 10))]) hx hb dX4_readsHead_36 rfl hl (by decide) rfl (fun ls hl => ?_)
        refine lv_iload_n hx hb dX4_readsHead_37 rfl (lv_at hl 0 rfl) ?_
        refine lv_bipush (v := (-9)) hx hb dX4_readsHead_38 (by decide +kernel) ?_
        refine lv_icmp_ne (tgt := 45) hx hb dX4_readsHead_40 (by decide) (fun hc => absurd (by decide) hc) (fun _ => ?_)
        refine lv_iconst (v := 0) hx hb dX4_readsHead_43 (by decide +kernel) ?_
        refine x_zret hx hb hr hlocks hP hS dX4_readsHead_44 (Or.inl rfl) ?_
        exact Or.inr ⟨rfl, _, hB, su_su _ _ _ _ _⟩
    · have eS16 := eS16.trans (if_neg q16)
      rw [eS16] at hP
      have hw : r16 = -9 := hw.trans (if_neg q16)
      subst hw
      have hB := hA3.bad (fun z => tko_f q16 ⟨z.1, by have z2 := z.2; rw [okp1, ← hcd _ z.1] at z2; exact z2⟩) (fun _ s hs z => by simp at z)
      refine lv_istore_n (lv' := [(2, .int (-9)), (0, .ref (ad 22)), (1, .ref (ad 10))]) hx hb dX4_readsHead_19 rfl hl (by decide) rfl (fun ls hl => ?_)
      refine lv_iload_n hx hb dX4_readsHead_20 rfl (lv_at hl 0 rfl) ?_
      refine lv_bipush (v := (-9)) hx hb dX4_readsHead_21 (by decide +kernel) ?_
      refine lv_icmp_ne (tgt := 28) hx hb dX4_readsHead_23 (by decide) (fun hc => absurd (by decide) hc) (fun _ => ?_)
      refine lv_iconst (v := 0) hx hb dX4_readsHead_26 (by decide +kernel) ?_
      refine x_zret hx hb hr hlocks hP hS dX4_readsHead_27 (Or.inl rfl) ?_
      exact Or.inr ⟨rfl, _, hB, rfl⟩
  · have eS3 := eS3.trans (if_neg q3)
    rw [eS3] at hP
    have hw : r3 = 0 := hw.trans (if_neg q3)
    subst hw
    have hB := (tat0 cd q).bad (fun z => tko_f q3 ⟨z.1, by have z2 := z.2; rw [okp0, ← hcd _ z.1] at z2; exact z2⟩) (fun _ s hs z => by simp at z)
    refine lv_if_ne (tgt := 11) hx hb dX4_readsHead_6 (by decide) (fun hc => absurd (by decide) hc) (fun _ => ?_)
    refine lv_iconst (v := 0) hx hb dX4_readsHead_9 (by decide +kernel) ?_
    refine x_zret hx hb hr hlocks hP hS dX4_readsHead_10 (Or.inl rfl) ?_
    exact Or.inr ⟨rfl, _, hB, (su_as hp).symm⟩

set_option maxHeartbeats 4000000 in
set_option maxRecDepth 100000 in
theorem c4_readsGains (hI : xI 42 ad) (S : xSt) (q : Nat) (hq : S 10 1 = nI q) (hq60 : q ≤ 60) (cd : Nat → Int32) (hcd : ∀ u, u < q → S 11 u = cd u) (hp : S 10 2 = nI 3) (hA0 : tAt cd q 3 (3, 0, 0)) (hC0 : S 22 0 = nI (cC cd)) (hY0 : S 22 1 = nI (cY cd)) (hC2 : 2 ≤ cC cd) (hC4 : cC cd ≤ 4) (hY1 : 1 ≤ cY cd) (hY6 : cY cd ≤ 6) : xMi l yX4_readsGains wsX4_readsGains ({ frames := 2, cells := 0, slots := 0, locals := 44 }) (dC, dI) vwCl (tyl cI cZ cS cG) (cLy cI cZ cS cG ad) 42 ad [.ref (ad 22), .ref (ad 10)] S (fun r S' => (r = 1 ∧ tAt cd q (3 + cC cd * (cY cd + 1)) (5, 0, 0) ∧ S' 10 = upd (S 10) 2 (nI (3 + cC cd * (cY cd + 1))) ∧ (∀ k, k ≠ 10 → ¬ (24 ≤ k ∧ k ≤ 27) → S' k = S k) ∧ (∀ c' y', c' < cC cd → y' < cY cd → S' (24 + c') y' = nI (dg cd (gnP (cY cd) c' y')) ∧ dg cd (gnP (cY cd) c' y') ≤ 9)) ∨ (r = 0 ∧ ∃ t, tBad cd q t ∧ S' 10 2 = nI t ∧ frm S S')) := by
  refine xM_of (cc := cX4_readsGains) (nL := 4) (ret := (some .boolean)) (by decide) rfl (Nat.le_of_ble_eq_true rfl) ?_
  intro p e s m below meth c ls B hl hK hP
  obtain ⟨hx, hb, hml, hown, hts, hr, hlocks⟩ := B
  have hl : lv_has ls 4 [(0, .ref (ad 22)), (1, .ref (ad 10))] := hl
  have hS : va_S (xA 42 ad) s.heap s.heap [] := va_S.rf
  have hAd : ∀ k, k < 42 → xA 42 ad (ad k) := xA_in
  have hinX4 : ∀ w ∈ wsX40, w ∈ wsX4_readsGains := fun _ h => List.mem_cons_of_mem _ (List.mem_append_left _ (List.mem_append_right _ h))
  have hF : CallFix p m c cX4_readsGains 4 s _ wsX4_readsGains RX4 := ⟨hx, hb, hml, hown, hts⟩
  have hYm : ∀ z, z ≤ 4 → z * (cY cd + 1) ≤ 28 := fun z hz => Nat.le_trans (Nat.mul_le_mul hz (Nat.succ_le_succ hY6)) (by decide)
  have L2 : ∀ (n : Nat) (cv : Nat) (T : xSt) (hc : cv + n = cC cd) (hA : tAt cd q (3 + cv * (cY cd + 1)) (nxp (cC cd) cv)) (hT10 : T 10 = upd (S 10) 2 (nI (3 + cv * (cY cd + 1)))) (hTf : (∀ k, k ≠ 10 → ¬ (24 ≤ k ∧ k ≤ 27) → T k = S k)) (hg : (∀ c' y', c' < cv → y' < cY cd → T (24 + c') y' = nI (dg cd (gnP (cY cd) c' y')) ∧ dg cd (gnP (cY cd) c' y') ≤ 9)) (H : Heap) (locs : List Loc) (ls : Array Slot), va_P (dC, dI) vwCl (xW (cLy cI cZ cS cG ad) 42 ad T) H → va_S (xA 42 ad) s.heap H locs → lv_has ls 4 [(0, .ref (ad 22)), (1, .ref (ad 10)), (2, .int (nI cv))] → W p l e ({ frames := 2, cells := 0, slots := 0, locals := 44 }) s m ([.ref (ad 22), .ref (ad 10)] : List Value).toArray below meth c H locs 0 0 (MQ below (xQi (dC, dI) vwCl (cLy cI cZ cS cG ad) 42 ad (fun r S' => (r = 1 ∧ tAt cd q (3 + cC cd * (cY cd + 1)) (5, 0, 0) ∧ S' 10 = upd (S 10) 2 (nI (3 + cC cd * (cY cd + 1))) ∧ (∀ k, k ≠ 10 → ¬ (24 ≤ k ∧ k ≤ 27) → S' k = S k) ∧ (∀ c' y', c' < cC cd → y' < cY cd → S' (24 + c') y' = nI (dg cd (gnP (cY cd) c' y')) ∧ dg cd (gnP (cY cd) c' y') ≤ 9)) ∨ (r = 0 ∧ ∃ t, tBad cd q t ∧ S' 10 2 = nI t ∧ frm S S'))) ([.ref (ad 22), .ref (ad 10)] : List Value).toArray s 0 0 (xA 42 ad)) (F0 m 2 ls []) := by
    intro n
    induction n with
    | zero =>
      intro cv T hc hA hT10 hTf hg H locs ls hP hS hl
      have h220 : T 22 0 = nI (cC cd) := (congrFun (hTf 22 (by decide) (by decide)) 0).trans hC0
      have h221 : T 22 1 = nI (cY cd) := (congrFun (hTf 22 (by decide) (by decide)) 1).trans hY0
      have hTq : T 10 1 = nI q := (congrFun hT10 1).trans hq
      have hTp : T 10 2 = nI (3 + cv * (cY cd + 1)) := congrFun hT10 2
      have hcT : ∀ u, u < q → T 11 u = cd u := fun u h => (congrFun (hTf 11 (by decide) (by decide)) u).trans (hcd u h)
      obtain rfl : cv = cC cd := by omega
      rw [nxp_out (by omega)] at hA
      refine lv_iload_n hx hb dX4_readsGains_2 rfl (lv_at hl 2 rfl) ?_
      refine lv_aload_n hx hb dX4_readsGains_3 rfl (lv_at hl 0 rfl) ?_
      refine x_get (v := .int (nI (cC cd))) hx hb hts hinX4 hown hK hP 22 (by decide) rfl rfl 0 (by decide) (hts _ (List.mem_of_getElem? (i := 1) rfl)) (congrArg (fun z => some (Value.int z)) h220) dX4_readsGains_4 ?_
      refine lv_icmp_ge (tgt := 74) hx hb dX4_readsGains_7 (by decide) (fun _ => ?_) (fun hc => absurd (nI_le (by omega) (by omega)) hc)
      refine lv_iconst (v := 1) hx hb dX4_readsGains_74 (by decide +kernel) ?_
      refine x_zret hx hb hr hlocks hP hS dX4_readsGains_75 (Or.inr rfl) ?_
      exact Or.inl ⟨rfl, hA, hT10, hTf, hg⟩
    | succ n ih =>
      intro cv T hc hA hT10 hTf hg H locs ls hP hS hl
      have h220 : T 22 0 = nI (cC cd) := (congrFun (hTf 22 (by decide) (by decide)) 0).trans hC0
      have h221 : T 22 1 = nI (cY cd) := (congrFun (hTf 22 (by decide) (by decide)) 1).trans hY0
      have hTq : T 10 1 = nI q := (congrFun hT10 1).trans hq
      have hTp : T 10 2 = nI (3 + cv * (cY cd + 1)) := congrFun hT10 2
      have hcT : ∀ u, u < q → T 11 u = cd u := fun u h => (congrFun (hTf 11 (by decide) (by decide)) u).trans (hcd u h)
      rw [nxp_in (by omega)] at hA
      refine lv_iload_n hx hb dX4_readsGains_2 rfl (lv_at hl 2 rfl) ?_
      refine lv_aload_n hx hb dX4_readsGains_3 rfl (lv_at hl 0 rfl) ?_
      refine x_get (v := .int (nI (cC cd))) hx hb hts hinX4 hown hK hP 22 (by decide) rfl rfl 0 (by decide) (hts _ (List.mem_of_getElem? (i := 1) rfl)) (congrArg (fun z => some (Value.int z)) h220) dX4_readsGains_4 ?_
      refine lv_icmp_ge (tgt := 74) hx hb dX4_readsGains_7 (by decide) (fun hc => absurd hc (nI_ge (by omega) (by omega))) (fun _ => ?_)
      refine lv_aload_n hx hb dX4_readsGains_10 rfl (lv_at hl 1 rfl) ?_
      refine lv_bipush (v := 47) hx hb dX4_readsGains_11 (by decide +kernel) ?_
      refine x_calli (x_runV (As := [.int 47]) (rest := []) hF (c3_takes hI T q (3 + cv * (cY cd + 1)) hTq hTp hA.1.le hq60 47) (cwV 1 hts gX4_readsGains_X3_takes rfl rfl rfl (by decide +kernel) ⟨Nat.le_of_ble_eq_true rfl, Nat.le_of_ble_eq_true rfl⟩) hK hP (by decide) rfl rfl rfl hl.1 rfl (Nat.le_of_ble_eq_true rfl) dX4_readsGains_13 ⟨Nat.zero_le _, Nat.zero_le _⟩) hS hAd (fun r13 S13 H locs hw hP _ hS => ?_)
      obtain ⟨hw, eS13⟩ := hw
      by_cases q13 : tko q (3 + cv * (cY cd + 1)) (T 11 (3 + cv * (cY cd + 1))) 47 47 = true
      · have eS13 := eS13.trans (if_pos q13)
        rw [eS13] at hP
        have hw : r13 = 1 := hw.trans (if_pos q13)
        subst hw
        have hA13 : tAt cd q (4 + cv * (cY cd + 1) + 0) (4, cv, 0) := by rw [show 4 + cv * (cY cd + 1) + 0 = 3 + cv * (cY cd + 1) + 1 by omega]; exact hA.step (tko_t q13).1 (by rw [okp3, ← hcT _ (tko_t q13).1]; exact (tko_t q13).2)
        refine lv_if_ne (tgt := 21) hx hb dX4_readsGains_16 (by decide) (fun _ => ?_) (fun hc => absurd hc (by decide))
        refine lv_iconst (v := 0) hx hb dX4_readsGains_21 (by decide +kernel) ?_
        refine lv_istore_n (lv' := [(3, .int 0), (0, .ref (ad 22)), (1, .ref (ad 10)), (2, .int (nI cv))]) hx hb dX4_readsGains_22 rfl hl (by decide) rfl (fun ls hl => ?_)
        have L23 : ∀ (m0 : Nat) (y : Nat) (T : xSt) (hy : y + m0 = cY cd) (hA : tAt cd q (4 + cv * (cY cd + 1) + y) (nyp (cC cd) (cY cd) cv y)) (hT10 : T 10 = upd (S 10) 2 (nI (4 + cv * (cY cd + 1) + y))) (hTf : (∀ k, k ≠ 10 → ¬ (24 ≤ k ∧ k ≤ 27) → T k = S k)) (hg : (∀ c' y', c' < cv → y' < cY cd → T (24 + c') y' = nI (dg cd (gnP (cY cd) c' y')) ∧ dg cd (gnP (cY cd) c' y') ≤ 9)) (hg2 : ∀ y', y' < y → T (24 + cv) y' = nI (dg cd (gnP (cY cd) cv y')) ∧ dg cd (gnP (cY cd) cv y') ≤ 9) (H : Heap) (locs : List Loc) (ls : Array Slot), va_P (dC, dI) vwCl (xW (cLy cI cZ cS cG ad) 42 ad T) H → va_S (xA 42 ad) s.heap H locs → lv_has ls 4 [(0, .ref (ad 22)), (1, .ref (ad 10)), (2, .int (nI cv)), (3, .int (nI y))] → W p l e ({ frames := 2, cells := 0, slots := 0, locals := 44 }) s m ([.ref (ad 22), .ref (ad 10)] : List Value).toArray below meth c H locs 0 0 (MQ below (xQi (dC, dI) vwCl (cLy cI cZ cS cG ad) 42 ad (fun r S' => (r = 1 ∧ tAt cd q (3 + cC cd * (cY cd + 1)) (5, 0, 0) ∧ S' 10 = upd (S 10) 2 (nI (3 + cC cd * (cY cd + 1))) ∧ (∀ k, k ≠ 10 → ¬ (24 ≤ k ∧ k ≤ 27) → S' k = S k) ∧ (∀ c' y', c' < cC cd → y' < cY cd → S' (24 + c') y' = nI (dg cd (gnP (cY cd) c' y')) ∧ dg cd (gnP (cY cd) c' y') ≤ 9)) ∨ (r = 0 ∧ ∃ t, tBad cd q t ∧ S' 10 2 = nI t ∧ frm S S'))) ([.ref (ad 22), .ref (ad 10)] : List Value).toArray s 0 0 (xA 42 ad)) (F0 m 23 ls []) := by
          intro m0
          induction m0 with
          | zero =>
            intro y T hy hA hT10 hTf hg hg2 H locs ls hP hS hl
            have h220 : T 22 0 = nI (cC cd) := (congrFun (hTf 22 (by decide) (by decide)) 0).trans hC0
            have h221 : T 22 1 = nI (cY cd) := (congrFun (hTf 22 (by decide) (by decide)) 1).trans hY0
            have hTq : T 10 1 = nI q := (congrFun hT10 1).trans hq
            have hTp : T 10 2 = nI (4 + cv * (cY cd + 1) + y) := congrFun hT10 2
            have hcT : ∀ u, u < q → T 11 u = cd u := fun u h => (congrFun (hTf 11 (by decide) (by decide)) u).trans (hcd u h)
            refine lv_iload_n hx hb dX4_readsGains_23 rfl (lv_at hl 3 rfl) ?_
            refine lv_aload_n hx hb dX4_readsGains_24 rfl (lv_at hl 0 rfl) ?_
            refine x_get (v := .int (nI (cY cd))) hx hb hts hinX4 hown hK hP 22 (by decide) rfl rfl 1 (by decide) (hts _ (List.mem_of_getElem? (i := 2) rfl)) (congrArg (fun z => some (Value.int z)) h221) dX4_readsGains_25 ?_
            refine lv_icmp_ge (tgt := 68) hx hb dX4_readsGains_28 (by decide) (fun _ => ?_) (fun hc => absurd (nI_le (by omega) (by omega)) hc)
            refine lv_iinc (v := nI (cv + 1)) (lv' := [(2, .int (nI (cv + 1))), (0, .ref (ad 22)), (1, .ref (ad 10)), (3, .int (nI y))]) hx hb dX4_readsGains_68 hl (k := 2) rfl (nI_1 _) (by decide) rfl (fun ls hl => ?_)
            refine lv_goto (tgt := 2) hx hb dX4_readsGains_71 (by decide) ?_
            rw [nyp_out (by omega)] at hA
            obtain rfl : y = cY cd := by omega
            rw [pos_nx] at hA hT10
            exact ih (cv + 1) T (by omega) hA hT10 hTf (fun c' y' h1 h2 => by rcases Nat.lt_or_ge c' cv with z | z; exact hg c' y' z h2; rw [show c' = cv by omega]; exact hg2 y' h2) H locs ls hP hS (lv_sub hl [1, 2, 0] rfl)
          | succ m0 ih2 =>
            intro y T hy hA hT10 hTf hg hg2 H locs ls hP hS hl
            have h220 : T 22 0 = nI (cC cd) := (congrFun (hTf 22 (by decide) (by decide)) 0).trans hC0
            have h221 : T 22 1 = nI (cY cd) := (congrFun (hTf 22 (by decide) (by decide)) 1).trans hY0
            have hTq : T 10 1 = nI q := (congrFun hT10 1).trans hq
            have hTp : T 10 2 = nI (4 + cv * (cY cd + 1) + y) := congrFun hT10 2
            have hcT : ∀ u, u < q → T 11 u = cd u := fun u h => (congrFun (hTf 11 (by decide) (by decide)) u).trans (hcd u h)
            rw [nyp_in (by omega)] at hA
            refine lv_iload_n hx hb dX4_readsGains_23 rfl (lv_at hl 3 rfl) ?_
            refine lv_aload_n hx hb dX4_readsGains_24 rfl (lv_at hl 0 rfl) ?_
            refine x_get (v := .int (nI (cY cd))) hx hb hts hinX4 hown hK hP 22 (by decide) rfl rfl 1 (by decide) (hts _ (List.mem_of_getElem? (i := 2) rfl)) (congrArg (fun z => some (Value.int z)) h221) dX4_readsGains_25 ?_
            refine lv_icmp_ge (tgt := 68) hx hb dX4_readsGains_28 (by decide) (fun hc => absurd hc (nI_ge (by omega) (by omega))) (fun _ => ?_)
            refine lv_aload_n hx hb dX4_readsGains_31 rfl (lv_at hl 0 rfl) ?_
            refine x_get (v := .ref (ad 23)) hx hb hts hinX4 hown hK hP 22 (by decide) rfl rfl 3 (by decide) (hts _ (List.mem_of_getElem? (i := 3) rfl)) rfl dX4_readsGains_32 ?_
            refine lv_iload_n hx hb dX4_readsGains_35 rfl (lv_at hl 2 rfl) ?_
            refine x_aald (v := .ref (ad (24 + cv))) hx hb hK hP 23 3 (by decide) rfl rfl rfl cv rfl (by omega) (by decide) (if_pos_rf (by omega)) dX4_readsGains_36 ?_
            refine lv_iload_n hx hb dX4_readsGains_37 rfl (lv_at hl 3 rfl) ?_
            refine lv_aload_n hx hb dX4_readsGains_38 rfl (lv_at hl 1 rfl) ?_
            refine lv_bipush (v := 48) hx hb dX4_readsGains_39 (by decide +kernel) ?_
            refine lv_bipush (v := 57) hx hb dX4_readsGains_41 (by decide +kernel) ?_
            refine x_calli (x_runV (As := [.int 48, .int 57]) (rest := [.int (nI y), .ref (ad (24 + cv))]) hF (c3_takesDigit hI T q (4 + cv * (cY cd + 1) + y) hTq hTp hA.1.le hq60 48 57) (cwV 2 hts gX4_readsGains_X3_takesDigit rfl rfl rfl (by decide +kernel) ⟨Nat.le_of_ble_eq_true rfl, Nat.le_of_ble_eq_true rfl⟩) hK hP (by decide) rfl rfl rfl hl.1 rfl (Nat.le_of_ble_eq_true rfl) dX4_readsGains_43 ⟨Nat.zero_le _, Nat.zero_le _⟩) hS hAd (fun r43 S43 H locs hw hP _ hS => ?_)
            obtain ⟨hw, eS43⟩ := hw
            by_cases q43 : tko q (4 + cv * (cY cd + 1) + y) (T 11 (4 + cv * (cY cd + 1) + y)) 48 57 = true
            · have eS43 := eS43.trans (if_pos q43)
              rw [eS43] at hP
              have hw : r43 = T 11 (4 + cv * (cY cd + 1) + y) - 48 := hw.trans (if_pos q43)
              subst hw
              have hA43 : tAt cd q (4 + cv * (cY cd + 1) + (y + 1)) (nyp (cC cd) (cY cd) cv (y + 1)) := by rw [← nx_nyp]; exact hA.step (tko_t q43).1 (by rw [okp4, ← hcT _ (tko_t q43).1]; exact (tko_t q43).2)
              have hd := dg_ok (cd := cd) (t := 4 + cv * (cY cd + 1) + y) (b := 9) (by decide) (by rw [← hcT _ (tko_t q43).1]; exact (tko_t q43).2)
              rw [hcT _ (tko_t q43).1, hd.2.2]
              refine x_iast hx hb hK hI hAd hP hS (24 + cv) 0 (by omega) (cLy_gain24 (by omega)) rfl y rfl (by omega) (by decide) dX4_readsGains_46 (fun H locs hP hS => ?_)
              refine lv_aload_n hx hb dX4_readsGains_47 rfl (lv_at hl 0 rfl) ?_
              refine x_get (v := .ref (ad 23)) hx hb hts hinX4 hown hK hP 22 (by decide) rfl rfl 3 (by decide) (hts _ (List.mem_of_getElem? (i := 3) rfl)) rfl dX4_readsGains_48 ?_
              refine lv_iload_n hx hb dX4_readsGains_51 rfl (lv_at hl 2 rfl) ?_
              refine x_aald (v := .ref (ad (24 + cv))) hx hb hK hP 23 3 (by decide) rfl rfl rfl cv rfl (by omega) (by decide) (if_pos_rf (by omega)) dX4_readsGains_52 ?_
              refine lv_iload_n hx hb dX4_readsGains_53 rfl (lv_at hl 3 rfl) ?_
              refine x_iald (v := nI (dg cd (4 + cv * (cY cd + 1) + y))) hx hb hK hP (24 + cv) 0 (by omega) (cLy_gain24 (by omega) _) rfl y rfl (by omega) (by decide) (su_at _ _ _ _) dX4_readsGains_54 ?_
              refine lv_bipush (v := (-9)) hx hb dX4_readsGains_55 (by decide +kernel) ?_
              refine lv_icmp_ne (tgt := 62) hx hb dX4_readsGains_57 (by decide) (fun _ => ?_) (fun hc => absurd hc (nI_ne9 (by omega)))
              refine lv_iinc (v := nI (y + 1)) (lv' := [(3, .int (nI (y + 1))), (0, .ref (ad 22)), (1, .ref (ad 10)), (2, .int (nI cv))]) hx hb dX4_readsGains_62 hl (k := 3) rfl (nI_1 _) (by decide) rfl (fun ls hl => ?_)
              refine lv_goto (tgt := 23) hx hb dX4_readsGains_65 (by decide) ?_
              exact ih2 (y + 1) _ (by omega) hA43 (g_10 (by omega) hT10) (g_frm (by omega) hTf) (fun c' y' h1 h2 => by rw [g_old (by omega)]; exact hg c' y' h1 h2) (fun y' h1 => by rw [g_new]; rcases Nat.lt_or_ge y' y with z | z; rw [upd_off (by omega)]; exact hg2 y' z; rw [show y' = y by omega, upd_at]; exact ⟨rfl, hd.1⟩) H locs ls hP hS (lv_sub hl [1, 2, 3, 0] rfl)
            · have eS43 := eS43.trans (if_neg q43)
              rw [eS43] at hP
              have hw : r43 = -9 := hw.trans (if_neg q43)
              subst hw
              have hB := hA.bad (fun z => tko_f q43 ⟨z.1, by have z2 := z.2; rw [okp4, ← hcT _ z.1] at z2; exact z2⟩) (fun _ s hs z => by simp at z)
              refine x_iast hx hb hK hI hAd hP hS (24 + cv) 0 (by omega) (cLy_gain24 (by omega)) rfl y rfl (by omega) (by decide) dX4_readsGains_46 (fun H locs hP hS => ?_)
              refine lv_aload_n hx hb dX4_readsGains_47 rfl (lv_at hl 0 rfl) ?_
              refine x_get (v := .ref (ad 23)) hx hb hts hinX4 hown hK hP 22 (by decide) rfl rfl 3 (by decide) (hts _ (List.mem_of_getElem? (i := 3) rfl)) rfl dX4_readsGains_48 ?_
              refine lv_iload_n hx hb dX4_readsGains_51 rfl (lv_at hl 2 rfl) ?_
              refine x_aald (v := .ref (ad (24 + cv))) hx hb hK hP 23 3 (by decide) rfl rfl rfl cv rfl (by omega) (by decide) (if_pos_rf (by omega)) dX4_readsGains_52 ?_
              refine lv_iload_n hx hb dX4_readsGains_53 rfl (lv_at hl 3 rfl) ?_
              refine x_iald (v := (-9)) hx hb hK hP (24 + cv) 0 (by omega) (cLy_gain24 (by omega) _) rfl y rfl (by omega) (by decide) (su_at _ _ _ _) dX4_readsGains_54 ?_
              refine lv_bipush (v := (-9)) hx hb dX4_readsGains_55 (by decide +kernel) ?_
              refine lv_icmp_ne (tgt := 62) hx hb dX4_readsGains_57 (by decide) (fun hc => absurd (by decide) hc) (fun _ => ?_)
              refine lv_iconst (v := 0) hx hb dX4_readsGains_60 (by decide +kernel) ?_
              refine x_zret hx hb hr hlocks hP hS dX4_readsGains_61 (Or.inl rfl) ?_
              exact Or.inr ⟨rfl, _, hB, (congrFun (su_ne (by omega)) 2).trans hTp, fun k h1 h2 => (su_ne (by omega)).trans (hTf k h1 (by omega))⟩
        exact L23 (cY cd) 0 _ (Nat.zero_add _) (by rw [nyp_in (by omega)]; exact hA13) (by rw [su_self, hT10, upd_upd, show 4 + cv * (cY cd + 1) + 0 = 3 + cv * (cY cd + 1) + 1 by omega]) (fun k h1 h2 => (su_ne h1).trans (hTf k h1 h2)) (fun c' y' h1 h2 => by rw [su_ne (by omega)]; exact hg c' y' h1 h2) (fun y' h1 => absurd h1 (Nat.not_lt_zero _)) H locs ls hP hS (lv_sub hl [1, 2, 3, 0] rfl)
      · have eS13 := eS13.trans (if_neg q13)
        rw [eS13] at hP
        have hw : r13 = 0 := hw.trans (if_neg q13)
        subst hw
        have hB := hA.bad (fun z => tko_f q13 ⟨z.1, by have z2 := z.2; rw [okp3, ← hcT _ z.1] at z2; exact z2⟩) (fun _ s hs z => by simp at z)
        refine lv_if_ne (tgt := 21) hx hb dX4_readsGains_16 (by decide) (fun hc => absurd (by decide) hc) (fun _ => ?_)
        refine lv_iconst (v := 0) hx hb dX4_readsGains_19 (by decide +kernel) ?_
        refine x_zret hx hb hr hlocks hP hS dX4_readsGains_20 (Or.inl rfl) ?_
        exact Or.inr ⟨rfl, _, hB, hTp, fun k h1 h2 => hTf k h1 (by omega)⟩
  refine lv_iconst (v := 0) hx hb dX4_readsGains_0 (by decide +kernel) ?_
  refine lv_istore_n (lv' := [(2, .int 0), (0, .ref (ad 22)), (1, .ref (ad 10))]) hx hb dX4_readsGains_1 rfl hl (by decide) rfl (fun ls hl => ?_)
  exact L2 (cC cd) 0 S (Nat.zero_add _) (by rw [nxp_in (by omega), Nat.zero_mul]; exact hA0) (by rw [Nat.zero_mul, ← hp, upd_same]) (fun _ _ _ => rfl) (fun c' y' h1 => absurd h1 (Nat.not_lt_zero _)) _ _ ls hP hS (lv_sub hl [1, 2, 0] rfl)

end C7
