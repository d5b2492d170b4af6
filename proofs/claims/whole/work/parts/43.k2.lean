section K2
variable {l : Launch} {dC : Nat → ClassId} {dI : Nat → Nat → Nat} {cI cZ cS cG : ClassId} {ad bd : Nat → Nat}
/-- a row of zeros; a row of rows -/
abbrev zI (c : ClassId) (n : Nat) : va_E := .inl (c, n, .inl (fun _ => 0))
abbrev zG (c : ClassId) (r : Nat → Nat) : va_E := .inl (c, 4, .inr (.inr (.inr (.inr (fun i => if i < 4 then some (r i) else none)))))
set_option maxHeartbeats 4000000 in
set_option maxRecDepth 100000 in
theorem cs_fromTheStart (hI : xI 3 ad) (S : xSt) (v : Int32) : xMv l yX1_fromTheStart wsX1_fromTheStart ({ frames := 0, cells := 0, slots := 0, locals := 0 }) (dC, dI) vwCl (tyl cI cZ cS cG) (sLy cI ad) 3 ad [.ref (ad 0), .int v] S (fun S' => S' = sr S 2 (frG v (S 2))) := by
  refine xM_of (cc := cX1_fromTheStart) (nL := 3) (ret := none) (by decide) rfl (Nat.le_of_ble_eq_true rfl) ?_
  intro p e s m below meth c ls B hl hK hP
  obtain ⟨hx, hb, hml, hown, hts, hr, hlocks⟩ := B
  have hl : lv_has ls 3 [(0, .ref (ad 0)), (1, .int v)] := hl
  have hS : va_S (xA 3 ad) s.heap s.heap [] := va_S.rf
  have hAd : ∀ k, k < 3 → xA 3 ad (ad k) := xA_in
  have hinX1 : ∀ w ∈ wsX10, w ∈ wsX1_fromTheStart := fun _ h => List.mem_cons_of_mem _ (List.mem_append_right _ h)
  have hF : CallFix p m c cX1_fromTheStart 3 s _ wsX1_fromTheStart RX1 := ⟨hx, hb, hml, hown, hts⟩
  have L2 : ∀ (n : Nat) (i : Nat) (hi : i + n = 5) (H : Heap) (locs : List Loc) (ls : Array Slot), va_P (dC, dI) vwCl (xW (sLy cI ad) 3 ad (sr S 2 (fil (fun s => if v >>> (nI s &&& 31) &&& 1 = 1 then 0 else 6) (S 2) i))) H → va_S (xA 3 ad) s.heap H locs → lv_has ls 3 [(0, .ref (ad 0)), (1, .int v), (2, .int (nI i))] → W p l e ({ frames := 0, cells := 0, slots := 0, locals := 0 }) s m ([.ref (ad 0), .int v] : List Value).toArray below meth c H locs 0 0 (MQ below (xQv (dC, dI) vwCl (sLy cI ad) 3 ad (fun S' => S' = sr S 2 (frG v (S 2)))) ([.ref (ad 0), .int v] : List Value).toArray s 0 0 (xA 3 ad)) (F0 m 2 ls []) := by
    intro n
    induction n with
    | zero =>
      intro i hi H locs ls hP hS hl
      refine lv_iload_n hx hb dX1_fromTheStart_2 rfl (lv_at hl 2 rfl) ?_
      refine lv_iconst (v := 5) hx hb dX1_fromTheStart_3 (by decide +kernel) ?_
      refine lv_icmp_ge (tgt := 34) hx hb dX1_fromTheStart_4 (by decide) (fun _ => ?_) (fun hc => absurd (nI_le (a := 5) (by omega) (by omega)) hc)
      refine x_vret hx hb hr hlocks hP hS dX1_fromTheStart_34 ?_
      exact (by rw [show i = 5 by omega]; rfl)
    | succ n ih =>
      intro i hi H locs ls hP hS hl
      refine lv_iload_n hx hb dX1_fromTheStart_2 rfl (lv_at hl 2 rfl) ?_
      refine lv_iconst (v := 5) hx hb dX1_fromTheStart_3 (by decide +kernel) ?_
      refine lv_icmp_ge (tgt := 34) hx hb dX1_fromTheStart_4 (by decide) (fun hc => absurd hc (nI_ge (b := 5) (by omega) (by omega))) (fun _ => ?_)
      refine lv_aload_n hx hb dX1_fromTheStart_7 rfl (lv_at hl 0 rfl) ?_
      refine x_get (v := .ref (ad 2)) hx hb hts hinX1 hown hK hP 0 (by decide) rfl rfl 1 (by decide) (hts _ (List.mem_of_getElem? (i := 1) rfl)) rfl dX1_fromTheStart_8 ?_
      refine lv_iload_n hx hb dX1_fromTheStart_11 rfl (lv_at hl 2 rfl) ?_
      refine lv_iload_n hx hb dX1_fromTheStart_12 rfl (lv_at hl 1 rfl) ?_
      refine lv_iload_n hx hb dX1_fromTheStart_13 rfl (lv_at hl 2 rfl) ?_
      refine lv_ishr hx hb dX1_fromTheStart_14 ?_
      refine lv_iconst (v := 1) hx hb dX1_fromTheStart_15 (by decide +kernel) ?_
      refine lv_iand hx hb dX1_fromTheStart_16 ?_
      refine lv_iconst (v := 1) hx hb dX1_fromTheStart_17 (by decide +kernel) ?_
      refine lv_icmp_ne (tgt := 25) hx hb dX1_fromTheStart_18 (by decide) (fun c18 => ?_) (fun c18 => ?_)
      · refine lv_bipush (v := 6) hx hb dX1_fromTheStart_25 (by decide +kernel) ?_
        refine x_iast hx hb hK hI hAd hP hS 2 0 (by decide) (fun _ => rfl) rfl i rfl (by omega) (by decide) dX1_fromTheStart_27 (fun H locs hP hS => ?_)
        refine lv_iinc (v := nI (i + 1)) (lv' := [(2, .int (nI (i + 1))), (0, .ref (ad 0)), (1, .int v)]) hx hb dX1_fromTheStart_28 hl (k := 2) rfl (nI_1 _) (by decide) rfl (fun ls hl => ?_)
        refine lv_goto (tgt := 2) hx hb dX1_fromTheStart_31 (by decide) ?_
        have eST : (su (sr S 2 (fil (fun s => if v >>> (nI s &&& 31) &&& 1 = 1 then 0 else 6) (S 2) i)) 2 i 6) = (sr S 2 (fil (fun s => if v >>> (nI s &&& 31) &&& 1 = 1 then 0 else 6) (S 2) (i + 1))) := su_fil (by simp [c18])
        rw [eST] at hP
        exact ih (i + 1) (by omega) H locs ls hP hS (lv_sub hl [1, 2, 0] rfl)
      · refine lv_iconst (v := 0) hx hb dX1_fromTheStart_21 (by decide +kernel) ?_
        refine lv_goto (tgt := 27) hx hb dX1_fromTheStart_22 (by decide) ?_
        refine x_iast hx hb hK hI hAd hP hS 2 0 (by decide) (fun _ => rfl) rfl i rfl (by omega) (by decide) dX1_fromTheStart_27 (fun H locs hP hS => ?_)
        refine lv_iinc (v := nI (i + 1)) (lv' := [(2, .int (nI (i + 1))), (0, .ref (ad 0)), (1, .int v)]) hx hb dX1_fromTheStart_28 hl (k := 2) rfl (nI_1 _) (by decide) rfl (fun ls hl => ?_)
        refine lv_goto (tgt := 2) hx hb dX1_fromTheStart_31 (by decide) ?_
        have eST : (su (sr S 2 (fil (fun s => if v >>> (nI s &&& 31) &&& 1 = 1 then 0 else 6) (S 2) i)) 2 i 0) = (sr S 2 (fil (fun s => if v >>> (nI s &&& 31) &&& 1 = 1 then 0 else 6) (S 2) (i + 1))) := su_fil (by simp [c18])
        rw [eST] at hP
        exact ih (i + 1) (by omega) H locs ls hP hS (lv_sub hl [1, 2, 0] rfl)
  refine lv_iconst (v := 0) hx hb dX1_fromTheStart_0 (by decide +kernel) ?_
  refine lv_istore_n (lv' := [(2, .int 0), (0, .ref (ad 0)), (1, .int v)]) hx hb dX1_fromTheStart_1 rfl hl (by decide) rfl (fun ls hl => ?_)
  have hP : va_P (dC, dI) vwCl (xW (sLy cI ad) 3 ad (sr S 2 (fil (fun s => if v >>> (nI s &&& 31) &&& 1 = 1 then 0 else 6) (S 2) 0))) s.heap := by rw [fil_0, sr_same]; exact hP
  exact L2 5 0 rfl _ _ ls hP hS (lv_sub hl [1, 2, 0] rfl)

set_option maxHeartbeats 8000000 in
set_option maxRecDepth 100000 in
theorem kX2_init (h0 sz : Nat) : Met l yX2_init wsX2_init ({ frames := 1, cells := 1, slots := 60, locals := 40 }) (va_Pc [.ref h0] (fun U => U.heap.size = sz ∧ va_P (dC, dI) vwCl [(h0, .inr (2, [.null, .int 0, .int 0, .int 0]))] U.heap ∧ va_K (dC, dI) vwCl (tyl cI cZ cS cG) U ∧ va_D (fun _ => True) [(h0, .inr (2, [.null, .int 0, .int 0, .int 0]))])) (va_Qv (fun _ : Nat → Nat => True) (fun u t => va_P (dC, dI) vwCl [(h0, .inr (2, [.ref (u 0), .int 0, .int 0, .int 0])), (u 0, zI cI 60)] t.heap ∧ va_D (va_A [(h0, .inr (2, [.null, .int 0, .int 0, .int 0]))] sz) [(h0, .inr (2, [.ref (u 0), .int 0, .int 0, .int 0])), (u 0, zI cI 60)]) (va_A [(h0, .inr (2, [.null, .int 0, .int 0, .int 0]))] sz)) 1 60 (va_A [(h0, .inr (2, [.null, .int 0, .int 0, .int 0]))] sz) := by
  refine Met.ofW (cc := cX2_init) (maxL := 1) (ret := none) (by decide) rfl ?_
  intro p e s m args below meth c s₁ B hml hv
  obtain ⟨rfl, hsz, hP, hK, hD0⟩ := hv
  have hx := B.exec
  have hb := B.bytes
  have hr := B.returns
  have hts := atoms_spec (ws := wsX2_init) B.pre
  have hown : s.vm.findClass RX2 = some m.cls := findClass_of_methodNamed B.named
  have hlocks := B.notSynchronized
  have hin : meth.name = "<init>" := (name_of_methodNamed B.named B.method).1
  subst hsz
  have hD := hD0.self (sz := s.heap.size)
  generalize hAe : va_A [(h0, .inr (2, [.null, .int 0, .int 0, .int 0]))] s.heap.size = A at hD ⊢
  have hA : ∀ q : Nat, s.heap.size ≤ q → A q := fun q h => by rw [← hAe]; exact Or.inr h
  have hS : va_S A s.heap s.heap [] := va_S.rf
  have hP : va_P (dC, dI) vwCl [(h0, .inr (2, [.null, .int 0, .int 0, .int 0]))] s.heap := hP
  have hl := lv_entry ([.ref h0]) (n := 1) (Nat.le_of_ble_eq_true rfl)
  rw [lg_entry_eq]
  generalize (lg_sl ([.ref h0]) ++ List.replicate (1 - (lg_sl ([.ref h0])).length) Slot.unset).toArray = ls at hl ⊢
  have hl : lv_has ls 1 [(0, .ref h0)] := hl
  have hinX2 : ∀ w ∈ wsX20, w ∈ wsX2_init := fun _ h => List.mem_cons_of_mem _ (List.mem_append_right _ h)
  refine lv_aload_n hx hb dX2_init_0 rfl (lv_at hl 0 rfl) ?_
  refine W.objInit hx hb hown (hts _ (List.mem_of_getElem? (i := 1) rfl)) (hts _ (List.mem_of_getElem? (i := 2) rfl)) (hts _ (List.mem_of_getElem? (i := 3) rfl)) rfl (by rw [hml]; exact hl.1) rfl dX2_init_1 (Nat.le_of_ble_eq_true rfl) (Nat.le_of_ble_eq_true rfl) ?_
  refine W.eq (g2 := F0 m 4 ls []) rfl ?_
  refine lv_aload_n hx hb dX2_init_4 rfl (lv_at hl 0 rfl) ?_
  refine lv_bipush (v := 60) hx hb dX2_init_5 (by decide +kernel) ?_
  refine x_newi (N' := 60) hx hb (hts _ (List.mem_of_getElem? (i := 4) rfl)) hK hP hD hS hA (by decide +kernel) (by decide +kernel) (by decide) (Nat.le_of_ble_eq_true rfl) (Nat.le_of_ble_eq_true rfl) dX2_init_7 (fun q7 H hP hD hS => ?_)
  have hP : va_P (dC, dI) vwCl [(h0, .inr (2, [.null, .int 0, .int 0, .int 0])), (q7, zI cI 60)] H := hP
  have hD : va_D A [(h0, .inr (2, [.null, .int 0, .int 0, .int 0])), (q7, zI cI 60)] := hD
  refine W.widen (k := 1) (n := 60) (by omega) (by omega) ?_
  refine va_putF (D := (dC, dI)) (ci := 2) (v := .ref q7) (ty := .array .int) (C := RX2) (T := TX2) (N := 4) hx hb hts hinX2 tyX2 tyX2_ok nmX2 hown hK hP hD hS 0 rfl rfl 0 (by decide) (hts _ (List.mem_of_getElem? (i := 5) rfl)) (fun _ h9 => h9) rfl hin rfl (by decide +kernel) rfl rfl (Nat.le_of_ble_eq_true rfl) dX2_init_9 (fun H locs hP hD hS => ?_)
  have hP : va_P (dC, dI) vwCl [(h0, .inr (2, [.ref q7, .int 0, .int 0, .int 0])), (q7, zI cI 60)] H := hP
  have hD : va_D A [(h0, .inr (2, [.ref q7, .int 0, .int 0, .int 0])), (q7, zI cI 60)] := hD
  refine lv_aload_n hx hb dX2_init_12 rfl (lv_at hl 0 rfl) ?_
  refine lv_iconst (v := 0) hx hb dX2_init_13 (by decide +kernel) ?_
  refine va_put (D := (dC, dI)) (ci := 2) (v := .int 0) (ty := .boolean) (C := RX2) (T := TX2) (N := 4) hx hb hts hinX2 tyX2 tyX2_ok nmX2 hown hK hP hD hS 0 rfl rfl 1 (by decide) (hts _ (List.mem_of_getElem? (i := 6) rfl)) (fun _ h9 => h9) rfl (by decide +kernel) (by decide +kernel) rfl (Nat.le_of_ble_eq_true rfl) dX2_init_14 (fun H locs hP hD hS => ?_)
  have hP : va_P (dC, dI) vwCl [(h0, .inr (2, [.ref q7, .int 0, .int 0, .int 0])), (q7, zI cI 60)] H := hP
  have hD : va_D A [(h0, .inr (2, [.ref q7, .int 0, .int 0, .int 0])), (q7, zI cI 60)] := hD
  refine lv_aload_n hx hb dX2_init_17 rfl (lv_at hl 0 rfl) ?_
  refine lv_iconst (v := 0) hx hb dX2_init_18 (by decide +kernel) ?_
  refine va_put (D := (dC, dI)) (ci := 2) (v := .int 0) (ty := .int) (C := RX2) (T := TX2) (N := 4) hx hb hts hinX2 tyX2 tyX2_ok nmX2 hown hK hP hD hS 0 rfl rfl 2 (by decide) (hts _ (List.mem_of_getElem? (i := 7) rfl)) (fun _ h9 => h9) rfl (by decide +kernel) rfl rfl (Nat.le_of_ble_eq_true rfl) dX2_init_19 (fun H locs hP hD hS => ?_)
  have hP : va_P (dC, dI) vwCl [(h0, .inr (2, [.ref q7, .int 0, .int 0, .int 0])), (q7, zI cI 60)] H := hP
  have hD : va_D A [(h0, .inr (2, [.ref q7, .int 0, .int 0, .int 0])), (q7, zI cI 60)] := hD
  refine lv_aload_n hx hb dX2_init_22 rfl (lv_at hl 0 rfl) ?_
  refine lv_iconst (v := 0) hx hb dX2_init_23 (by decide +kernel) ?_
  refine va_put (D := (dC, dI)) (ci := 2) (v := .int 0) (ty := .int) (C := RX2) (T := TX2) (N := 4) hx hb hts hinX2 tyX2 tyX2_ok nmX2 hown hK hP hD hS 0 rfl rfl 3 (by decide) (hts _ (List.mem_of_getElem? (i := 8) rfl)) (fun _ h9 => h9) rfl (by decide +kernel) rfl rfl (Nat.le_of_ble_eq_true rfl) dX2_init_24 (fun H locs hP hD hS => ?_)
  have hP : va_P (dC, dI) vwCl [(h0, .inr (2, [.ref q7, .int 0, .int 0, .int 0])), (q7, zI cI 60)] H := hP
  have hD : va_D A [(h0, .inr (2, [.ref q7, .int 0, .int 0, .int 0])), (q7, zI cI 60)] := hD
  exact W.vret hx hb hr (fun t ht hW => ⟨⟨fun k => match k with  | _ => q7, rfl, trivial, by rw [ht]; exact hP, hD⟩, hS.F ht⟩) hS.2.2 dX2_init_27

set_option maxHeartbeats 8000000 in
set_option maxRecDepth 100000 in
theorem kX3_init (h0 sz : Nat) : Met l yX3_init wsX3_init ({ frames := 1, cells := 1, slots := 60, locals := 40 }) (va_Pc [.ref h0] (fun U => U.heap.size = sz ∧ va_P (dC, dI) vwCl [(h0, .inr (3, [.null, .int 0, .int 0]))] U.heap ∧ va_K (dC, dI) vwCl (tyl cI cZ cS cG) U ∧ va_D (fun _ => True) [(h0, .inr (3, [.null, .int 0, .int 0]))])) (va_Qv (fun _ : Nat → Nat => True) (fun u t => va_P (dC, dI) vwCl [(h0, .inr (3, [.ref (u 0), .int 0, .int 0])), (u 0, zI cI 60)] t.heap ∧ va_D (va_A [(h0, .inr (3, [.null, .int 0, .int 0]))] sz) [(h0, .inr (3, [.ref (u 0), .int 0, .int 0])), (u 0, zI cI 60)]) (va_A [(h0, .inr (3, [.null, .int 0, .int 0]))] sz)) 1 60 (va_A [(h0, .inr (3, [.null, .int 0, .int 0]))] sz) := by
  refine Met.ofW (cc := cX3_init) (maxL := 1) (ret := none) (by decide) rfl ?_
  intro p e s m args below meth c s₁ B hml hv
  obtain ⟨rfl, hsz, hP, hK, hD0⟩ := hv
  have hx := B.exec
  have hb := B.bytes
  have hr := B.returns
  have hts := atoms_spec (ws := wsX3_init) B.pre
  have hown : s.vm.findClass RX3 = some m.cls := findClass_of_methodNamed B.named
  have hlocks := B.notSynchronized
  have hin : meth.name = "<init>" := (name_of_methodNamed B.named B.method).1
  subst hsz
  have hD := hD0.self (sz := s.heap.size)
  generalize hAe : va_A [(h0, .inr (3, [.null, .int 0, .int 0]))] s.heap.size = A at hD ⊢
  have hA : ∀ q : Nat, s.heap.size ≤ q → A q := fun q h => by rw [← hAe]; exact Or.inr h
  have hS : va_S A s.heap s.heap [] := va_S.rf
  have hP : va_P (dC, dI) vwCl [(h0, .inr (3, [.null, .int 0, .int 0]))] s.heap := hP
  have hl := lv_entry ([.ref h0]) (n := 1) (Nat.le_of_ble_eq_true rfl)
  rw [lg_entry_eq]
  generalize (lg_sl ([.ref h0]) ++ List.replicate (1 - (lg_sl ([.ref h0])).length) Slot.unset).toArray = ls at hl ⊢
  have hl : lv_has ls 1 [(0, .ref h0)] := hl
  have hinX3 : ∀ w ∈ wsX30, w ∈ wsX3_init := fun _ h => List.mem_cons_of_mem _ (List.mem_append_right _ h)
  refine lv_aload_n hx hb dX3_init_0 rfl (lv_at hl 0 rfl) ?_
  refine W.objInit hx hb hown (hts _ (List.mem_of_getElem? (i := 1) rfl)) (hts _ (List.mem_of_getElem? (i := 2) rfl)) (hts _ (List.mem_of_getElem? (i := 3) rfl)) rfl (by rw [hml]; exact hl.1) rfl dX3_init_1 (Nat.le_of_ble_eq_true rfl) (Nat.le_of_ble_eq_true rfl) ?_
  refine W.eq (g2 := F0 m 4 ls []) rfl ?_
  refine lv_aload_n hx hb dX3_init_4 rfl (lv_at hl 0 rfl) ?_
  refine lv_bipush (v := 60) hx hb dX3_init_5 (by decide +kernel) ?_
  refine x_newi (N' := 60) hx hb (hts _ (List.mem_of_getElem? (i := 4) rfl)) hK hP hD hS hA (by decide +kernel) (by decide +kernel) (by decide) (Nat.le_of_ble_eq_true rfl) (Nat.le_of_ble_eq_true rfl) dX3_init_7 (fun q7 H hP hD hS => ?_)
  have hP : va_P (dC, dI) vwCl [(h0, .inr (3, [.null, .int 0, .int 0])), (q7, zI cI 60)] H := hP
  have hD : va_D A [(h0, .inr (3, [.null, .int 0, .int 0])), (q7, zI cI 60)] := hD
  refine W.widen (k := 1) (n := 60) (by omega) (by omega) ?_
  refine va_putF (D := (dC, dI)) (ci := 3) (v := .ref q7) (ty := .array .int) (C := RX3) (T := TX3) (N := 3) hx hb hts hinX3 tyX3 tyX3_ok nmX3 hown hK hP hD hS 0 rfl rfl 0 (by decide) (hts _ (List.mem_of_getElem? (i := 5) rfl)) (fun _ h9 => h9) rfl hin rfl (by decide +kernel) rfl rfl (Nat.le_of_ble_eq_true rfl) dX3_init_9 (fun H locs hP hD hS => ?_)
  have hP : va_P (dC, dI) vwCl [(h0, .inr (3, [.ref q7, .int 0, .int 0])), (q7, zI cI 60)] H := hP
  have hD : va_D A [(h0, .inr (3, [.ref q7, .int 0, .int 0])), (q7, zI cI 60)] := hD
  refine lv_aload_n hx hb dX3_init_12 rfl (lv_at hl 0 rfl) ?_
  refine lv_iconst (v := 0) hx hb dX3_init_13 (by decide +kernel) ?_
  refine va_put (D := (dC, dI)) (ci := 3) (v := .int 0) (ty := .int) (C := RX3) (T := TX3) (N := 3) hx hb hts hinX3 tyX3 tyX3_ok nmX3 hown hK hP hD hS 0 rfl rfl 1 (by decide) (hts _ (List.mem_of_getElem? (i := 6) rfl)) (fun _ h9 => h9) rfl (by decide +kernel) rfl rfl (Nat.le_of_ble_eq_true rfl) dX3_init_14 (fun H locs hP hD hS => ?_)
  have hP : va_P (dC, dI) vwCl [(h0, .inr (3, [.ref q7, .int 0, .int 0])), (q7, zI cI 60)] H := hP
  have hD : va_D A [(h0, .inr (3, [.ref q7, .int 0, .int 0])), (q7, zI cI 60)] := hD
  refine lv_aload_n hx hb dX3_init_17 rfl (lv_at hl 0 rfl) ?_
  refine lv_iconst (v := 0) hx hb dX3_init_18 (by decide +kernel) ?_
  refine va_put (D := (dC, dI)) (ci := 3) (v := .int 0) (ty := .int) (C := RX3) (T := TX3) (N := 3) hx hb hts hinX3 tyX3 tyX3_ok nmX3 hown hK hP hD hS 0 rfl rfl 2 (by decide) (hts _ (List.mem_of_getElem? (i := 7) rfl)) (fun _ h9 => h9) rfl (by decide +kernel) rfl rfl (Nat.le_of_ble_eq_true rfl) dX3_init_19 (fun H locs hP hD hS => ?_)
  have hP : va_P (dC, dI) vwCl [(h0, .inr (3, [.ref q7, .int 0, .int 0])), (q7, zI cI 60)] H := hP
  have hD : va_D A [(h0, .inr (3, [.ref q7, .int 0, .int 0])), (q7, zI cI 60)] := hD
  exact W.vret hx hb hr (fun t ht hW => ⟨⟨fun k => match k with  | _ => q7, rfl, trivial, by rw [ht]; exact hP, hD⟩, hS.F ht⟩) hS.2.2 dX3_init_22

set_option maxHeartbeats 8000000 in
set_option maxRecDepth 100000 in
theorem kX0_init (h0 sz : Nat) : Met l yX0_init wsX0_init ({ frames := 1, cells := 3, slots := 24, locals := 40 }) (va_Pc [.ref h0] (fun U => U.heap.size = sz ∧ va_P (dC, dI) vwCl [(h0, .inr (0, [.null, .null, .null, .int 0]))] U.heap ∧ va_K (dC, dI) vwCl (tyl cI cZ cS cG) U ∧ va_D (fun _ => True) [(h0, .inr (0, [.null, .null, .null, .int 0]))])) (va_Qv (fun _ : Nat → Nat => True) (fun u t => va_P (dC, dI) vwCl [(h0, .inr (0, [.ref (u 0), .ref (u 1), .ref (u 2), .int 0])), (u 0, zI cI 8), (u 1, zI cI 8), (u 2, zI cZ 8)] t.heap ∧ va_D (va_A [(h0, .inr (0, [.null, .null, .null, .int 0]))] sz) [(h0, .inr (0, [.ref (u 0), .ref (u 1), .ref (u 2), .int 0])), (u 0, zI cI 8), (u 1, zI cI 8), (u 2, zI cZ 8)]) (va_A [(h0, .inr (0, [.null, .null, .null, .int 0]))] sz)) 3 24 (va_A [(h0, .inr (0, [.null, .null, .null, .int 0]))] sz) := by
  refine Met.ofW (cc := cX0_init) (maxL := 1) (ret := none) (by decide) rfl ?_
  intro p e s m args below meth c s₁ B hml hv
  obtain ⟨rfl, hsz, hP, hK, hD0⟩ := hv
  have hx := B.exec
  have hb := B.bytes
  have hr := B.returns
  have hts := atoms_spec (ws := wsX0_init) B.pre
  have hown : s.vm.findClass RX0 = some m.cls := findClass_of_methodNamed B.named
  have hlocks := B.notSynchronized
  have hin : meth.name = "<init>" := (name_of_methodNamed B.named B.method).1
  subst hsz
  have hD := hD0.self (sz := s.heap.size)
  generalize hAe : va_A [(h0, .inr (0, [.null, .null, .null, .int 0]))] s.heap.size = A at hD ⊢
  have hA : ∀ q : Nat, s.heap.size ≤ q → A q := fun q h => by rw [← hAe]; exact Or.inr h
  have hS : va_S A s.heap s.heap [] := va_S.rf
  have hP : va_P (dC, dI) vwCl [(h0, .inr (0, [.null, .null, .null, .int 0]))] s.heap := hP
  have hl := lv_entry ([.ref h0]) (n := 1) (Nat.le_of_ble_eq_true rfl)
  rw [lg_entry_eq]
  generalize (lg_sl ([.ref h0]) ++ List.replicate (1 - (lg_sl ([.ref h0])).length) Slot.unset).toArray = ls at hl ⊢
  have hl : lv_has ls 1 [(0, .ref h0)] := hl
  have hinX0 : ∀ w ∈ wsX00, w ∈ wsX0_init := fun _ h => List.mem_cons_of_mem _ (List.mem_append_right _ h)
  refine lv_aload_n hx hb dX0_init_0 rfl (lv_at hl 0 rfl) ?_
  refine W.objInit hx hb hown (hts _ (List.mem_of_getElem? (i := 1) rfl)) (hts _ (List.mem_of_getElem? (i := 2) rfl)) (hts _ (List.mem_of_getElem? (i := 3) rfl)) rfl (by rw [hml]; exact hl.1) rfl dX0_init_1 (Nat.le_of_ble_eq_true rfl) (Nat.le_of_ble_eq_true rfl) ?_
  refine W.eq (g2 := F0 m 4 ls []) rfl ?_
  refine lv_aload_n hx hb dX0_init_4 rfl (lv_at hl 0 rfl) ?_
  refine lv_bipush (v := 8) hx hb dX0_init_5 (by decide +kernel) ?_
  refine x_newi (N' := 8) hx hb (hts _ (List.mem_of_getElem? (i := 4) rfl)) hK hP hD hS hA (by decide +kernel) (by decide +kernel) (by decide) (Nat.le_of_ble_eq_true rfl) (Nat.le_of_ble_eq_true rfl) dX0_init_7 (fun q7 H hP hD hS => ?_)
  have hP : va_P (dC, dI) vwCl [(h0, .inr (0, [.null, .null, .null, .int 0])), (q7, zI cI 8)] H := hP
  have hD : va_D A [(h0, .inr (0, [.null, .null, .null, .int 0])), (q7, zI cI 8)] := hD
  refine W.widen (k := 1) (n := 8) (by omega) (by omega) ?_
  refine va_putF (D := (dC, dI)) (ci := 0) (v := .ref q7) (ty := .array .int) (C := RX0) (T := TX0) (N := 4) hx hb hts hinX0 tyX0 tyX0_ok nmX0 hown hK hP hD hS 0 rfl rfl 0 (by decide) (hts _ (List.mem_of_getElem? (i := 5) rfl)) (fun _ h9 => h9) rfl hin rfl (by decide +kernel) rfl rfl (Nat.le_of_ble_eq_true rfl) dX0_init_9 (fun H locs hP hD hS => ?_)
  have hP : va_P (dC, dI) vwCl [(h0, .inr (0, [.ref q7, .null, .null, .int 0])), (q7, zI cI 8)] H := hP
  have hD : va_D A [(h0, .inr (0, [.ref q7, .null, .null, .int 0])), (q7, zI cI 8)] := hD
  refine lv_aload_n hx hb dX0_init_12 rfl (lv_at hl 0 rfl) ?_
  refine lv_bipush (v := 8) hx hb dX0_init_13 (by decide +kernel) ?_
  refine x_newi (N' := 8) hx hb (hts _ (List.mem_of_getElem? (i := 4) rfl)) hK hP hD hS hA (by decide +kernel) (by decide +kernel) (by decide) (Nat.le_of_ble_eq_true rfl) (Nat.le_of_ble_eq_true rfl) dX0_init_15 (fun q15 H hP hD hS => ?_)
  have hP : va_P (dC, dI) vwCl [(h0, .inr (0, [.ref q7, .null, .null, .int 0])), (q7, zI cI 8), (q15, zI cI 8)] H := hP
  have hD : va_D A [(h0, .inr (0, [.ref q7, .null, .null, .int 0])), (q7, zI cI 8), (q15, zI cI 8)] := hD
  refine W.widen (k := 2) (n := 16) (by omega) (by omega) ?_
  refine va_putF (D := (dC, dI)) (ci := 0) (v := .ref q15) (ty := .array .int) (C := RX0) (T := TX0) (N := 4) hx hb hts hinX0 tyX0 tyX0_ok nmX0 hown hK hP hD hS 0 rfl rfl 1 (by decide) (hts _ (List.mem_of_getElem? (i := 6) rfl)) (fun _ h9 => h9) rfl hin rfl (by decide +kernel) rfl rfl (Nat.le_of_ble_eq_true rfl) dX0_init_17 (fun H locs hP hD hS => ?_)
  have hP : va_P (dC, dI) vwCl [(h0, .inr (0, [.ref q7, .ref q15, .null, .int 0])), (q7, zI cI 8), (q15, zI cI 8)] H := hP
  have hD : va_D A [(h0, .inr (0, [.ref q7, .ref q15, .null, .int 0])), (q7, zI cI 8), (q15, zI cI 8)] := hD
  refine lv_aload_n hx hb dX0_init_20 rfl (lv_at hl 0 rfl) ?_
  refine lv_bipush (v := 8) hx hb dX0_init_21 (by decide +kernel) ?_
  refine x_newz (N' := 8) hx hb (hts _ (List.mem_of_getElem? (i := 7) rfl)) hK hP hD hS hA (by decide +kernel) (by decide +kernel) (by decide) (Nat.le_of_ble_eq_true rfl) (Nat.le_of_ble_eq_true rfl) dX0_init_23 (fun q23 H hP hD hS => ?_)
  have hP : va_P (dC, dI) vwCl [(h0, .inr (0, [.ref q7, .ref q15, .null, .int 0])), (q7, zI cI 8), (q15, zI cI 8), (q23, zI cZ 8)] H := hP
  have hD : va_D A [(h0, .inr (0, [.ref q7, .ref q15, .null, .int 0])), (q7, zI cI 8), (q15, zI cI 8), (q23, zI cZ 8)] := hD
  refine W.widen (k := 3) (n := 24) (by omega) (by omega) ?_
  refine va_putF (D := (dC, dI)) (ci := 0) (v := .ref q23) (ty := .array .boolean) (C := RX0) (T := TX0) (N := 4) hx hb hts hinX0 tyX0 tyX0_ok nmX0 hown hK hP hD hS 0 rfl rfl 2 (by decide) (hts _ (List.mem_of_getElem? (i := 8) rfl)) (fun _ h9 => h9) rfl hin rfl (by decide +kernel) rfl rfl (Nat.le_of_ble_eq_true rfl) dX0_init_25 (fun H locs hP hD hS => ?_)
  have hP : va_P (dC, dI) vwCl [(h0, .inr (0, [.ref q7, .ref q15, .ref q23, .int 0])), (q7, zI cI 8), (q15, zI cI 8), (q23, zI cZ 8)] H := hP
  have hD : va_D A [(h0, .inr (0, [.ref q7, .ref q15, .ref q23, .int 0])), (q7, zI cI 8), (q15, zI cI 8), (q23, zI cZ 8)] := hD
  refine lv_aload_n hx hb dX0_init_28 rfl (lv_at hl 0 rfl) ?_
  refine lv_iconst (v := 0) hx hb dX0_init_29 (by decide +kernel) ?_
  refine va_put (D := (dC, dI)) (ci := 0) (v := .int 0) (ty := .int) (C := RX0) (T := TX0) (N := 4) hx hb hts hinX0 tyX0 tyX0_ok nmX0 hown hK hP hD hS 0 rfl rfl 3 (by decide) (hts _ (List.mem_of_getElem? (i := 9) rfl)) (fun _ h9 => h9) rfl (by decide +kernel) rfl rfl (Nat.le_of_ble_eq_true rfl) dX0_init_30 (fun H locs hP hD hS => ?_)
  have hP : va_P (dC, dI) vwCl [(h0, .inr (0, [.ref q7, .ref q15, .ref q23, .int 0])), (q7, zI cI 8), (q15, zI cI 8), (q23, zI cZ 8)] H := hP
  have hD : va_D A [(h0, .inr (0, [.ref q7, .ref q15, .ref q23, .int 0])), (q7, zI cI 8), (q15, zI cI 8), (q23, zI cZ 8)] := hD
  exact W.vret hx hb hr (fun t ht hW => ⟨⟨fun k => match k with | 0 => q7 | 1 => q15 | _ => q23, rfl, trivial, by rw [ht]; exact hP, hD⟩, hS.F ht⟩) hS.2.2 dX0_init_33

set_option maxHeartbeats 8000000 in
set_option maxRecDepth 100000 in
theorem kX1_init (h0 sz : Nat) : Met l yX1_init wsX1_init ({ frames := 1, cells := 2, slots := 10, locals := 40 }) (va_Pc [.ref h0] (fun U => U.heap.size = sz ∧ va_P (dC, dI) vwCl [(h0, .inr (1, [.null, .null]))] U.heap ∧ va_K (dC, dI) vwCl (tyl cI cZ cS cG) U ∧ va_D (fun _ => True) [(h0, .inr (1, [.null, .null]))])) (va_Qv (fun _ : Nat → Nat => True) (fun u t => va_P (dC, dI) vwCl [(h0, .inr (1, [.ref (u 0), .ref (u 1)])), (u 0, zI cI 5), (u 1, .inl (cI, 5, .inl (frG 0 (fun _ => 0))))] t.heap ∧ va_D (va_A [(h0, .inr (1, [.null, .null]))] sz) [(h0, .inr (1, [.ref (u 0), .ref (u 1)])), (u 0, zI cI 5), (u 1, .inl (cI, 5, .inl (frG 0 (fun _ => 0))))]) (va_A [(h0, .inr (1, [.null, .null]))] sz)) 2 10 (va_A [(h0, .inr (1, [.null, .null]))] sz) := by
  refine Met.ofW (cc := cX1_init) (maxL := 1) (ret := none) (by decide) rfl ?_
  intro p e s m args below meth c s₁ B hml hv
  obtain ⟨rfl, hsz, hP, hK, hD0⟩ := hv
  have hx := B.exec
  have hb := B.bytes
  have hr := B.returns
  have hts := atoms_spec (ws := wsX1_init) B.pre
  have hown : s.vm.findClass RX1 = some m.cls := findClass_of_methodNamed B.named
  have hlocks := B.notSynchronized
  have hin : meth.name = "<init>" := (name_of_methodNamed B.named B.method).1
  subst hsz
  have hD := hD0.self (sz := s.heap.size)
  generalize hAe : va_A [(h0, .inr (1, [.null, .null]))] s.heap.size = A at hD ⊢
  have hA : ∀ q : Nat, s.heap.size ≤ q → A q := fun q h => by rw [← hAe]; exact Or.inr h
  have hS : va_S A s.heap s.heap [] := va_S.rf
  have hP : va_P (dC, dI) vwCl [(h0, .inr (1, [.null, .null]))] s.heap := hP
  have hl := lv_entry ([.ref h0]) (n := 1) (Nat.le_of_ble_eq_true rfl)
  rw [lg_entry_eq]
  generalize (lg_sl ([.ref h0]) ++ List.replicate (1 - (lg_sl ([.ref h0])).length) Slot.unset).toArray = ls at hl ⊢
  have hl : lv_has ls 1 [(0, .ref h0)] := hl
  have hinX1 : ∀ w ∈ wsX10, w ∈ wsX1_init := fun _ h => List.mem_cons_of_mem _ (List.mem_append_right _ h)
  refine lv_aload_n hx hb dX1_init_0 rfl (lv_at hl 0 rfl) ?_
  refine W.objInit hx hb hown (hts _ (List.mem_of_getElem? (i := 1) rfl)) (hts _ (List.mem_of_getElem? (i := 2) rfl)) (hts _ (List.mem_of_getElem? (i := 3) rfl)) rfl (by rw [hml]; exact hl.1) rfl dX1_init_1 (Nat.le_of_ble_eq_true rfl) (Nat.le_of_ble_eq_true rfl) ?_
  refine W.eq (g2 := F0 m 4 ls []) rfl ?_
  refine lv_aload_n hx hb dX1_init_4 rfl (lv_at hl 0 rfl) ?_
  refine lv_iconst (v := 5) hx hb dX1_init_5 (by decide +kernel) ?_
  refine x_newi (N' := 5) hx hb (hts _ (List.mem_of_getElem? (i := 4) rfl)) hK hP hD hS hA (by decide +kernel) (by decide +kernel) (by decide) (Nat.le_of_ble_eq_true rfl) (Nat.le_of_ble_eq_true rfl) dX1_init_6 (fun q6 H hP hD hS => ?_)
  have hP : va_P (dC, dI) vwCl [(h0, .inr (1, [.null, .null])), (q6, zI cI 5)] H := hP
  have hD : va_D A [(h0, .inr (1, [.null, .null])), (q6, zI cI 5)] := hD
  refine W.widen (k := 1) (n := 5) (by omega) (by omega) ?_
  refine va_putF (D := (dC, dI)) (ci := 1) (v := .ref q6) (ty := .array .int) (C := RX1) (T := TX1) (N := 2) hx hb hts hinX1 tyX1 tyX1_ok nmX1 hown hK hP hD hS 0 rfl rfl 0 (by decide) (hts _ (List.mem_of_getElem? (i := 5) rfl)) (fun _ h9 => h9) rfl hin rfl (by decide +kernel) rfl rfl (Nat.le_of_ble_eq_true rfl) dX1_init_8 (fun H locs hP hD hS => ?_)
  have hP : va_P (dC, dI) vwCl [(h0, .inr (1, [.ref q6, .null])), (q6, zI cI 5)] H := hP
  have hD : va_D A [(h0, .inr (1, [.ref q6, .null])), (q6, zI cI 5)] := hD
  refine lv_aload_n hx hb dX1_init_11 rfl (lv_at hl 0 rfl) ?_
  refine lv_iconst (v := 5) hx hb dX1_init_12 (by decide +kernel) ?_
  refine x_newi (N' := 5) hx hb (hts _ (List.mem_of_getElem? (i := 4) rfl)) hK hP hD hS hA (by decide +kernel) (by decide +kernel) (by decide) (Nat.le_of_ble_eq_true rfl) (Nat.le_of_ble_eq_true rfl) dX1_init_13 (fun q13 H hP hD hS => ?_)
  have hP : va_P (dC, dI) vwCl [(h0, .inr (1, [.ref q6, .null])), (q6, zI cI 5), (q13, zI cI 5)] H := hP
  have hD : va_D A [(h0, .inr (1, [.ref q6, .null])), (q6, zI cI 5), (q13, zI cI 5)] := hD
  refine W.widen (k := 2) (n := 10) (by omega) (by omega) ?_
  refine va_putF (D := (dC, dI)) (ci := 1) (v := .ref q13) (ty := .array .int) (C := RX1) (T := TX1) (N := 2) hx hb hts hinX1 tyX1 tyX1_ok nmX1 hown hK hP hD hS 0 rfl rfl 1 (by decide) (hts _ (List.mem_of_getElem? (i := 6) rfl)) (fun _ h9 => h9) rfl hin rfl (by decide +kernel) rfl rfl (Nat.le_of_ble_eq_true rfl) dX1_init_15 (fun H locs hP hD hS => ?_)
  have hP : va_P (dC, dI) vwCl [(h0, .inr (1, [.ref q6, .ref q13])), (q6, zI cI 5), (q13, zI cI 5)] H := hP
  have hD : va_D A [(h0, .inr (1, [.ref q6, .ref q13])), (q6, zI cI 5), (q13, zI cI 5)] := hD
  refine lv_aload_n hx hb dX1_init_18 rfl (lv_at hl 0 rfl) ?_
  refine lv_iconst (v := 0) hx hb dX1_init_19 (by decide +kernel) ?_
  have hP := hP
  obtain ⟨ad, had⟩ : ∃ z : Nat → Nat, z = (fun k => match k with | 0 => h0 | 1 => q6 | _ => q13) := ⟨_, rfl⟩
  have hP : va_P (dC, dI) vwCl (xW (sLy cI ad) 3 ad (fun _ _ => 0)) H := by rw [had]; exact hP
  have hD : va_D A (xW (sLy cI ad) 3 ad (fun _ _ => 0)) := by rw [had]; exact hD
  obtain ⟨hI3, hAd⟩ := xI_of_D hD
  have hl : lv_has ls 1 [(0, .ref (ad 0))] := by rw [had]; exact hl
  refine W.eq (g2 := F0 m 20 ls [.int 0, .ref (ad 0)]) (by subst had; rfl) ?_
  refine x_callv (x_runV (As := [.int 0]) (rest := []) ⟨hx, hb, hml, hown, hts⟩ (cs_fromTheStart hI3 (fun _ _ => 0) 0) (cwV 1 hts gX1_init_X1_fromTheStart rfl rfl rfl (by decide +kernel) ⟨Nat.le_of_ble_eq_true rfl, Nat.le_of_ble_eq_true rfl⟩) hK hP (by decide) rfl rfl rfl hl.1 rfl (Nat.le_of_ble_eq_true rfl) dX1_init_20 ⟨Nat.le_of_ble_eq_true rfl, Nat.le_of_ble_eq_true rfl⟩) hS hAd (fun S20 H locs hw hP _ hS => ?_)
  rw [hw] at hP
  have hD := xD (ly := sLy cI ad) (sr (fun _ _ => 0) 2 (frG 0 (fun _ => 0))) hI3 hAd
  refine W.vret hx hb hr (fun t ht hW => ⟨⟨fun k => ad (k + 1), rfl, trivial, ?_, ?_⟩, hS.F ht⟩) hS.2.2 dX1_init_23
  · rw [ht]; have e0 : h0 = ad 0 := by subst had; rfl
    rw [e0]; exact hP
  · have e0 : h0 = ad 0 := by subst had; rfl
    rw [e0]; exact hD

set_option maxHeartbeats 8000000 in
set_option maxRecDepth 100000 in
theorem kX4_init (h0 sz : Nat) : Met l yX4_init wsX4_init ({ frames := 1, cells := 9, slots := 48, locals := 40 }) (va_Pc [.ref h0] (fun U => U.heap.size = sz ∧ va_P (dC, dI) vwCl [(h0, .inr (4, [.int 0, .int 0, .int 0, .null, .null, .null, .null, .null]))] U.heap ∧ va_K (dC, dI) vwCl (tyl cI cZ cS cG) U ∧ va_D (fun _ => True) [(h0, .inr (4, [.int 0, .int 0, .int 0, .null, .null, .null, .null, .null]))] ∧ va_AOA .int U)) (va_Qv (fun _ : Nat → Nat => True) (fun u t => va_P (dC, dI) vwCl [(h0, .inr (4, [.int 0, .int 0, .int 0, .ref (u 0), .ref (u 5), .ref (u 6), .ref (u 7), .ref (u 8)])), (u 0, zG cG (fun i => u (1 + i))), (u 1, zI cI 6), (u 2, zI cI 6), (u 3, zI cI 6), (u 4, zI cI 6), (u 5, zI cI 5), (u 6, zI cI 5), (u 7, zI cI 5), (u 8, zI cI 5)] t.heap ∧ va_D (va_A [(h0, .inr (4, [.int 0, .int 0, .int 0, .null, .null, .null, .null, .null]))] sz) [(h0, .inr (4, [.int 0, .int 0, .int 0, .ref (u 0), .ref (u 5), .ref (u 6), .ref (u 7), .ref (u 8)])), (u 0, zG cG (fun i => u (1 + i))), (u 1, zI cI 6), (u 2, zI cI 6), (u 3, zI cI 6), (u 4, zI cI 6), (u 5, zI cI 5), (u 6, zI cI 5), (u 7, zI cI 5), (u 8, zI cI 5)]) (va_A [(h0, .inr (4, [.int 0, .int 0, .int 0, .null, .null, .null, .null, .null]))] sz)) 9 48 (va_A [(h0, .inr (4, [.int 0, .int 0, .int 0, .null, .null, .null, .null, .null]))] sz) := by
  refine Met.ofW (cc := cX4_init) (maxL := 1) (ret := none) (by decide) rfl ?_
  intro p e s m args below meth c s₁ B hml hv
  obtain ⟨rfl, hsz, hP, hK, hD0, hOA⟩ := hv
  have hx := B.exec
  have hb := B.bytes
  have hr := B.returns
  have hts := atoms_spec (ws := wsX4_init) B.pre
  have hown : s.vm.findClass RX4 = some m.cls := findClass_of_methodNamed B.named
  have hlocks := B.notSynchronized
  have hin : meth.name = "<init>" := (name_of_methodNamed B.named B.method).1
  subst hsz
  have hD := hD0.self (sz := s.heap.size)
  generalize hAe : va_A [(h0, .inr (4, [.int 0, .int 0, .int 0, .null, .null, .null, .null, .null]))] s.heap.size = A at hD ⊢
  have hA : ∀ q : Nat, s.heap.size ≤ q → A q := fun q h => by rw [← hAe]; exact Or.inr h
  have hS : va_S A s.heap s.heap [] := va_S.rf
  have hP : va_P (dC, dI) vwCl [(h0, .inr (4, [.int 0, .int 0, .int 0, .null, .null, .null, .null, .null]))] s.heap := hP
  have hl := lv_entry ([.ref h0]) (n := 1) (Nat.le_of_ble_eq_true rfl)
  rw [lg_entry_eq]
  generalize (lg_sl ([.ref h0]) ++ List.replicate (1 - (lg_sl ([.ref h0])).length) Slot.unset).toArray = ls at hl ⊢
  have hl : lv_has ls 1 [(0, .ref h0)] := hl
  have hinX4 : ∀ w ∈ wsX40, w ∈ wsX4_init := fun _ h => List.mem_cons_of_mem _ (List.mem_append_right _ h)
  refine lv_aload_n hx hb dX4_init_0 rfl (lv_at hl 0 rfl) ?_
  refine W.objInit hx hb hown (hts _ (List.mem_of_getElem? (i := 1) rfl)) (hts _ (List.mem_of_getElem? (i := 2) rfl)) (hts _ (List.mem_of_getElem? (i := 3) rfl)) rfl (by rw [hml]; exact hl.1) rfl dX4_init_1 (Nat.le_of_ble_eq_true rfl) (Nat.le_of_ble_eq_true rfl) ?_
  refine W.eq (g2 := F0 m 4 ls []) rfl ?_
  refine lv_aload_n hx hb dX4_init_4 rfl (lv_at hl 0 rfl) ?_
  refine lv_iconst (v := 0) hx hb dX4_init_5 (by decide +kernel) ?_
  refine va_put (D := (dC, dI)) (ci := 4) (v := .int 0) (ty := .int) (C := RX4) (T := TX4) (N := 8) hx hb hts hinX4 tyX4 tyX4_ok nmX4 hown hK hP hD hS 0 rfl rfl 0 (by decide) (hts _ (List.mem_of_getElem? (i := 4) rfl)) (fun _ h9 => h9) rfl (by decide +kernel) rfl rfl (Nat.le_of_ble_eq_true rfl) dX4_init_6 (fun H locs hP hD hS => ?_)
  have hP : va_P (dC, dI) vwCl [(h0, .inr (4, [.int 0, .int 0, .int 0, .null, .null, .null, .null, .null]))] H := hP
  have hD : va_D A [(h0, .inr (4, [.int 0, .int 0, .int 0, .null, .null, .null, .null, .null]))] := hD
  refine lv_aload_n hx hb dX4_init_9 rfl (lv_at hl 0 rfl) ?_
  refine lv_iconst (v := 0) hx hb dX4_init_10 (by decide +kernel) ?_
  refine va_put (D := (dC, dI)) (ci := 4) (v := .int 0) (ty := .int) (C := RX4) (T := TX4) (N := 8) hx hb hts hinX4 tyX4 tyX4_ok nmX4 hown hK hP hD hS 0 rfl rfl 1 (by decide) (hts _ (List.mem_of_getElem? (i := 5) rfl)) (fun _ h9 => h9) rfl (by decide +kernel) rfl rfl (Nat.le_of_ble_eq_true rfl) dX4_init_11 (fun H locs hP hD hS => ?_)
  have hP : va_P (dC, dI) vwCl [(h0, .inr (4, [.int 0, .int 0, .int 0, .null, .null, .null, .null, .null]))] H := hP
  have hD : va_D A [(h0, .inr (4, [.int 0, .int 0, .int 0, .null, .null, .null, .null, .null]))] := hD
  refine lv_aload_n hx hb dX4_init_14 rfl (lv_at hl 0 rfl) ?_
  refine lv_iconst (v := 0) hx hb dX4_init_15 (by decide +kernel) ?_
  refine va_put (D := (dC, dI)) (ci := 4) (v := .int 0) (ty := .int) (C := RX4) (T := TX4) (N := 8) hx hb hts hinX4 tyX4 tyX4_ok nmX4 hown hK hP hD hS 0 rfl rfl 2 (by decide) (hts _ (List.mem_of_getElem? (i := 6) rfl)) (fun _ h9 => h9) rfl (by decide +kernel) rfl rfl (Nat.le_of_ble_eq_true rfl) dX4_init_16 (fun H locs hP hD hS => ?_)
  have hP : va_P (dC, dI) vwCl [(h0, .inr (4, [.int 0, .int 0, .int 0, .null, .null, .null, .null, .null]))] H := hP
  have hD : va_D A [(h0, .inr (4, [.int 0, .int 0, .int 0, .null, .null, .null, .null, .null]))] := hD
  refine lv_aload_n hx hb dX4_init_19 rfl (lv_at hl 0 rfl) ?_
  refine lv_iconst (v := 4) hx hb dX4_init_20 (by decide +kernel) ?_
  refine lv_bipush (v := 6) hx hb dX4_init_21 (by decide +kernel) ?_
  refine x_mna hx hb hown (hts _ (List.mem_of_getElem? (i := 7) rfl)) hOA (hts _ (List.mem_of_getElem? (i := 8) rfl)) hK hP hD hS hA (Nat.le_of_ble_eq_true rfl) (Nat.le_of_ble_eq_true rfl) dX4_init_23 (fun q23 r H hP hD hS => ?_)
  have hP : va_P (dC, dI) vwCl [(h0, .inr (4, [.int 0, .int 0, .int 0, .null, .null, .null, .null, .null])), (q23, zG cG r), (r 0, zI cI 6), (r 1, zI cI 6), (r 2, zI cI 6), (r 3, zI cI 6)] H := hP
  have hD : va_D A [(h0, .inr (4, [.int 0, .int 0, .int 0, .null, .null, .null, .null, .null])), (q23, zG cG r), (r 0, zI cI 6), (r 1, zI cI 6), (r 2, zI cI 6), (r 3, zI cI 6)] := hD
  refine W.widen (k := 5) (n := 28) (by omega) (by omega) ?_
  refine va_putF (D := (dC, dI)) (ci := 4) (v := .ref q23) (ty := .array (.array .int)) (C := RX4) (T := TX4) (N := 8) hx hb hts hinX4 tyX4 tyX4_ok nmX4 hown hK hP hD hS 0 rfl rfl 3 (by decide) (hts _ (List.mem_of_getElem? (i := 9) rfl)) (fun _ h9 => h9) rfl hin rfl (by decide +kernel) rfl rfl (Nat.le_of_ble_eq_true rfl) dX4_init_27 (fun H locs hP hD hS => ?_)
  have hP : va_P (dC, dI) vwCl [(h0, .inr (4, [.int 0, .int 0, .int 0, .ref q23, .null, .null, .null, .null])), (q23, zG cG r), (r 0, zI cI 6), (r 1, zI cI 6), (r 2, zI cI 6), (r 3, zI cI 6)] H := hP
  have hD : va_D A [(h0, .inr (4, [.int 0, .int 0, .int 0, .ref q23, .null, .null, .null, .null])), (q23, zG cG r), (r 0, zI cI 6), (r 1, zI cI 6), (r 2, zI cI 6), (r 3, zI cI 6)] := hD
  refine lv_aload_n hx hb dX4_init_30 rfl (lv_at hl 0 rfl) ?_
  refine lv_iconst (v := 5) hx hb dX4_init_31 (by decide +kernel) ?_
  refine x_newi (N' := 5) hx hb (hts _ (List.mem_of_getElem? (i := 8) rfl)) hK hP hD hS hA (by decide +kernel) (by decide +kernel) (by decide) (Nat.le_of_ble_eq_true rfl) (Nat.le_of_ble_eq_true rfl) dX4_init_32 (fun q32 H hP hD hS => ?_)
  have hP : va_P (dC, dI) vwCl [(h0, .inr (4, [.int 0, .int 0, .int 0, .ref q23, .null, .null, .null, .null])), (q23, zG cG r), (r 0, zI cI 6), (r 1, zI cI 6), (r 2, zI cI 6), (r 3, zI cI 6), (q32, zI cI 5)] H := hP
  have hD : va_D A [(h0, .inr (4, [.int 0, .int 0, .int 0, .ref q23, .null, .null, .null, .null])), (q23, zG cG r), (r 0, zI cI 6), (r 1, zI cI 6), (r 2, zI cI 6), (r 3, zI cI 6), (q32, zI cI 5)] := hD
  refine W.widen (k := 6) (n := 33) (by omega) (by omega) ?_
  refine va_putF (D := (dC, dI)) (ci := 4) (v := .ref q32) (ty := .array .int) (C := RX4) (T := TX4) (N := 8) hx hb hts hinX4 tyX4 tyX4_ok nmX4 hown hK hP hD hS 0 rfl rfl 4 (by decide) (hts _ (List.mem_of_getElem? (i := 10) rfl)) (fun _ h9 => h9) rfl hin rfl (by decide +kernel) rfl rfl (Nat.le_of_ble_eq_true rfl) dX4_init_34 (fun H locs hP hD hS => ?_)
  have hP : va_P (dC, dI) vwCl [(h0, .inr (4, [.int 0, .int 0, .int 0, .ref q23, .ref q32, .null, .null, .null])), (q23, zG cG r), (r 0, zI cI 6), (r 1, zI cI 6), (r 2, zI cI 6), (r 3, zI cI 6), (q32, zI cI 5)] H := hP
  have hD : va_D A [(h0, .inr (4, [.int 0, .int 0, .int 0, .ref q23, .ref q32, .null, .null, .null])), (q23, zG cG r), (r 0, zI cI 6), (r 1, zI cI 6), (r 2, zI cI 6), (r 3, zI cI 6), (q32, zI cI 5)] := hD
  refine lv_aload_n hx hb dX4_init_37 rfl (lv_at hl 0 rfl) ?_
  refine lv_iconst (v := 5) hx hb dX4_init_38 (by decide +kernel) ?_
  refine x_newi (N' := 5) hx hb (hts _ (List.mem_of_getElem? (i := 8) rfl)) hK hP hD hS hA (by decide +kernel) (by decide +kernel) (by decide) (Nat.le_of_ble_eq_true rfl) (Nat.le_of_ble_eq_true rfl) dX4_init_39 (fun q39 H hP hD hS => ?_)
  have hP : va_P (dC, dI) vwCl [(h0, .inr (4, [.int 0, .int 0, .int 0, .ref q23, .ref q32, .null, .null, .null])), (q23, zG cG r), (r 0, zI cI 6), (r 1, zI cI 6), (r 2, zI cI 6), (r 3, zI cI 6), (q32, zI cI 5), (q39, zI cI 5)] H := hP
  have hD : va_D A [(h0, .inr (4, [.int 0, .int 0, .int 0, .ref q23, .ref q32, .null, .null, .null])), (q23, zG cG r), (r 0, zI cI 6), (r 1, zI cI 6), (r 2, zI cI 6), (r 3, zI cI 6), (q32, zI cI 5), (q39, zI cI 5)] := hD
  refine W.widen (k := 7) (n := 38) (by omega) (by omega) ?_
  refine va_putF (D := (dC, dI)) (ci := 4) (v := .ref q39) (ty := .array .int) (C := RX4) (T := TX4) (N := 8) hx hb hts hinX4 tyX4 tyX4_ok nmX4 hown hK hP hD hS 0 rfl rfl 5 (by decide) (hts _ (List.mem_of_getElem? (i := 11) rfl)) (fun _ h9 => h9) rfl hin rfl (by decide +kernel) rfl rfl (Nat.le_of_ble_eq_true rfl) dX4_init_41 (fun H locs hP hD hS => ?_)
  have hP : va_P (dC, dI) vwCl [(h0, .inr (4, [.int 0, .int 0, .int 0, .ref q23, .ref q32, .ref q39, .null, .null])), (q23, zG cG r), (r 0, zI cI 6), (r 1, zI cI 6), (r 2, zI cI 6), (r 3, zI cI 6), (q32, zI cI 5), (q39, zI cI 5)] H := hP
  have hD : va_D A [(h0, .inr (4, [.int 0, .int 0, .int 0, .ref q23, .ref q32, .ref q39, .null, .null])), (q23, zG cG r), (r 0, zI cI 6), (r 1, zI cI 6), (r 2, zI cI 6), (r 3, zI cI 6), (q32, zI cI 5), (q39, zI cI 5)] := hD
  refine lv_aload_n hx hb dX4_init_44 rfl (lv_at hl 0 rfl) ?_
  refine lv_iconst (v := 5) hx hb dX4_init_45 (by decide +kernel) ?_
  refine x_newi (N' := 5) hx hb (hts _ (List.mem_of_getElem? (i := 8) rfl)) hK hP hD hS hA (by decide +kernel) (by decide +kernel) (by decide) (Nat.le_of_ble_eq_true rfl) (Nat.le_of_ble_eq_true rfl) dX4_init_46 (fun q46 H hP hD hS => ?_)
  have hP : va_P (dC, dI) vwCl [(h0, .inr (4, [.int 0, .int 0, .int 0, .ref q23, .ref q32, .ref q39, .null, .null])), (q23, zG cG r), (r 0, zI cI 6), (r 1, zI cI 6), (r 2, zI cI 6), (r 3, zI cI 6), (q32, zI cI 5), (q39, zI cI 5), (q46, zI cI 5)] H := hP
  have hD : va_D A [(h0, .inr (4, [.int 0, .int 0, .int 0, .ref q23, .ref q32, .ref q39, .null, .null])), (q23, zG cG r), (r 0, zI cI 6), (r 1, zI cI 6), (r 2, zI cI 6), (r 3, zI cI 6), (q32, zI cI 5), (q39, zI cI 5), (q46, zI cI 5)] := hD
  refine W.widen (k := 8) (n := 43) (by omega) (by omega) ?_
  refine va_putF (D := (dC, dI)) (ci := 4) (v := .ref q46) (ty := .array .int) (C := RX4) (T := TX4) (N := 8) hx hb hts hinX4 tyX4 tyX4_ok nmX4 hown hK hP hD hS 0 rfl rfl 6 (by decide) (hts _ (List.mem_of_getElem? (i := 12) rfl)) (fun _ h9 => h9) rfl hin rfl (by decide +kernel) rfl rfl (Nat.le_of_ble_eq_true rfl) dX4_init_48 (fun H locs hP hD hS => ?_)
  have hP : va_P (dC, dI) vwCl [(h0, .inr (4, [.int 0, .int 0, .int 0, .ref q23, .ref q32, .ref q39, .ref q46, .null])), (q23, zG cG r), (r 0, zI cI 6), (r 1, zI cI 6), (r 2, zI cI 6), (r 3, zI cI 6), (q32, zI cI 5), (q39, zI cI 5), (q46, zI cI 5)] H := hP
  have hD : va_D A [(h0, .inr (4, [.int 0, .int 0, .int 0, .ref q23, .ref q32, .ref q39, .ref q46, .null])), (q23, zG cG r), (r 0, zI cI 6), (r 1, zI cI 6), (r 2, zI cI 6), (r 3, zI cI 6), (q32, zI cI 5), (q39, zI cI 5), (q46, zI cI 5)] := hD
  refine lv_aload_n hx hb dX4_init_51 rfl (lv_at hl 0 rfl) ?_
  refine lv_iconst (v := 5) hx hb dX4_init_52 (by decide +kernel) ?_
  refine x_newi (N' := 5) hx hb (hts _ (List.mem_of_getElem? (i := 8) rfl)) hK hP hD hS hA (by decide +kernel) (by decide +kernel) (by decide) (Nat.le_of_ble_eq_true rfl) (Nat.le_of_ble_eq_true rfl) dX4_init_53 (fun q53 H hP hD hS => ?_)
  have hP : va_P (dC, dI) vwCl [(h0, .inr (4, [.int 0, .int 0, .int 0, .ref q23, .ref q32, .ref q39, .ref q46, .null])), (q23, zG cG r), (r 0, zI cI 6), (r 1, zI cI 6), (r 2, zI cI 6), (r 3, zI cI 6), (q32, zI cI 5), (q39, zI cI 5), (q46, zI cI 5), (q53, zI cI 5)] H := hP
  have hD : va_D A [(h0, .inr (4, [.int 0, .int 0, .int 0, .ref q23, .ref q32, .ref q39, .ref q46, .null])), (q23, zG cG r), (r 0, zI cI 6), (r 1, zI cI 6), (r 2, zI cI 6), (r 3, zI cI 6), (q32, zI cI 5), (q39, zI cI 5), (q46, zI cI 5), (q53, zI cI 5)] := hD
  refine W.widen (k := 9) (n := 48) (by omega) (by omega) ?_
  refine va_putF (D := (dC, dI)) (ci := 4) (v := .ref q53) (ty := .array .int) (C := RX4) (T := TX4) (N := 8) hx hb hts hinX4 tyX4 tyX4_ok nmX4 hown hK hP hD hS 0 rfl rfl 7 (by decide) (hts _ (List.mem_of_getElem? (i := 13) rfl)) (fun _ h9 => h9) rfl hin rfl (by decide +kernel) rfl rfl (Nat.le_of_ble_eq_true rfl) dX4_init_55 (fun H locs hP hD hS => ?_)
  have hP : va_P (dC, dI) vwCl [(h0, .inr (4, [.int 0, .int 0, .int 0, .ref q23, .ref q32, .ref q39, .ref q46, .ref q53])), (q23, zG cG r), (r 0, zI cI 6), (r 1, zI cI 6), (r 2, zI cI 6), (r 3, zI cI 6), (q32, zI cI 5), (q39, zI cI 5), (q46, zI cI 5), (q53, zI cI 5)] H := hP
  have hD : va_D A [(h0, .inr (4, [.int 0, .int 0, .int 0, .ref q23, .ref q32, .ref q39, .ref q46, .ref q53])), (q23, zG cG r), (r 0, zI cI 6), (r 1, zI cI 6), (r 2, zI cI 6), (r 3, zI cI 6), (q32, zI cI 5), (q39, zI cI 5), (q46, zI cI 5), (q53, zI cI 5)] := hD
  obtain ⟨u, hu⟩ : ∃ z : Nat → Nat, z = (fun k => match k with | 0 => q23 | 1 => r 0 | 2 => r 1 | 3 => r 2 | 4 => r 3 | 5 => q32 | 6 => q39 | 7 => q46 | _ => q53) := ⟨_, rfl⟩
  have er : (fun i => if i < 4 then some (r i) else none) = (fun i => if i < 4 then some (u (1 + i)) else none) := refs_eq (fun i hi => by rw [hu]; match i, hi with | 0, _ => rfl | 1, _ => rfl | 2, _ => rfl | 3, _ => rfl)
  have hP : va_P (dC, dI) vwCl [(h0, .inr (4, [.int 0, .int 0, .int 0, .ref (u 0), .ref (u 5), .ref (u 6), .ref (u 7), .ref (u 8)])), (u 0, zG cG (fun i => u (1 + i))), (u 1, zI cI 6), (u 2, zI cI 6), (u 3, zI cI 6), (u 4, zI cI 6), (u 5, zI cI 5), (u 6, zI cI 5), (u 7, zI cI 5), (u 8, zI cI 5)] H := by show va_P (dC, dI) vwCl (_ :: (_, .inl (cG, 4, .inr (.inr (.inr (.inr (fun i => if i < 4 then some (u (1 + i)) else none)))))) :: _) H; rw [← er, hu]; exact hP
  have hD : va_D A [(h0, .inr (4, [.int 0, .int 0, .int 0, .ref (u 0), .ref (u 5), .ref (u 6), .ref (u 7), .ref (u 8)])), (u 0, zG cG (fun i => u (1 + i))), (u 1, zI cI 6), (u 2, zI cI 6), (u 3, zI cI 6), (u 4, zI cI 6), (u 5, zI cI 5), (u 6, zI cI 5), (u 7, zI cI 5), (u 8, zI cI 5)] := by show va_D A (_ :: (_, .inl (cG, 4, .inr (.inr (.inr (.inr (fun i => if i < 4 then some (u (1 + i)) else none)))))) :: _); rw [← er, hu]; exact hD
  exact W.vret hx hb hr (fun t ht hW => ⟨⟨u, rfl, trivial, by rw [ht]; exact hP, hD⟩, hS.F ht⟩) hS.2.2 dX4_init_58

end K2
