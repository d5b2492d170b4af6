/-! ===== making, where the array classes are known ahead ===== -/
section MK
variable {p : Program} {l : Launch} {e : Env} {R : Room} {s : State} {m : MethodId} {args : Array Value} {below : List Frame} {meth : Method} {c : Code} {H : Heap} {locs : List Loc} {cells slots : Nat} {Q : State → Prop}
variable {cc : ByteArray} {pc : Nat} {ls : Array Slot} {rest : List Value} {D : va_G} {cl : List vw_C} {A : Nat → Prop} {a : Nat} {ws : va_W} {H0 : Heap} {cI cZ cS cG : ClassId}
theorem x_newi (hexec : p.tables.exec = Jvm.exec) (hb : c.code = cc) (harr : (Cond.arrayClass .int).before args s = true) (hK : va_K D cl (tyl cI cZ cS cG) s) (hP : va_P D cl ws H) (hD : va_D A ws) (hS : va_S A H0 H locs) (hA : ∀ q, H0.size ≤ q → A q)
    {n : Int32} {N' : Nat} (hn : ¬ n < 0) (hN : n.toNatClampNeg = N') (hbytes : N' * 4 ≤ 536870912) (hcells : cells + 1 ≤ R.cells) (hslots : slots + N' ≤ R.slots) (hdg : decode cc pc = .ok (.newarray .int, 2))
    (kk : ∀ (q : Nat) (H1 : Heap), va_P D cl (ws ++ [(q, .inl (cI, N', .inl (fun _ => 0)))]) H1 → va_D A (ws ++ [(q, .inl (cI, N', .inl (fun _ => 0)))]) → va_S A H0 H1 locs →
      W p l e R s m args below meth c H1 locs (cells + 1) (slots + N') Q (F0 m (pc + 2) ls (.ref q :: rest))) : W p l e R s m args below meth c H locs cells slots Q (F0 m pc ls (.int n :: rest)) :=
  va_newa (atype := .int) (ty := .int) hexec hb harr rfl hK hP hD hS hA (a0 := (N', .inl (fun _ => 0))) (fun _ => rfl) hn hN hbytes hcells hslots hdg (fun q cA H1 hK2 hP hD hS => by
    have e1 : s.vm.findClass ("[" ++ FieldType.int.toString) = some cA := (hK2.2 4 _ rfl).2
    have e2 : s.vm.findClass ("[" ++ FieldType.int.toString) = some cI := (hK.2 0 _ rfl).2
    have e3 : cA = cI := Option.some.inj (e1.symm.trans e2)
    subst e3
    exact kk q H1 hP hD hS)
theorem x_newz (hexec : p.tables.exec = Jvm.exec) (hb : c.code = cc) (harr : (Cond.arrayClass .boolean).before args s = true) (hK : va_K D cl (tyl cI cZ cS cG) s) (hP : va_P D cl ws H) (hD : va_D A ws) (hS : va_S A H0 H locs) (hA : ∀ q, H0.size ≤ q → A q)
    {n : Int32} {N' : Nat} (hn : ¬ n < 0) (hN : n.toNatClampNeg = N') (hbytes : N' * 1 ≤ 536870912) (hcells : cells + 1 ≤ R.cells) (hslots : slots + N' ≤ R.slots) (hdg : decode cc pc = .ok (.newarray .boolean, 2))
    (kk : ∀ (q : Nat) (H1 : Heap), va_P D cl (ws ++ [(q, .inl (cZ, N', .inl (fun _ => 0)))]) H1 → va_D A (ws ++ [(q, .inl (cZ, N', .inl (fun _ => 0)))]) → va_S A H0 H1 locs →
      W p l e R s m args below meth c H1 locs (cells + 1) (slots + N') Q (F0 m (pc + 2) ls (.ref q :: rest))) : W p l e R s m args below meth c H locs cells slots Q (F0 m pc ls (.int n :: rest)) :=
  va_newa (atype := .boolean) (ty := .boolean) hexec hb harr rfl hK hP hD hS hA (a0 := (N', .inl (fun _ => 0))) (fun _ => rfl) hn hN hbytes hcells hslots hdg (fun q cA H1 hK2 hP hD hS => by
    have e1 : s.vm.findClass ("[" ++ FieldType.boolean.toString) = some cA := (hK2.2 4 _ rfl).2
    have e2 : s.vm.findClass ("[" ++ FieldType.boolean.toString) = some cZ := (hK.2 1 _ rfl).2
    have e3 : cA = cZ := Option.some.inj (e1.symm.trans e2)
    subst e3
    exact kk q H1 hP hD hS)
theorem x_newq (hexec : p.tables.exec = Jvm.exec) (hb : c.code = cc) {own : String} {index : Nat} (hown : s.vm.findClass own = some m.cls) (hclink : (Cond.classLink own index "FosterSons$Sheet").before args s = true) (hover : va_AO "FosterSons$Sheet" s) (hK : va_K D cl (tyl cI cZ cS cG) s) (hP : va_P D cl ws H) (hD : va_D A ws) (hS : va_S A H0 H locs) (hA : ∀ q, H0.size ≤ q → A q)
    {n : Int32} {N' : Nat} (hn : ¬ n < 0) (hN : n.toNatClampNeg = N') (hbytes : N' * 4 ≤ 536870912) (hcells : cells + 1 ≤ R.cells) (hslots : slots + N' ≤ R.slots) (hdg : decode cc pc = .ok (.anewarray index, 3))
    (kk : ∀ (q : Nat) (H1 : Heap), va_P D cl (ws ++ [(q, .inl (cS, N', .inr (.inr (.inr (.inr (fun _ => none))))))]) H1 → va_D A (ws ++ [(q, .inl (cS, N', .inr (.inr (.inr (.inr (fun _ => none))))))]) → va_S A H0 H1 locs →
      W p l e R s m args below meth c H1 locs (cells + 1) (slots + N') Q (F0 m (pc + 3) ls (.ref q :: rest))) : W p l e R s m args below meth c H locs cells slots Q (F0 m pc ls (.int n :: rest)) :=
  va_newq hexec hb hown hclink hover hK hP hD hS hA hn hN hbytes hcells hslots hdg (fun q cA H1 hK2 hP hD hS => by
    obtain ⟨_, _, _, _, _, e1⟩ : va_RA s cA (.object "FosterSons$Sheet") := (hK2.2 4 _ rfl).2
    obtain ⟨_, _, _, _, _, e2⟩ : va_RA s cS (.object "FosterSons$Sheet") := (hK.2 2 _ rfl).2
    have e3 : cA = cS := Option.some.inj (e1.symm.trans e2)
    subst e3
    exact kk q H1 hP hD hS)
theorem x_mna (hexec : p.tables.exec = Jvm.exec) (hb : c.code = cc) {own : String} {index : Nat} (hown : s.vm.findClass own = some m.cls) (hclink : (Cond.classLink own index "[[I").before args s = true) (hover : va_AOA .int s) (harr : (Cond.arrayClass .int).before args s = true) (hK : va_K D cl (tyl cI cZ cS cG) s) (hP : va_P D cl ws H) (hD : va_D A ws) (hS : va_S A H0 H locs) (hA : ∀ q, H0.size ≤ q → A q)
    (hcells : cells + (1 + 4) ≤ R.cells) (hslots : slots + (4 + 4 * 6) ≤ R.slots) (hdg : decode cc pc = .ok (.multianewarray index 2, 4))
    (kk : ∀ (q : Nat) (r : Nat → Nat) (H1 : Heap), va_P D cl (ws ++ [(q, .inl (cG, 4, .inr (.inr (.inr (.inr (fun i => if i < 4 then some (r i) else none)))))), (r 0, .inl (cI, 6, .inl (fun _ => 0))), (r 1, .inl (cI, 6, .inl (fun _ => 0))), (r 2, .inl (cI, 6, .inl (fun _ => 0))), (r 3, .inl (cI, 6, .inl (fun _ => 0)))]) H1 → va_D A (ws ++ [(q, .inl (cG, 4, .inr (.inr (.inr (.inr (fun i => if i < 4 then some (r i) else none)))))), (r 0, .inl (cI, 6, .inl (fun _ => 0))), (r 1, .inl (cI, 6, .inl (fun _ => 0))), (r 2, .inl (cI, 6, .inl (fun _ => 0))), (r 3, .inl (cI, 6, .inl (fun _ => 0)))]) → va_S A H0 H1 locs →
      W p l e R s m args below meth c H1 locs (cells + 1 + 4) (slots + 4 + 4 * 6) Q (F0 m (pc + 4) ls (.ref q :: rest))) : W p l e R s m args below meth c H locs cells slots Q (F0 m pc ls (.int 6 :: .int 4 :: rest)) := by
  have hcy : s.vm.findClass (FieldType.array .int).toString = some cI := by
    have e2 : s.vm.findClass ("[" ++ FieldType.int.toString) = some cI := (hK.2 0 _ rfl).2
    rw [show (FieldType.array .int).toString = "[" ++ FieldType.int.toString by decide +kernel]
    exact e2
  have hP' : va_P D cl (ws ++ va_pl [] (fun _ => .inl (cI, 6, .inl (fun _ => 0)))) H := by
    show va_P D cl (ws ++ []) H
    rw [List.append_nil]
    exact hP
  have hD' : va_D A (ws ++ va_pl [] (fun _ => .inl (cI, 6, .inl (fun _ => 0)))) := by
    show va_D A (ws ++ [])
    rw [List.append_nil]
    exact hD
  refine va_mna (ty := .int) (z := (6, .inl (fun _ => 0))) (N' := 4) (K' := 6) hexec hb hown (by rw [show "[" ++ (FieldType.array .int).toString = "[[I" by decide +kernel]; exact hclink) hover harr hcy hK hP' hD' hS hA (by decide +kernel) (by decide +kernel) (by decide +kernel) (by decide +kernel) (by decide) (by decide) (by decide) rfl rfl hcells hslots (fun c => ?_) hdg (fun q r cA H1 _ _ hK2 hP hD hS => ?_)
  · rw [vp_cell_i, ← arrV_new]
    rfl
  · have e1 : s.vm.findClass ("[" ++ (FieldType.array .int).toString) = some cA := (hK2.2 4 _ rfl).2
    have e2 : s.vm.findClass ("[" ++ (FieldType.array .int).toString) = some cG := (hK.2 3 _ rfl).2
    have e3 : cA = cG := Option.some.inj (e1.symm.trans e2)
    subst e3
    have er : ∀ (e0 : va_E) (f : Nat → va_E), va_pl ([] ++ (List.range 4).map r) (vr_up f ((List.range 4).map r) e0) = [(r 0, e0), (r 1, e0), (r 2, e0), (r 3, e0)] := by
      intro e0 f
      show [(r 0, vr_up f [r 0, r 1, r 2, r 3] e0 (r 0)), (r 1, vr_up f [r 0, r 1, r 2, r 3] e0 (r 1)), (r 2, vr_up f [r 0, r 1, r 2, r 3] e0 (r 2)), (r 3, vr_up f [r 0, r 1, r 2, r 3] e0 (r 3))] = _
      rw [vr_up_in (by simp), vr_up_in (by simp), vr_up_in (by simp), vr_up_in (by simp)]
    rw [er, List.append_assoc] at hP hD
    exact kk q r H1 hP hD hS
end MK
theorem xI_of_D {ly : xLy} {N : Nat} {ad : Nat → Nat} {A : Nat → Prop} {S : xSt} (h : va_D A (xW ly N ad S)) : xI N ad ∧ ∀ k, k < N → A (ad k) :=
  ⟨fun i j hi hj e => h.1 i j _ _ (xW_at hi) (xW_at hj) e, fun k hk => h.2 k _ (xW_at hk)⟩
/-- a Sending alone: its object, to, from -/
def sLy (cI : ClassId) (ad : Nat → Nat) : xLy := fun k f => match k with
  | 0 => .inr (1, [.ref (ad 1), .ref (ad 2)])
  | 1 => .inl (cI, 5, .inl f)
  | _ => .inl (cI, 5, .inl f)
/-- the classes of arrays, out of the tables' words -/
theorem tyl_known {D : va_G} {cl : List vw_C} {s : State} {a1 a2 : Array Value} (hK : va_K D cl [] s) (h1 : (Cond.arrayClass .int).before a1 s = true) (h2 : (Cond.arrayClass .boolean).before a2 s = true) (h3 : va_AO "FosterSons$Sheet" s) (h4 : va_AOA .int s) : ∃ cI cZ cS cG : ClassId, va_K D cl (tyl cI cZ cS cG) s := by
  obtain ⟨c1, k1, m1, f1, g1, j1⟩ := Cond.arrayClass_spec h1
  obtain ⟨c2, k2, m2, f2, g2, j2⟩ := Cond.arrayClass_spec h2
  obtain ⟨m3, c3, k3, e3, i3, g3, j3, f3⟩ := Cond.arrayOver_spec h3
  obtain ⟨m4, c4, k4, cm4, e4, i4, g4, j4, f4⟩ := h4.spec
  refine ⟨c1, c2, c3, c4, hK.1, fun k q hq => ?_⟩
  match k, hq with
  | 0, hq => cases hq; exact ⟨fun n z => ⟨fun k h => (by cases h), k1, g1, m1, j1⟩, f1⟩
  | 1, hq => cases hq; exact ⟨fun n z => ⟨fun k h => (by cases h), k2, g2, m2, j2⟩, f2⟩
  | 2, hq => cases hq; exact ⟨fun n z => ⟨fun k h => (by cases h), k3, g3, m3, j3⟩, k3, m3, g3, j3, e3, f3⟩
  | 3, hq => cases hq; exact ⟨fun n z => ⟨fun k h => (by cases h), k4, g4, cm4, j4⟩, f4⟩
  | k + 4, hq => simp [tyl] at hq
