/-! ===== a world of fixed cells: cell k lies at ad k, its contents are read off the row S k ===== -/
abbrev xSt : Type := Nat → Nat → Int32
/-- the row k is f -/
def sr (S : xSt) (k : Nat) (f : Nat → Int32) : xSt := fun j => if j = k then f else S j
/-- place j of the row k is v -/
def su (S : xSt) (k j : Nat) (v : Int32) : xSt := sr S k (upd (S k) j v)
theorem sr_self (S : xSt) (k : Nat) (f : Nat → Int32) : sr S k f k = f := if_pos rfl
theorem sr_ne {S : xSt} {k : Nat} {f : Nat → Int32} {j : Nat} (h : j ≠ k) : sr S k f j = S j := if_neg h
theorem su_self (S : xSt) (k j : Nat) (v : Int32) : su S k j v k = upd (S k) j v := if_pos rfl
theorem su_ne {S : xSt} {k j : Nat} {v : Int32} {i : Nat} (h : i ≠ k) : su S k j v i = S i := if_neg h
theorem sr_same (S : xSt) (k : Nat) : sr S k (S k) = S := by
  funext i
  by_cases h : i = k
  · rw [h, sr_self]
  · rw [sr_ne h]
theorem sr_sr (S : xSt) (k : Nat) (f g : Nat → Int32) : sr (sr S k f) k g = sr S k g := by
  funext i
  by_cases h : i = k
  · rw [h, sr_self, sr_self]
  · rw [sr_ne h, sr_ne h, sr_ne h]
abbrev xLy : Type := Nat → (Nat → Int32) → va_E
def xW (ly : xLy) (N : Nat) (ad : Nat → Nat) (S : xSt) : va_W := (List.range N).map (fun k => (ad k, ly k (S k)))
theorem xW_at {ly : xLy} {N : Nat} {ad : Nat → Nat} {S : xSt} {k : Nat} (h : k < N) : (xW ly N ad S)[k]? = some (ad k, ly k (S k)) := by
  simp [xW, h]
theorem xW_len {ly : xLy} {N : Nat} {ad : Nat → Nat} {S : xSt} : (xW ly N ad S).length = N := by simp [xW]
theorem xW_out {ly : xLy} {N : Nat} {ad : Nat → Nat} {S : xSt} {k : Nat} (h : ¬ k < N) : (xW ly N ad S)[k]? = none := by
  simp [xW]; omega
theorem xW_some {ly : xLy} {N : Nat} {ad : Nat → Nat} {S : xSt} {k : Nat} {q : Nat × va_E} (h : (xW ly N ad S)[k]? = some q) : k < N ∧ q = (ad k, ly k (S k)) := by
  by_cases hk : k < N
  · rw [xW_at hk] at h
    exact ⟨hk, (Option.some.inj h).symm⟩
  · rw [xW_out hk] at h
    cases h
theorem xW_set {ly : xLy} {N : Nat} {ad : Nat → Nat} {S : xSt} {k : Nat} (h : k < N) (f : Nat → Int32) : (xW ly N ad S).set k (ad k, ly k f) = xW ly N ad (sr S k f) := by
  apply List.ext_getElem?
  intro i
  by_cases hi : i < N
  · rw [xW_at hi]
    by_cases hk : k = i
    · subst hk
      rw [List.getElem?_set_self (by rw [xW_len]; exact hi), sr_self]
    · rw [List.getElem?_set_ne hk, xW_at hi, sr_ne (fun e => hk e.symm)]
  · rw [xW_out hi]
    by_cases hk : k = i
    · omega
    · rw [List.getElem?_set_ne hk, xW_out hi]
/-- the addresses are apart -/
def xI (N : Nat) (ad : Nat → Nat) : Prop := ∀ i j, i < N → j < N → ad i = ad j → i = j
/-- the addresses of the world -/
def xA (N : Nat) (ad : Nat → Nat) : Nat → Prop := fun q => ∃ k, k < N ∧ q = ad k
theorem xD {ly : xLy} {N : Nat} {ad : Nat → Nat} {A : Nat → Prop} (S : xSt) (hI : xI N ad) (hA : ∀ k, k < N → A (ad k)) : va_D A (xW ly N ad S) := by
  refine ⟨fun i j p q hi hj hpq => ?_, fun k q hk => ?_⟩
  · obtain ⟨a, rfl⟩ := xW_some hi
    obtain ⟨b, rfl⟩ := xW_some hj
    exact hI i j a b hpq
  · obtain ⟨a, rfl⟩ := xW_some hk
    exact hA k a
theorem xA_in {N : Nat} {ad : Nat → Nat} : ∀ k, k < N → xA N ad (ad k) := fun k h => ⟨k, h, rfl⟩
/-- contracts over such a world: an int (or a boolean), nothing, a long -/
def xPc (D : va_G) (cl : List vw_C) (tys : List (ClassId × FieldType)) (ly : xLy) (N : Nat) (ad : Nat → Nat) (av : List Value) (S : xSt) : Array Value → State → Prop := va_Pc av (fun U => va_P D cl (xW ly N ad S) U.heap ∧ va_K D cl tys U)
def xQi (D : va_G) (cl : List vw_C) (ly : xLy) (N : Nat) (ad : Nat → Nat) (post : Int32 → xSt → Prop) : Array Value → State → Outcome → State → Prop := va_Qi post (fun S' t => va_P D cl (xW ly N ad S') t.heap) (xA N ad)
def xQl (D : va_G) (cl : List vw_C) (ly : xLy) (N : Nat) (ad : Nat → Nat) (post : Int64 → xSt → Prop) : Array Value → State → Outcome → State → Prop := va_Ql post (fun S' t => va_P D cl (xW ly N ad S') t.heap) (xA N ad)
def xQv (D : va_G) (cl : List vw_C) (ly : xLy) (N : Nat) (ad : Nat → Nat) (post : xSt → Prop) : Array Value → State → Outcome → State → Prop := va_Qv post (fun S' t => va_P D cl (xW ly N ad S') t.heap) (xA N ad)
def xMi (l : Launch) (y : MethodName) (ws : List Cond) (rm : Room) (D : va_G) (cl : List vw_C) (tys : List (ClassId × FieldType)) (ly : xLy) (N : Nat) (ad : Nat → Nat) (av : List Value) (S : xSt) (post : Int32 → xSt → Prop) : Prop := Met l y ws rm (xPc D cl tys ly N ad av S) (xQi D cl ly N ad post) 0 0 (xA N ad)
def xMl (l : Launch) (y : MethodName) (ws : List Cond) (rm : Room) (D : va_G) (cl : List vw_C) (tys : List (ClassId × FieldType)) (ly : xLy) (N : Nat) (ad : Nat → Nat) (av : List Value) (S : xSt) (post : Int64 → xSt → Prop) : Prop := Met l y ws rm (xPc D cl tys ly N ad av S) (xQl D cl ly N ad post) 0 0 (xA N ad)
def xMv (l : Launch) (y : MethodName) (ws : List Cond) (rm : Room) (D : va_G) (cl : List vw_C) (tys : List (ClassId × FieldType)) (ly : xLy) (N : Nat) (ad : Nat → Nat) (av : List Value) (S : xSt) (post : xSt → Prop) : Prop := Met l y ws rm (xPc D cl tys ly N ad av S) (xQv D cl ly N ad post) 0 0 (xA N ad)
/-- what holds in a method's body -/
def xB (p : Program) (s : State) (m : MethodId) (args : Array Value) (meth : Method) (c : Code) (cc : ByteArray) (nL : Nat) (own : String) (Ts : List Cond) (ret : Option FieldType) : Prop := p.tables.exec = Jvm.exec ∧ c.code = cc ∧ c.maxLocals = nL ∧ s.vm.findClass own = some m.cls ∧ (∀ w ∈ Ts, w.before args s = true) ∧ meth.sig.returnType = ret ∧ meth.locks = false
theorem xPc_blind {D : va_G} {cl : List vw_C} {tys : List (ClassId × FieldType)} {ly : xLy} {N : Nat} {ad : Nat → Nat} {av : List Value} {S : xSt} : FrameBlind (xPc D cl tys ly N ad av S) := fun a U g mk q => by
  obtain ⟨q0, qP, qK⟩ := q
  exact ⟨q0, qP, va_K.moved (u := U) (U := U.calling g mk a) (Vm.Alike.refl U.vm) qK⟩
section XM
variable {l : Launch} {y : MethodName} {ws ws' : List Cond} {rm : Room} {D : va_G} {cl : List vw_C} {tys : List (ClassId × FieldType)} {ly : xLy} {N : Nat} {ad : Nat → Nat} {av : List Value} {S : xSt} {cc : ByteArray} {nL : Nat} {ret : Option FieldType}
theorem xM_of {Qc : Array Value → State → Outcome → State → Prop} {mc ms : Nat} {free : Addr → Prop} (hy : plainName y.cls = true) (hw : ws = Cond.code y cc nL ret :: ws') (hlen : (lg_sl av).length ≤ nL) (body : ∀ (p : Program) (e : Env) (s : State) (m : MethodId) (below : List Frame) (meth : Method) (c : Code) (ls : Array Slot), xB p s m av.toArray meth c cc nL y.cls ws ret → lv_has ls nL (lv_args 0 av) → va_K D cl tys s → va_P D cl (xW ly N ad S) s.heap →
    W p l e rm s m av.toArray below meth c s.heap [] 0 0 (MQ below Qc av.toArray s mc ms free) (F0 m 0 ls [])) : Met l y ws rm (xPc D cl tys ly N ad av S) Qc mc ms free := by
  refine Met.ofW (cc := cc) (maxL := nL) (ret := ret) hy hw ?_
  intro p e s m args below meth c s₁ B hml hv
  obtain ⟨rfl, hP, hK⟩ := hv
  have hl := lv_entry av (n := nL) hlen
  rw [lg_entry_eq]
  exact body p e s m below meth c _ ⟨B.exec, B.bytes, hml, findClass_of_methodNamed B.named, atoms_spec (ws := ws) B.pre, B.returns, B.notSynchronized⟩ hl hK hP
end XM
section XR
variable {p : Program} {l : Launch} {e : Env} {R : Room} {s : State} {m : MethodId} {args : Array Value} {below : List Frame} {meth : Method} {c : Code} {H : Heap} {locs : List Loc} {cells slots : Nat} {Q : State → Prop}
variable {cc : ByteArray} {pc : Nat} {ls : Array Slot} {rest : List Value} {D : va_G} {cl : List vw_C} {A : Nat → Prop} {tys : List (ClassId × FieldType)} {H0 : Heap} {ly : xLy} {N : Nat} {ad : Nat → Nat} {S : xSt}
theorem x_get (hx : p.tables.exec = Jvm.exec) (hb : c.code = cc) {own C : String} {T : u_T} {n ci index : Nat} {Ts : List Cond} (hts : ∀ w ∈ Ts, w.before args s = true) (hin : ∀ w ∈ u_ws C T n, w ∈ Ts) (hown : s.vm.findClass own = some m.cls) (hK : va_K D cl tys s) (hP : va_P D cl (xW ly N ad S) H) (k : Nat) (hk : k < N) {fs : List Value} (hc : ly k (S k) = .inr (ci, fs)) (hcl : cl[ci]? = some (C, T, n)) (j : Nat) (hj : j < n) (hlink : (Cond.fieldLink own index (T j).1 (T j).2.1 (T j).2.2.1).before args s = true) {v : Value} (hv : fs[j]? = some v) (hdg : decode cc pc = .ok (.getfield index, 3))
    (kk : W p l e R s m args below meth c H locs cells slots Q (F0 m (pc + 3) ls (v :: rest))) : W p l e R s m args below meth c H locs cells slots Q (F0 m pc ls (.ref (ad k) :: rest)) :=
  va_get hx hb hts hin hown hK hP k ((xW_at hk).trans (by rw [hc])) hcl j hj hlink (fun _ h => h) hv hdg kk
theorem x_put (hx : p.tables.exec = Jvm.exec) (hb : c.code = cc) {own C : String} {T : u_T} {n ci index : Nat} {Ts : List Cond} (hts : ∀ w ∈ Ts, w.before args s = true) (hin : ∀ w ∈ u_ws C T n, w ∈ Ts) (ty0 : Nat → FieldType) (hty : ∀ k, k < n → parseFieldDescriptor (T k).2.2.1 = some (ty0 k)) (hnm : ∀ a, a < n → ∀ b, b < n → a ≠ b → (T a).2.1 ≠ (T b).2.1) (hown : s.vm.findClass own = some m.cls) (hK : va_K D cl tys s) (hI : xI N ad) (hA : ∀ k, k < N → A (ad k)) (hP : va_P D cl (xW ly N ad S) H) (hS : va_S A H0 H locs) (k : Nat) (hk : k < N) {fs : List Value} (hc : ly k (S k) = .inr (ci, fs)) (hcl : cl[ci]? = some (C, T, n)) (j : Nat) (hj : j < n) (hlink : (Cond.fieldLink own index (T j).1 (T j).2.1 (T j).2.2.1).before args s = true) (hfin : (T j).2.2.2 = false) {v : Value} (f : Nat → Int32) (hf : ly k f = .inr (ci, fs.set j v)) (hn : narrow (ty0 j) v = v) (hfit : fits (ty0 j) v = true) (hl : j < fs.length) (hdg : decode cc pc = .ok (.putfield index, 3))
    (kk : ∀ (H1 : Heap) (locs1 : List Loc), va_P D cl (xW ly N ad (sr S k f)) H1 → va_S A H0 H1 locs1 → W p l e R s m args below meth c H1 locs1 cells slots Q (F0 m (pc + 3) ls rest)) : W p l e R s m args below meth c H locs cells slots Q (F0 m pc ls (v :: .ref (ad k) :: rest)) :=
  va_put hx hb hts hin ty0 hty hnm hown hK hP (xD S hI hA) hS k ((xW_at hk).trans (by rw [hc])) hcl j hj hlink (fun _ h => h) hfin (hty j hj) hn hfit hl hdg
    (fun H1 locs1 h1 _ h3 => kk H1 locs1 (by rw [← hf, xW_set hk] at h1; exact h1) h3)
theorem x_iald (hx : p.tables.exec = Jvm.exec) (hb : c.code = cc) (hK : va_K D cl tys s) (hP : va_P D cl (xW ly N ad S) H) (k t0 : Nat) (hk : k < N) {cA : ClassId} {n : Nat} (hc : ly k (S k) = .inl (cA, n, .inl (S k))) (ht : tys[t0]? = some (cA, .int)) {i : Int32} (j : Nat) (hi : i = nI j) (hj : j < n) (hn : n < 2 ^ 31) {v : Int32} (hv : S k j = v) (hdg : decode cc pc = .ok (.iaload, 1))
    (kk : W p l e R s m args below meth c H locs cells slots Q (F0 m (pc + 1) ls (.int v :: rest))) : W p l e R s m args below meth c H locs cells slots Q (F0 m pc ls (.int i :: .ref (ad k) :: rest)) := by
  subst hi
  refine va_iald hx hb hK hP k t0 ((xW_at hk).trans (by rw [hc])) ht (vp_in_nI hj hn) hdg ?_
  rw [nI_clamp (by omega), hv]
  exact kk
theorem x_zald (hx : p.tables.exec = Jvm.exec) (hb : c.code = cc) (hK : va_K D cl tys s) (hP : va_P D cl (xW ly N ad S) H) (k t0 : Nat) (hk : k < N) {cA : ClassId} {n : Nat} (hc : ly k (S k) = .inl (cA, n, .inl (S k))) (ht : tys[t0]? = some (cA, .boolean)) {i : Int32} (j : Nat) (hi : i = nI j) (hj : j < n) (hn : n < 2 ^ 31) {v : Int32} (hv : S k j = v) (hdg : decode cc pc = .ok (.baload, 1))
    (kk : W p l e R s m args below meth c H locs cells slots Q (F0 m (pc + 1) ls (.int v :: rest))) : W p l e R s m args below meth c H locs cells slots Q (F0 m pc ls (.int i :: .ref (ad k) :: rest)) := by
  subst hi
  refine va_zald hx hb hK hP k t0 ((xW_at hk).trans (by rw [hc])) ht (vp_in_nI hj hn) hdg ?_
  rw [nI_clamp (by omega), hv]
  exact kk
theorem x_iast (hx : p.tables.exec = Jvm.exec) (hb : c.code = cc) (hK : va_K D cl tys s) (hI : xI N ad) (hA : ∀ k, k < N → A (ad k)) (hP : va_P D cl (xW ly N ad S) H) (hS : va_S A H0 H locs) (k t0 : Nat) (hk : k < N) {cA : ClassId} {n : Nat} (hc : ∀ f, ly k f = .inl (cA, n, .inl f)) (ht : tys[t0]? = some (cA, .int)) {i x : Int32} (j : Nat) (hi : i = nI j) (hj : j < n) (hn : n < 2 ^ 31) (hdg : decode cc pc = .ok (.iastore, 1))
    (kk : ∀ (H1 : Heap) (locs1 : List Loc), va_P D cl (xW ly N ad (su S k j x)) H1 → va_S A H0 H1 locs1 → W p l e R s m args below meth c H1 locs1 cells slots Q (F0 m (pc + 1) ls rest)) : W p l e R s m args below meth c H locs cells slots Q (F0 m pc ls (.int x :: .int i :: .ref (ad k) :: rest)) := by
  subst hi
  refine va_iast hx hb hK hP (xD S hI hA) hS k t0 ((xW_at hk).trans (by rw [hc])) ht (vp_in_nI hj hn) hdg (fun H1 locs1 h1 _ h3 => kk H1 locs1 ?_ h3)
  rw [nI_clamp (by omega), ← hc, xW_set hk] at h1
  exact h1
theorem x_zast (hx : p.tables.exec = Jvm.exec) (hb : c.code = cc) (hK : va_K D cl tys s) (hI : xI N ad) (hA : ∀ k, k < N → A (ad k)) (hP : va_P D cl (xW ly N ad S) H) (hS : va_S A H0 H locs) (k t0 : Nat) (hk : k < N) {cA : ClassId} {n : Nat} (hc : ∀ f, ly k f = .inl (cA, n, .inl f)) (ht : tys[t0]? = some (cA, .boolean)) {i x : Int32} (hz : vp_nar .boolean x = x) (j : Nat) (hi : i = nI j) (hj : j < n) (hn : n < 2 ^ 31) (hdg : decode cc pc = .ok (.bastore, 1))
    (kk : ∀ (H1 : Heap) (locs1 : List Loc), va_P D cl (xW ly N ad (su S k j x)) H1 → va_S A H0 H1 locs1 → W p l e R s m args below meth c H1 locs1 cells slots Q (F0 m (pc + 1) ls rest)) : W p l e R s m args below meth c H locs cells slots Q (F0 m pc ls (.int x :: .int i :: .ref (ad k) :: rest)) := by
  subst hi
  refine va_zast hx hb hK hP (xD S hI hA) hS k t0 ((xW_at hk).trans (by rw [hc])) ht (vp_in_nI hj hn) hdg (fun H1 locs1 h1 _ h3 => kk H1 locs1 ?_ h3)
  rw [nI_clamp (by omega), hz, ← hc, xW_set hk] at h1
  exact h1
/-- a row of references -/
theorem x_aald (hx : p.tables.exec = Jvm.exec) (hb : c.code = cc) (hK : va_K D cl tys s) (hP : va_P D cl (xW ly N ad S) H) (k t0 : Nat) (hk : k < N) {cA : ClassId} {n : Nat} {g : Nat → Option Nat} (hc : ly k (S k) = .inl (cA, n, .inr (.inr (.inr (.inr g))))) {ty : FieldType} (ht : tys[t0]? = some (cA, ty)) (hty : ty.isReference = true) {i : Int32} (j : Nat) (hi : i = nI j) (hj : j < n) (hn : n < 2 ^ 31) {v : Value} (hv : va_rf (g j) = v) (hdg : decode cc pc = .ok (.aaload, 1))
    (kk : W p l e R s m args below meth c H locs cells slots Q (F0 m (pc + 1) ls (v :: rest))) : W p l e R s m args below meth c H locs cells slots Q (F0 m pc ls (.int i :: .ref (ad k) :: rest)) := by
  subst hi
  have ha := hP k _ ((xW_at hk).trans (by rw [hc]))
  refine W.aald (v := v) (ty := ty) hx hb ha ((hK.2 t0 _ ht).1 n (fun j => va_rf (g j))) hty (fun q => by cases q) (by show ¬ (nI j < 0 ∨ (arrV _ _ _).slots.size ≤ _); rw [arrV_size]; exact vp_in_nI hj hn) (by show (arrV _ _ _).slots[_]? = _; rw [nI_clamp (by omega), arrV_read _ _ hj, hv]) rfl rfl hdg kk
/-- ends -/
theorem x_iret {post : Int32 → xSt → Prop} (hx : p.tables.exec = Jvm.exec) (hb : c.code = cc) (hr : meth.sig.returnType = some .int) (hlocks : meth.locks = false) (hP : va_P D cl (xW ly N ad S) H) (hS : va_S (xA N ad) s.heap H locs) {v : Int32} (hdg : decode cc pc = .ok (.ireturn, 1)) (hp : post v S) :
    W p l e R s m args below meth c H locs 0 0 (MQ below (xQi D cl ly N ad post) args s 0 0 (xA N ad)) (F0 m pc ls [.int v]) :=
  W.iret (v := v) hx hb hr (fun t ht hW => ⟨⟨v, S, rfl, hp, (by show va_P D cl (xW ly N ad S) t.heap; rw [ht]; exact hP)⟩, hS.F ht⟩) hS.2.2 hdg
theorem x_zret {post : Int32 → xSt → Prop} (hx : p.tables.exec = Jvm.exec) (hb : c.code = cc) (hr : meth.sig.returnType = some .boolean) (hlocks : meth.locks = false) (hP : va_P D cl (xW ly N ad S) H) (hS : va_S (xA N ad) s.heap H locs) {v : Int32} (hdg : decode cc pc = .ok (.ireturn, 1)) (hn : v = 0 ∨ v = 1) (hp : post v S) :
    W p l e R s m args below meth c H locs 0 0 (MQ below (xQi D cl ly N ad post) args s 0 0 (xA N ad)) (F0 m pc ls [.int v]) :=
  W.zret (v := v) hx hb hr (by rcases hn with rfl | rfl <;> decide +kernel) (fun t ht hW => ⟨⟨v, S, rfl, hp, (by show va_P D cl (xW ly N ad S) t.heap; rw [ht]; exact hP)⟩, hS.F ht⟩) hS.2.2 hdg
theorem x_lret {post : Int64 → xSt → Prop} (hx : p.tables.exec = Jvm.exec) (hb : c.code = cc) (hr : meth.sig.returnType = some .long) (hlocks : meth.locks = false) (hP : va_P D cl (xW ly N ad S) H) (hS : va_S (xA N ad) s.heap H locs) {v : Int64} (hdg : decode cc pc = .ok (.lreturn, 1)) (hp : post v S) :
    W p l e R s m args below meth c H locs 0 0 (MQ below (xQl D cl ly N ad post) args s 0 0 (xA N ad)) (F0 m pc ls [.long v]) :=
  W.lret (v := v) hx hb hr (fun t ht hW => ⟨⟨v, S, rfl, hp, (by show va_P D cl (xW ly N ad S) t.heap; rw [ht]; exact hP)⟩, hS.F ht⟩) hS.2.2 hdg
theorem x_vret {post : xSt → Prop} (hx : p.tables.exec = Jvm.exec) (hb : c.code = cc) (hr : meth.sig.returnType = none) (hlocks : meth.locks = false) (hP : va_P D cl (xW ly N ad S) H) (hS : va_S (xA N ad) s.heap H locs) (hdg : decode cc pc = .ok (.return_, 1)) (hp : post S) :
    W p l e R s m args below meth c H locs 0 0 (MQ below (xQv D cl ly N ad post) args s 0 0 (xA N ad)) (F0 m pc ls []) :=
  W.vret hx hb hr (fun t ht hW => ⟨⟨S, rfl, hp, (by show va_P D cl (xW ly N ad S) t.heap; rw [ht]; exact hP)⟩, hS.F ht⟩) hS.2.2 hdg
variable {y : MethodName} {bytes : ByteArray} {maxL nL n index : Nat} {ret : Option FieldType} {ws Ts : List Cond} {rm : Room} {own C : String} {As st0 : List Value} {Qc : Array Value → State → Outcome → State → Prop} {free : Addr → Prop}
theorem x_runV (F : CallFix p m c cc nL s args Ts own) {k : Nat} (hM : Met l y ws rm (xPc D cl tys ly N ad (.ref (ad k) :: As) S) Qc 0 0 free) (cw : CallW R s args own C index y bytes maxL ret ws rm 0 0 n) (hK : va_K D cl tys s) (hP : va_P D cl (xW ly N ad S) H) (hk : k < N) {ci : Nat} {fs : List Value} (hc : ly k (S k) = .inr (ci, fs)) {T : u_T} {nf : Nat} (hcl : cl[ci]? = some (C, T, nf)) (hn : As.length = n) (hsize : ls.size = nL) (hst : st0 = As.reverse ++ .ref (ad k) :: rest) (hW : (rest.map fun v => v.category).sum ≤ 8) (hdg : decode cc pc = .ok (.invokevirtual index, 3)) (hf : cells ≤ R.cells ∧ slots ≤ R.slots) :
    va_Run p l e R s m args below meth c H locs cells slots 0 0 (F0 m pc ls st0) rest (Qc (Value.ref (ad k) :: As).toArray) free :=
  va_runV F hM cw ⟨xPc_blind, va_recv (q := (C, T, nf)) hK hP hcl ((xW_at hk).trans (by rw [hc])), fun U hU hWm => ⟨rfl, by rw [hU]; exact hP, va_K.moved hWm.alike hK⟩⟩ rfl hn hsize hst (lv_room hW) hdg hf
theorem x_runS (F : CallFix p m c cc nL s args Ts own) (hM : Met l y ws rm (xPc D cl tys ly N ad As S) Qc 0 0 free) (cw : CallB R s args own index y bytes maxL ret ws rm 0 0 n ∧ (Cond.static y).before args s = true) (hK : va_K D cl tys s) (hP : va_P D cl (xW ly N ad S) H) (hn : As.length = n) (hsize : ls.size = nL) (hst : st0 = As.reverse ++ rest) (hW : (rest.map fun v => v.category).sum ≤ 8) (hdg : decode cc pc = .ok (.invokestatic index, 3)) (hf : cells ≤ R.cells ∧ slots ≤ R.slots) :
    va_Run p l e R s m args below meth c H locs cells slots 0 0 (F0 m pc ls st0) rest (Qc As.toArray) free :=
  va_runS F hM cw ⟨xPc_blind, fun U hU hWm => ⟨rfl, by rw [hU]; exact hP, va_K.moved hWm.alike hK⟩⟩ rfl hn hsize hst (lv_room hW) hdg hf
theorem x_calli {post : Int32 → xSt → Prop} {a : Array Value} (hr : va_Run p l e R s m args below meth c H locs cells slots 0 0 (F0 m pc ls st0) rest (xQi D cl ly N ad post a) (xA N ad)) (hS : va_S A H0 H locs) (hA : ∀ k, k < N → A (ad k))
    (kk : ∀ (r : Int32) (S' : xSt) (H1 : Heap) (locs1 : List Loc), post r S' → va_P D cl (xW ly N ad S') H1 → (∀ q : Nat, q < H.size → ¬ xA N ad q → H1[q]? = H[q]?) → va_S A H0 H1 locs1 → W p l e R s m args below meth c H1 locs1 cells slots Q (F0 m (pc + 3) ls (.int r :: rest))) : W p l e R s m args below meth c H locs cells slots Q (F0 m pc ls st0) :=
  va_calli hr hS (fun q _ h => by obtain ⟨k, h1, rfl⟩ := h; exact hA k h1) (fun q h => by obtain ⟨k, h1, rfl⟩ := h; exact hA k h1) (fun r u t H1 locs1 ht hvm hp hB hz hq hS1 => kk r u H1 locs1 hp (by rw [← ht]; exact hB) hq hS1)
theorem x_calll {post : Int64 → xSt → Prop} {a : Array Value} (hr : va_Run p l e R s m args below meth c H locs cells slots 0 0 (F0 m pc ls st0) rest (xQl D cl ly N ad post a) (xA N ad)) (hS : va_S A H0 H locs) (hA : ∀ k, k < N → A (ad k))
    (kk : ∀ (r : Int64) (S' : xSt) (H1 : Heap) (locs1 : List Loc), post r S' → va_P D cl (xW ly N ad S') H1 → (∀ q : Nat, q < H.size → ¬ xA N ad q → H1[q]? = H[q]?) → va_S A H0 H1 locs1 → W p l e R s m args below meth c H1 locs1 cells slots Q (F0 m (pc + 3) ls (.long r :: rest))) : W p l e R s m args below meth c H locs cells slots Q (F0 m pc ls st0) :=
  va_calll hr hS (fun q _ h => by obtain ⟨k, h1, rfl⟩ := h; exact hA k h1) (fun q h => by obtain ⟨k, h1, rfl⟩ := h; exact hA k h1) (fun r u t H1 locs1 ht hvm hp hB hz hq hS1 => kk r u H1 locs1 hp (by rw [← ht]; exact hB) hq hS1)
theorem x_callv {post : xSt → Prop} {a : Array Value} (hr : va_Run p l e R s m args below meth c H locs cells slots 0 0 (F0 m pc ls st0) rest (xQv D cl ly N ad post a) (xA N ad)) (hS : va_S A H0 H locs) (hA : ∀ k, k < N → A (ad k))
    (kk : ∀ (S' : xSt) (H1 : Heap) (locs1 : List Loc), post S' → va_P D cl (xW ly N ad S') H1 → (∀ q : Nat, q < H.size → ¬ xA N ad q → H1[q]? = H[q]?) → va_S A H0 H1 locs1 → W p l e R s m args below meth c H1 locs1 cells slots Q (F0 m (pc + 3) ls rest)) : W p l e R s m args below meth c H locs cells slots Q (F0 m pc ls st0) :=
  va_callv hr hS (fun q _ h => by obtain ⟨k, h1, rfl⟩ := h; exact hA k h1) (fun q h => by obtain ⟨k, h1, rfl⟩ := h; exact hA k h1) (fun u t H1 locs1 ht hvm hp hB hz hq hS1 => kk u H1 locs1 hp (by rw [← ht]; exact hB) hq hS1)
end XR
