/-! ===== the law: two worlds side by side ===== -/
section LW
variable {p : Program} {l : Launch} {e : Env} {R : Room} {s : State} {m : MethodId} {args : Array Value} {below : List Frame} {meth : Method} {c : Code} {H : Heap} {locs : List Loc} {cells slots : Nat} {Q : State → Prop}
variable {cc : ByteArray} {pc : Nat} {ls : Array Slot} {rest : List Value} {A : Nat → Prop} {H0 : Heap}
theorem x_sld (hexec : p.tables.exec = Jvm.exec) (hb : c.code = cc) {b L : Nat} {xs : Nat → Int32} (hX : va_X b L xs s H0) (hbl : b < H0.size) (hbA : ¬ A b) (hS : va_S A H0 H locs) (hL : L ≤ 384) (j : Nat) (hj : j < L) {i : Int32} (he : i = nI j) (hdg : decode cc pc = .ok (.iaload, 1))
    (kk : W p l e R s m args below meth c H locs cells slots Q (F0 m (pc + 1) ls (.int (xs j) :: rest))) : W p l e R s m args below meth c H locs cells slots Q (F0 m pc ls (.int i :: .ref b :: rest)) := by
  subst he
  refine va_sld hexec hb hX hbl hbA hS (vp_in_nI hj (by omega)) hdg ?_
  rw [nI_clamp (by omega)]
  exact kk
end LW
theorem xW_kept {D : va_G} {cl : List vw_C} {ly : xLy} {N : Nat} {ad : Nat → Nat} {S : xSt} {H H1 : Heap} {A : Nat → Prop} (hP : va_P D cl (xW ly N ad S) H) (hf : ∀ q : Nat, q < H.size → ¬ A q → H1[q]? = H[q]?) (hd : ∀ k, k < N → ¬ A (ad k)) : va_P D cl (xW ly N ad S) H1 :=
  hP.kept (fun k q hk => by
    have hlt := (hP k q hk).lt
    obtain ⟨h1, rfl⟩ := xW_some hk
    exact hf _ hlt (hd k h1))
/-- class and reference in the heap, apart, new, and alike -/
def LI (dC : Nat → ClassId) (dI : Nat → Nat → Nat) (cI cZ cS cG : ClassId) (s : State) (ad bd : Nat → Nat) (S M : xSt) (H : Heap) : Prop := va_P (dC, dI) vwCl (xW (cLy cI cZ cS cG ad) 42 ad S) H ∧ va_P (dC, dI) vwCl (xW (mLy cI cZ bd) 18 bd M) H ∧ xI 42 ad ∧ xI 18 bd ∧ (∀ k, k < 42 → s.heap.size ≤ ad k) ∧ (∀ k, k < 18 → s.heap.size ≤ bd k) ∧ (∀ i j, i < 42 → j < 18 → ad i ≠ bd j) ∧ Rel S M
theorem lcmp_self (a : Int64) : lg_cmp a a = 0 := by simp [lg_cmp]
