/-! a store with all other cells kept, and what stays apart -/
section IS
variable {p : Program} {l : Launch} {e : Env} {R : Room} {s : State} {m : MethodId} {args : Array Value} {below : List Frame} {meth : Method} {c : Code} {H : Heap} {locs : List Loc} {cells slots : Nat} {Q : State → Prop}
variable {cc : ByteArray} {pc : Nat} {ls : Array Slot} {rest : List Value} {D : va_G} {cl : List vw_C} {A : Nat → Prop} {a : Nat} {tys : List (ClassId × FieldType)} {H0 : Heap}
theorem ia_st (hexec : p.tables.exec = Jvm.exec) (hb : c.code = cc) (hK : va_K D cl tys s) {cA : ClassId} {n : Nat} {f : Nat → Int32} (hP : va_P D cl [(a, .inl (cA, n, .inl f))] H) (hAa : A a) (hS : va_S A H0 H locs) (t0 : Nat) (ht : tys[t0]? = some (cA, .int)) {i : Int32} {x : Int32} (hin : vp_in i n) (hdg : decode cc pc = .ok (.iastore, 1))
    (kk : ∀ (H1 : Heap) (locs1 : List Loc), va_P D cl [(a, .inl (cA, n, .inl (upd f i.toNatClampNeg x)))] H1 → H1.size = H.size → (∀ q : Nat, q ≠ a → H1[q]? = H[q]?) → va_S A H0 H1 locs1 → W p l e R s m args below meth c H1 locs1 cells slots Q (F0 m (pc + 1) ls rest)) : W p l e R s m args below meth c H locs cells slots Q (F0 m pc ls (.int x :: .int i :: .ref a :: rest)) := by
  refine W.iast hexec hb (hP 0 _ rfl) ((hK.2 t0 _ ht).1 n (fun j => .int (f j))) (fun q => by cases q) (by show ¬ (i < 0 ∨ (arrV _ _ _).slots.size ≤ _); rw [arrV_size]; exact hin) rfl rfl hdg fun H1 e z oq => ?_
  refine kk H1 _ (hP.set (p := 0) (e := .inl (cA, n, .inl (upd f i.toNatClampNeg x))) (va_D1 (A := A) hAa) rfl ?_ oq) z oq (hS.put z oq hAa)
  show H1[a]? = some (vp_cell _ _)
  rw [e]
  rw [vp_cell_i, vp_cell_i, arrV_store]
  congr 2
  funext q
  by_cases hq : q = i.toNatClampNeg
  · subst hq
    simp [updV, upd]
  · simp [updV, upd, hq]
end IS
theorem keep_ne {A : Nat → Prop} {K W : va_W} (hD : va_D A (K ++ W)) {k j : Nat} {x y : Nat × va_E} (hx : K[k]? = some x) (hy : W[j]? = some y) : ¬ x.1 = y.1 := by
  intro h
  have hk : k < K.length := (List.getElem?_eq_some_iff.mp hx).1
  have h1 : (K ++ W)[k]? = some x := by rw [List.getElem?_append_left hk]; exact hx
  have h2 : (K ++ W)[K.length + j]? = some y := by rw [List.getElem?_append_right (Nat.le_add_right _ _), Nat.add_sub_cancel_left]; exact hy
  have h3 := hD.1 k (K.length + j) x y h1 h2 h
  omega
theorem row_at {α : Type} {n j : Nat} {f : Nat → α} (h : j < n) : ((List.range n).map f)[j]? = some (f j) := by
  rw [List.getElem?_map, List.getElem?_range h]
  rfl
theorem apart_at {A : Nat → Prop} {ws : va_W} (hD : va_D A ws) (i j : Nat) {x y : Nat × va_E} (hx : ws[i]? = some x) (hy : ws[j]? = some y) (h : i ≠ j) : ¬ x.1 = y.1 := fun q => h (hD.1 i j x y hx hy q)
/-! all the cells of a new object of the class -/
abbrev rw_ (r : Nat → Nat) : Nat → Option Nat := fun i => if i < 6 then some (r i) else none
abbrev fx_A (h0 : Nat) (q : Nat → Nat) (cy : Nat → ClassId) (cI : ClassId) (r6 r7 : Nat → Nat) : va_W := [(h0, .inr (6, fx_O q)), (q 1, .inl (cy 1, 8, .inr (.inr (.inr (.inr nn_))))), (q 2, .inl (cy 2, 12, .inr (.inr (.inr (.inr nn_))))), (q 3, .inl (cy 3, 120, .inr (.inr (.inr (.inr nn_))))), (q 8, .inl (cI, 6, .inl zz_)), (q 6, .inl (cy 6, 6, .inr (.inr (.inr (.inr (rw_ r6)))))), (q 7, .inl (cy 7, 6, .inr (.inr (.inr (.inr (rw_ r7)))))), (r6 0, .inl (cI, 21, .inl zz_)), (r6 1, .inl (cI, 21, .inl zz_)), (r6 2, .inl (cI, 21, .inl zz_)), (r6 3, .inl (cI, 21, .inl zz_)), (r6 4, .inl (cI, 21, .inl zz_)), (r6 5, .inl (cI, 21, .inl zz_)), (r7 0, .inl (cI, 6, .inl zz_)), (r7 1, .inl (cI, 6, .inl zz_)), (r7 2, .inl (cI, 6, .inl zz_)), (r7 3, .inl (cI, 6, .inl zz_)), (r7 4, .inl (cI, 6, .inl zz_)), (r7 5, .inl (cI, 6, .inl zz_))]
abbrev fx_AT (cy : Nat → ClassId) (cI : ClassId) : List (ClassId × FieldType) := [(cy 1, .object RX4), (cy 2, .object RX6), (cy 3, .object RX0), (cI, .int), (cy 6, .array .int), (cy 7, .array .int)]
abbrev fx_B : List Value := [.null, .null, .null, .null, .null, .null, .null, .null, .int 0, .int 0, .int 0, .int 0, .int 0, .int 0]
