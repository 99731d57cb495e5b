/-! words for methods that change no cell -/
/-- a method that changes no cell: its answer, and the heap as it was -/
def pu_Q (v : Value) : Array Value → State → Outcome → State → Prop := fun _ st oc t => oc = .returned (some v) ∧ t.heap = st.heap
abbrev pu_F : Addr → Prop := fun _ => False
section PU
variable {p : Program} {l : Launch} {e : Env} {R : Room} {s : State} {m : MethodId} {args : Array Value} {below : List Frame} {meth : Method} {c : Code} {H : Heap} {locs : List Loc} {cells slots : Nat} {Q : State → Prop}
theorem pu_call {pc : Nat} {ls : Array Slot} {rest st0 : List Value} {a : Array Value} {v : Value} (hr : va_Run p l e R s m args below meth c H locs cells slots 0 0 (F0 m pc ls st0) rest (pu_Q v a) pu_F)
    (kk : W p l e R s m args below meth c H locs cells slots Q (F0 m (pc + 3) ls (v :: rest))) : W p l e R s m args below meth c H locs cells slots Q (F0 m pc ls st0) := by
  intro T hT X
  obtain ⟨w, st₀, t, T', L, h0, X', hL, e1, e2, ⟨hv, hh⟩, st⟩ := hr T hT X
  cases hv
  have hLn : L = [] := by
    cases L with
    | nil => rfl
    | cons q _ => exact (hL q List.mem_cons_self).elim
  subst hLn
  rw [List.append_nil] at X'
  obtain ⟨t2, a1, b1⟩ := kk T' (by rw [e1, hh, h0]) X'
  exact ⟨t2, st t2 a1, b1⟩
end PU
/-- the start of a method that reads the cells ws -/
abbrev pu_P (D : va_G) (cl : List vw_C) (tys : List (ClassId × FieldType)) (ws : va_W) : State → Prop := fun U => va_P D cl ws U.heap ∧ va_K D cl tys U
theorem pu_blind {av : List Value} {D : va_G} {cl : List vw_C} {tys : List (ClassId × FieldType)} {ws : va_W} : FrameBlind (va_Pc av (pu_P D cl tys ws)) := fun a U g mk q => by
  obtain ⟨q0, qP, qK⟩ := q
  exact ⟨q0, qP, va_K.moved (u := U) (U := U.calling g mk a) (Vm.Alike.refl U.vm) qK⟩
theorem pu_pre {s : State} {H : Heap} {b : Nat} {As : List Value} {D : va_G} {cl : List vw_C} {tys : List (ClassId × FieldType)} {ws : va_W} {ci q0 : Nat} {q : vw_C} {fs : List Value} (hP : va_P D cl ws H) (hK : va_K D cl tys s) (hc : cl[ci]? = some q) (he : ws[q0]? = some (b, .inr (ci, fs))) : PreV s H q.1 b (va_Pc (.ref b :: As) (pu_P D cl tys ws)) As :=
  ⟨pu_blind, va_recv hK hP hc he, fun U hU hW => ⟨rfl, by rw [hU]; exact hP, va_K.moved hW.alike hK⟩⟩
theorem pu_preS {s : State} {H : Heap} {As : List Value} : PreS s H (va_Pc As (fun _ => True)) As :=
  ⟨fun a U g mk q => ⟨q.1, trivial⟩, fun U _ _ => ⟨rfl, trivial⟩⟩
/-! numbers -/
def sp_in (v a b : Int32) : Int32 := if a ≤ v ∧ v ≤ b then 1 else 0
theorem sp_in_0 {v a b : Int32} : sp_in v a b = 0 ↔ ¬ (a ≤ v ∧ v ≤ b) := by
  unfold sp_in
  by_cases h : a ≤ v ∧ v ≤ b
  · rw [if_pos h]; exact ⟨fun z => absurd z (by decide), fun z => absurd h z⟩
  · rw [if_neg h]; exact ⟨fun _ => h, fun _ => rfl⟩
theorem sp_in_1 {v a b : Int32} (h : ¬ sp_in v a b = 0) : a ≤ v ∧ v ≤ b := Classical.byContradiction fun z => h (sp_in_0.mpr z)
theorem sp_narrow (v a b : Int32) : narrow .boolean (.int (sp_in v a b)) = .int (sp_in v a b) := by
  unfold sp_in
  by_cases h : a ≤ v ∧ v ≤ b
  · rw [if_pos h]; rfl
  · rw [if_neg h]; rfl
theorem sp_le {a b : Int32} : a ≤ b ↔ a.toInt ≤ b.toInt := Int32.le_iff_toInt_le
theorem sp_lt {a b : Int32} : a < b ↔ a.toInt < b.toInt := Int32.lt_iff_toInt_lt
theorem sp_none (p : Int32) : sp_in p 0 (-1) = 0 := by
  rw [sp_in_0, sp_le, sp_le, show (0 : Int32).toInt = 0 from rfl, show (-1 : Int32).toInt = -1 from rfl]
  omega
theorem sw_n {x n : Int32} (h : ¬ x = n) {k : Int} (hk : n.toInt = k) : ¬ x.toInt = k := fun z => h (Int32.toInt_inj.mp (z.trans hk.symm))
/-- an index by the two tests ahead of it -/
theorem vb_in {x N : Int32} {n : Nat} (h0 : ¬ x < 0) (h : ¬ N ≤ x) (hN : N.toInt = n) : vp_in x n := by
  rw [vp_in_iff]
  rw [sp_lt] at h0
  rw [sp_le] at h
  rw [show (0 : Int32).toInt = 0 from rfl] at h0
  omega
/-! the cells of a new object, class and reference -/
abbrev nn_ : Nat → Option Nat := fun _ => none
abbrev fx_O (q : Nat → Nat) : List Value := [.ref (q 1), .ref (q 2), .ref (q 3), .ref (q 4), .ref (q 5), .ref (q 6), .ref (q 7), .ref (q 8), .int 0, .int 0, .int 0, .int 0, .int 0, .int 0]
abbrev fx_W (h0 : Nat) (q : Nat → Nat) (cy : Nat → ClassId) : va_W := [(h0, .inr (6, fx_O q)), (q 1, .inl (cy 1, 8, .inr (.inr (.inr (.inr nn_))))), (q 2, .inl (cy 2, 12, .inr (.inr (.inr (.inr nn_))))), (q 3, .inl (cy 3, 120, .inr (.inr (.inr (.inr nn_)))))]
abbrev fx_T (cy : Nat → ClassId) : List (ClassId × FieldType) := [(cy 1, .object RX4), (cy 2, .object RX6), (cy 3, .object RX0)]
abbrev fm_O (q : Nat → Nat) : List Value := [.int 0, .int 0, .ref (q 2), .ref (q 3), .ref (q 4), .int 0, .ref (q 6), .ref (q 7), .ref (q 8), .ref (q 9), .ref (q 10), .ref (q 11), .ref (q 12), .int 0, .ref (q 14), .ref (q 15), .ref (q 16), .ref (q 17), .ref (q 18), .ref (q 19), .ref (q 20), .ref (q 21), .ref (q 22), .ref (q 23), .ref (q 24), .int 0, .ref (q 26), .ref (q 27), .ref (q 28), .ref (q 29), .ref (q 30), .ref (q 31), .ref (q 32), .ref (q 33), .ref (q 34), .int 0, .ref (q 36)]
abbrev zz_ : Nat → Int32 := fun _ => 0
abbrev fm_W (h0 : Nat) (q : Nat → Nat) (cI : ClassId) : va_W := [(h0, .inr (7, fm_O q)), (q 34, .inl (cI, 36, .inl zz_)), (q 12, .inl (cI, 6, .inl zz_)), (q 33, .inl (cI, 126, .inl zz_))]
abbrev fm_T (cI : ClassId) : List (ClassId × FieldType) := [(cI, .int)]
/-- the answers of the calls that change a new object, or read more than a number of it -/
def sp_load (w n : Int32) : Int32 := if sp_in w 0 5 = 0 then 0 else if sp_in n 0 500 = 0 then 0 else 1
def sp_want (w k n : Int32) : Int32 := if sp_in w 0 5 = 0 then 0 else if sp_in k 0 20 = 0 then 0 else if sp_in n 0 1000 = 0 then 0 else 1
def sp_go (n : Int32) : Int32 := if sp_in n 0 400 = 0 then -1 else n
def sp_count (w k : Int32) : Int32 := if sp_in k 0 5 = 0 then -1 else if w = -1 then 0 else if sp_in w 0 5 = 0 then -1 else 0
