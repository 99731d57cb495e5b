def ax_ (n m0 : Nat) (q : Nat → Nat) : Nat → Prop := fun a => n ≤ a ∧ ¬ a = m0 ∧ ¬ a = q 34 ∧ ¬ a = q 12 ∧ ¬ a = q 33
/-! THE CLAIM OUT OF ONE WALK OF THE LAW'S BODY. Your part is whole_start (and what it stands on); all else here is the same for every law, but numbers. -/
def R_law : String := "FurPostsLaw"
def lw_P (b : Addr) (xs : List Int32) (args : Array Value) (s : State) : Prop := args = #[.ref b] ∧ s.IntsAt b xs ∧ xs.length ≤ 6 ∧ (Jvm.Cond.and given_1 narrow_1).before args s = true
def lw_Q (_ : Array Value) (s : State) (o : Outcome) (t : State) : Prop := o = .returned (some (.int 1)) ∧ Framed s o t [] 600000 7302250
def lw_Z (below : List Frame) (a : Array Value) (s : State) : State → Prop := fun t => ∃ o, t.status = .running ∧ Ended t below o ∧ lw_Q a s o t
/-- the law's own end, with 1 on the stack, nothing written that was there before, its room as the claim has it -/
theorem lw_ret {p : Program} {l : Launch} {e : Env} {s : State} {m : MethodId} {below : List Frame} {meth : Method} {c : Code} {b : Nat} (hx : p.tables.exec = Jvm.exec) (hb : c.code = code) (hr : meth.sig.returnType = ret) (hlocks : meth.locks = false) {pc : Nat} {H : Heap} {ls : Array Slot} (hdg : decode code pc = .ok (.ireturn, 1)) : W p l e room_1 s m #[Value.ref b] below meth c H [] 600000 7302250 (lw_Z below #[Value.ref b] s) (F0 m pc ls [.int 1]) := by
  intro T hT X
  obtain ⟨fs, hret, hrun, hended, hW, hframe⟩ := X.leave (v := some (.int 1)) (hlocks := hlocks) (fun h => by rw [hr] at h; cases h)
  have hmeth' : T.vm.method? m = some meth := X.method'
  refine ⟨T.setFrames fs, ?_, .returned (some (.int 1)), hrun, hended, rfl, ⟨_, rfl⟩, hW, hframe⟩
  jvm_step X.here [X.here.top, hx, hb, hdg, hmeth', hr, ret, narrow_b1]
  (try refine ⟨rfl, ?_⟩); (try refine ⟨rfl, ?_⟩)
  first | (intro acts; rw [hret _ acts rfl rfl rfl]) | rw [hret _ _ rfl rfl rfl]
  exact Steps.refl _
/-- what holds at the law's entry: the machine, the code, the tables' words (any of lw_tbl by 'hts w (by decide +kernel)'), the script of L ints xs at the cell b, what the Statement gives of the start (any of its parts by flat_of_before) -/
def lw_At (p : Program) (s : State) (m : MethodId) (meth : Method) (c : Code) (b L : Nat) (xs : Nat → Int32) : Prop :=
  p.tables.exec = Jvm.exec ∧ c.code = code ∧ meth.sig.returnType = ret ∧ c.maxLocals = 4 ∧ s.vm.findClass R_law = some m.cls ∧ (∀ w ∈ lw_tbl, w.before #[Value.ref b] s = true) ∧ va_X b L xs s s.heap ∧ b < s.heap.size ∧ meth.locks = false ∧ (Jvm.Cond.and given_1 narrow_1).before #[Value.ref b] s = true

set_option maxHeartbeats 16000000 in
set_option maxRecDepth 100000 in
theorem whole_start {p : Program} {e : Env} {s : State} {m : MethodId} {below : List Frame} {meth : Method} {c : Code} (l : Launch) {b L : Nat} {xs : Nat → Int32} (hL : L ≤ 6) (C0 : lw_At p s m meth c b L xs) : W p l e room_1 s m #[Value.ref b] below meth c s.heap [] 0 0 (lw_Z below #[Value.ref b] s) (entryFrame m ([Value.ref b] : List Value).toArray 4) := by
  obtain ⟨hx, hb, hr, hml, hown, hts0, hX, hbl, hlocks, hgv⟩ := id C0
  have hA : ∀ q : Nat, s.heap.size ≤ q → (fun q : Nat => s.heap.size ≤ q) q := fun _ h => h
  have hbA : ¬ (fun q : Nat => s.heap.size ≤ q) b := Nat.not_le.mpr hbl
  have hts : ∀ w ∈ wsL_law, w.before #[Value.ref b] s = true := fun w h => hts0 w (wsL_law_in w h)
  obtain ⟨c0, iS0, hKn0⟩ := u_known (C := RX0) (T := TX0) (N := 11) (n := 11) hts0 inX0 (hts0 (.instantiable RX0 11) (by decide +kernel))
  obtain ⟨c1, iS1, hKn1⟩ := u_known (C := RX1) (T := TX1) (N := 6) (n := 6) hts0 inX1 (hts0 (.instantiable RX1 6) (by decide +kernel))
  obtain ⟨c2, iS2, hKn2⟩ := u_known (C := RX3) (T := TX3) (N := 6) (n := 6) hts0 inX3 (hts0 (.instantiable RX3 6) (by decide +kernel))
  obtain ⟨c3, iS3, hKn3⟩ := u_known (C := RX4) (T := TX4) (N := 4) (n := 4) hts0 inX4 (hts0 (.instantiable RX4 4) (by decide +kernel))
  obtain ⟨c4, iS4, hKn4⟩ := u_known (C := RX5) (T := TX5) (N := 6) (n := 6) hts0 inX5 (hts0 (.instantiable RX5 6) (by decide +kernel))
  obtain ⟨c5, iS5, hKn5⟩ := u_known (C := RX6) (T := TX6) (N := 6) (n := 6) hts0 inX6 (hts0 (.instantiable RX6 6) (by decide +kernel))
  obtain ⟨c6, iS6, hKn6⟩ := u_known (C := RX7) (T := TX7) (N := 14) (n := 14) hts0 inX7 (hts0 (.instantiable RX7 14) (by decide +kernel))
  obtain ⟨c7, iS7, hKn7⟩ := u_known (C := RX8) (T := TX8) (N := 37) (n := 37) hts0 inX8 (hts0 (.instantiable RX8 37) (by decide +kernel))
  obtain ⟨dC, dI, hKc0⟩ : ∃ (dC : Nat → ClassId) (dI : Nat → Nat → Nat), ∀ (k : Nat) (q : vw_C), vwCl[k]? = some q → u_Kn s q.1 q.2.1 q.2.2 (dC k) (dI k) := by
    refine ⟨fun k => [c0, c1, c2, c3, c4, c5, c6, c7].getD k c0, fun k => [iS0, iS1, iS2, iS3, iS4, iS5, iS6, iS7].getD k iS0, ?_⟩
    intro k q hq
    match k, hq with
    | 0, hq => cases hq; exact hKn0
    | 1, hq => cases hq; exact hKn1
    | 2, hq => cases hq; exact hKn2
    | 3, hq => cases hq; exact hKn3
    | 4, hq => cases hq; exact hKn4
    | 5, hq => cases hq; exact hKn5
    | 6, hq => cases hq; exact hKn6
    | 7, hq => cases hq; exact hKn7
    | k + 8, hq => simp [vwCl] at hq
  obtain ⟨cI, kA, comp, hfind, hkA, hkind⟩ := Cond.arrayClass_spec (hts (.arrayClass .int) (by decide +kernel))
  have hK : va_K (dC, dI) vwCl [(cI, .int)] s := ⟨hKc0, fun k q h => by
    have h1 : k < 1 := (List.getElem?_eq_some_iff.mp h).1
    rw [show k = 0 by omega] at h
    cases h
    exact ⟨fun n z => ⟨fun k h => (by cases h), kA, hkA, comp, hkind⟩, hfind⟩⟩
  have hO_RX4 : va_AO RX4 s := va_AO.of (hts0 (.arrayOver (.object "FurPosts$Post")) (by decide +kernel))
  have hO_RX6 : va_AO RX6 s := va_AO.of (hts0 (.arrayOver (.object "FurPosts$Way")) (by decide +kernel))
  have hO_RX0 : va_AO RX0 s := va_AO.of (hts0 (.arrayOver (.object "FurPosts$Canoe")) (by decide +kernel))
  have hO_RX2 : va_AO RX2 s := va_AO.of (hts0 (.arrayOver (.object "FurPosts$Letter")) (by decide +kernel))
  have hO_RX5 : va_AO RX5 s := va_AO.of (hts0 (.arrayOver (.object "FurPosts$Report")) (by decide +kernel))
  have hOA : va_AOA .int s := va_AOA.of (hts0 (.arrayOver (.array .int)) (by decide +kernel))
  have hS : va_S (fun q : Nat => s.heap.size ≤ q) s.heap s.heap [] := va_S.rf
  have hP : va_P (dC, dI) vwCl [] s.heap := fun k q h => by simp at h
  have hD : va_D (fun q : Nat => s.heap.size ≤ q) [] := ⟨fun i j p q h => by simp at h, fun k q h => by simp at h⟩
  have hl := lv_entry ([.ref b]) (n := 4) (Nat.le_of_ble_eq_true rfl)
  rw [lg_entry_eq]
  generalize (lg_sl ([.ref b]) ++ List.replicate (4 - (lg_sl ([.ref b])).length) Slot.unset).toArray = ls at hl ⊢
  have hl : lv_has ls 4 [(0, .ref b)] := hl
  refine va_new (ci := 6) (fs := fx_B) (C := RX7) (T := TX7) (N := 14) hx hb hts inlX7 tyX7 tyX7_ok hown (hts (.classLink RL 7 RX7) (by decide +kernel)) (hts (.instantiable RX7 14) (by decide +kernel)) (hts (.initialized RX7) (by decide +kernel)) hK hP hD hS hA rfl (fun j hj => by
    match j, hj with
    | 0, _ => rfl
    | 1, _ => rfl
    | 2, _ => rfl
    | 3, _ => rfl
    | 4, _ => rfl
    | 5, _ => rfl
    | 6, _ => rfl
    | 7, _ => rfl
    | 8, _ => rfl
    | 9, _ => rfl
    | 10, _ => rfl
    | 11, _ => rfl
    | 12, _ => rfl
    | 13, _ => rfl
    | k + 14, h => omega) (Nat.le_of_ble_eq_true rfl) (Nat.le_of_ble_eq_true rfl) dL_law_0 (fun x0 H hP hD hS => ?_)
  have hP : va_P (dC, dI) vwCl [(x0, .inr (6, fx_B))] H := hP
  have hD : va_D (fun q : Nat => s.heap.size ≤ q) [(x0, .inr (6, fx_B))] := hD
  refine W.widen (k := 1) (n := 14) (Nat.le_of_ble_eq_true rfl) (Nat.le_of_ble_eq_true rfl) ?_
  refine lv_dup hx hb dL_law_3 rfl ?_
  have hFc := va_free (wc := [(x0, .inr (6, fx_B))]) hD hS hA [0] rfl
  refine va_callv (va_runI (As := []) (rest := [.ref x0]) ⟨hx, hb, hml, hown, hts⟩ (c_X7_init l dC dI x0 H.size cI) (cwI 0 hts gL_law_X7_init rfl rfl rfl (hts (.initialized RX7) (by decide +kernel)) (hts (.methodLink RL 9 yX7_init) (by decide +kernel)) (hts (.instanceMethod yX7_init) (by decide +kernel)) rfl (by decide +kernel) ⟨Nat.le_of_ble_eq_true rfl, Nat.le_of_ble_eq_true rfl⟩) ⟨fun a U g mk z => by obtain ⟨z0, z1, zP, zK, z4, z6, z00, z2, zA⟩ := z; exact ⟨z0, z1, zP, va_K.moved (u := U) (U := U.calling g mk a) (Vm.Alike.refl U.vm) zK, va_AO.moved (u := U) (U := U.calling g mk a) (Vm.Alike.refl U.vm) z4, va_AO.moved (u := U) (U := U.calling g mk a) (Vm.Alike.refl U.vm) z6, va_AO.moved (u := U) (U := U.calling g mk a) (Vm.Alike.refl U.vm) z00, va_AO.moved (u := U) (U := U.calling g mk a) (Vm.Alike.refl U.vm) z2, va_AOA.moved (u := U) (U := U.calling g mk a) (Vm.Alike.refl U.vm) zA⟩, fun U hU hW => ⟨rfl, by rw [hU], by rw [hU]; exact hP, va_K.moved hW.alike hK, va_AO.moved hW.alike hO_RX4, va_AO.moved hW.alike hO_RX6, va_AO.moved hW.alike hO_RX0, va_AO.moved hW.alike hO_RX2, va_AOA.moved hW.alike hOA⟩⟩ rfl rfl hl.1 rfl (lv_room (Nat.le_of_ble_eq_true rfl)) dL_law_4 ⟨Nat.le_of_ble_eq_true rfl, Nat.le_of_ble_eq_true rfl⟩) hS (fun q _ h => hFc q h) hFc (fun u t H1 locs ht hvm hw hB hz1 hk1 hS => ?_)
  obtain ⟨q, cy, r6, r7, hP1, hK1, hD1⟩ := hB
  rw [ht] at hP1
  have hK1 : va_K (dC, dI) vwCl (fx_AT cy cI) s := va_K.moved hvm.symm hK1
  obtain ⟨hP, hD⟩ := va_join (wr := []) (w1 := fx_A x0 q cy cI r6 r7) hP hD [0] [] rfl rfl (by decide) (by decide) hk1 hFc hP1 hD1
  clear hFc hk1 hP1 hD1 hz1 hvm hw ht u
  generalize H1 = H at hP hS ⊢
  have hP : va_P (dC, dI) vwCl (fx_A x0 q cy cI r6 r7) H := hP
  have hD : va_D (fun q : Nat => s.heap.size ≤ q) (fx_A x0 q cy cI r6 r7) := hD
  refine W.widen (k := 29) (n := 706) (Nat.le_of_ble_eq_true rfl) (Nat.le_of_ble_eq_true rfl) ?_
  refine lv_astore_n (lv' := [(1, .ref x0), (0, .ref b)]) hx hb dL_law_7 rfl hl (by decide) rfl (fun ls hl => ?_)
  refine va_new (ci := 7) (fs := fm_B) (C := RX8) (T := TX8) (N := 37) hx hb hts inlX8 tyX8 tyX8_ok hown (hts (.classLink RL 10 RX8) (by decide +kernel)) (hts (.instantiable RX8 37) (by decide +kernel)) (hts (.initialized RX8) (by decide +kernel)) hK hP hD hS hA rfl (fun j hj => by
    match j, hj with
    | 0, _ => rfl
    | 1, _ => rfl
    | 2, _ => rfl
    | 3, _ => rfl
    | 4, _ => rfl
    | 5, _ => rfl
    | 6, _ => rfl
    | 7, _ => rfl
    | 8, _ => rfl
    | 9, _ => rfl
    | 10, _ => rfl
    | 11, _ => rfl
    | 12, _ => rfl
    | 13, _ => rfl
    | 14, _ => rfl
    | 15, _ => rfl
    | 16, _ => rfl
    | 17, _ => rfl
    | 18, _ => rfl
    | 19, _ => rfl
    | 20, _ => rfl
    | 21, _ => rfl
    | 22, _ => rfl
    | 23, _ => rfl
    | 24, _ => rfl
    | 25, _ => rfl
    | 26, _ => rfl
    | 27, _ => rfl
    | 28, _ => rfl
    | 29, _ => rfl
    | 30, _ => rfl
    | 31, _ => rfl
    | 32, _ => rfl
    | 33, _ => rfl
    | 34, _ => rfl
    | 35, _ => rfl
    | 36, _ => rfl
    | k + 37, h => omega) (Nat.le_of_ble_eq_true rfl) (Nat.le_of_ble_eq_true rfl) dL_law_8 (fun m0 H hP hD hS => ?_)
  have hP : va_P (dC, dI) vwCl (fx_A x0 q cy cI r6 r7 ++ [(m0, .inr (7, fm_B))]) H := hP
  have hD : va_D (fun q : Nat => s.heap.size ≤ q) (fx_A x0 q cy cI r6 r7 ++ [(m0, .inr (7, fm_B))]) := hD
  refine W.widen (k := 30) (n := 743) (Nat.le_of_ble_eq_true rfl) (Nat.le_of_ble_eq_true rfl) ?_
  refine lv_dup hx hb dL_law_11 rfl ?_
  have hFc := va_free (wc := [(m0, .inr (7, fm_B))]) hD hS hA [19] rfl
  refine va_callv (va_runI (As := []) (rest := [.ref m0]) ⟨hx, hb, hml, hown, hts⟩ (c_X8_init l dC dI m0 H.size cI) (cwI 0 hts gL_law_X8_init rfl rfl rfl (hts (.initialized RX8) (by decide +kernel)) (hts (.methodLink RL 12 yX8_init) (by decide +kernel)) (hts (.instanceMethod yX8_init) (by decide +kernel)) rfl (by decide +kernel) ⟨Nat.le_of_ble_eq_true rfl, Nat.le_of_ble_eq_true rfl⟩) ⟨fun a U g mk z => by obtain ⟨z0, z1, zP, zK⟩ := z; exact ⟨z0, z1, zP, va_K.moved (u := U) (U := U.calling g mk a) (Vm.Alike.refl U.vm) zK⟩, fun U hU hW => ⟨rfl, by rw [hU], by rw [hU]; exact hP.sub [19] rfl, va_K.moved hW.alike hK⟩⟩ rfl rfl hl.1 rfl (lv_room (Nat.le_of_ble_eq_true rfl)) dL_law_12 ⟨Nat.le_of_ble_eq_true rfl, Nat.le_of_ble_eq_true rfl⟩) hS (fun q _ h => hFc q h) hFc (fun u t H1 locs ht hvm hw hB hz1 hk1 hS => ?_)
  obtain ⟨qm, hP1, hD1⟩ := hB
  rw [ht] at hP1
  obtain ⟨hP, hD⟩ := va_join (wr := fx_A x0 q cy cI r6 r7) (w1 := fm_W m0 qm cI) hP hD [19] [0, 1, 2, 3, 4, 5, 6, 7, 8, 9, 10, 11, 12, 13, 14, 15, 16, 17, 18] rfl rfl (by decide) (by decide) hk1 hFc hP1 hD1
  clear hFc hk1 hP1 hD1 hz1 hvm hw ht u
  generalize H1 = H at hP hS ⊢
  refine W.widen (k := 61) (n := 7067) (Nat.le_of_ble_eq_true rfl) (Nat.le_of_ble_eq_true rfl) ?_
  refine lv_astore_n (lv' := [(2, .ref m0), (1, .ref x0), (0, .ref b)]) hx hb dL_law_15 rfl hl (by decide) rfl (fun ls hl => ?_)
  refine lv_iconst (v := 0) hx hb dL_law_16 (by decide) ?_
  refine lv_istore_n (lv' := [(3, .int 0), (2, .ref m0), (1, .ref x0), (0, .ref b)]) hx hb dL_law_17 rfl hl (by decide) rfl (fun ls hl => ?_)
  have hPx : va_P (dC, dI) vwCl (fx_W x0 q cy) H := hP.sub [0, 1, 2, 3] rfl
  have hKx : va_K (dC, dI) vwCl (fx_T cy) s := hK1.sub [0, 1, 2] rfl
  have hPm : va_P (dC, dI) vwCl (fm_W m0 qm cI) H := hP.sub [19, 20, 21, 22] rfl
  have hKg : va_K (dC, dI) vwCl [] s := hK.sub [] rfl
  have hPg : va_P (dC, dI) vwCl [(x0, .inr (6, fx_O q))] H := hP.sub [0] rfl
  have hPp : va_P (dC, dI) vwCl [(x0, .inr (6, fx_O q)), (q 1, .inl (cy 1, 8, .inr (.inr (.inr (.inr nn_)))))] H := hP.sub [0, 1] rfl
  have hKp : va_K (dC, dI) vwCl [(cy 1, .object RX4), (cI, .int)] s := hK1.sub [0, 3] rfl
  have hPl : va_P (dC, dI) vwCl [(x0, .inr (6, fx_O q)), (q 8, .inl (cI, 6, .inl zz_))] H := hP.sub [0, 4] rfl
  have hPw : va_P (dC, dI) vwCl [(x0, .inr (6, fx_O q)), (q 6, .inl (cy 6, 6, .inr (.inr (.inr (.inr (rw_ r6))))))] H := hP.sub [0, 5] rfl
  have hKw : va_K (dC, dI) vwCl [(cy 6, .array .int), (cI, .int)] s := hK1.sub [4, 3] rfl
  have hPc : va_P (dC, dI) vwCl [(x0, .inr (6, fx_O q)), (q 7, .inl (cy 7, 6, .inr (.inr (.inr (.inr (rw_ r7)))))), (q 1, .inl (cy 1, 8, .inr (.inr (.inr (.inr nn_))))), (q 2, .inl (cy 2, 12, .inr (.inr (.inr (.inr nn_))))), (q 3, .inl (cy 3, 120, .inr (.inr (.inr (.inr nn_)))))] H := hP.sub [0, 6, 1, 2, 3] rfl
  have hKc : va_K (dC, dI) vwCl [(cy 7, .array .int), (cI, .int), (cy 1, .object RX4), (cy 2, .object RX6), (cy 3, .object RX0)] s := hK1.sub [5, 3, 0, 1, 2] rfl
  have hrow6 : ∀ i, i < 6 → va_P (dC, dI) vwCl [(r6 i, .inl (cI, 21, .inl zz_))] H := fun i hi => by
    rcases (show i = 0 ∨ i = 1 ∨ i = 2 ∨ i = 3 ∨ i = 4 ∨ i = 5 by omega) with rfl | rfl | rfl | rfl | rfl | rfl
    · exact hP.sub [7] rfl
    · exact hP.sub [8] rfl
    · exact hP.sub [9] rfl
    · exact hP.sub [10] rfl
    · exact hP.sub [11] rfl
    · exact hP.sub [12] rfl
  have hrow7 : ∀ i, i < 6 → va_P (dC, dI) vwCl [(r7 i, .inl (cI, 6, .inl zz_))] H := fun i hi => by
    rcases (show i = 0 ∨ i = 1 ∨ i = 2 ∨ i = 3 ∨ i = 4 ∨ i = 5 by omega) with rfl | rfl | rfl | rfl | rfl | rfl
    · exact hP.sub [13] rfl
    · exact hP.sub [14] rfl
    · exact hP.sub [15] rfl
    · exact hP.sub [16] rfl
    · exact hP.sub [17] rfl
    · exact hP.sub [18] rfl
  have hXd : ∀ (i : Nat) (x : Nat × va_E), i < 19 → (fx_A x0 q cy cI r6 r7 ++ fm_W m0 qm cI)[i]? = some x → ax_ s.heap.size m0 qm x.1 := fun i x hi h => ⟨hD.2 i _ h, apart_at hD i 19 h rfl (by omega), apart_at hD i 20 h rfl (by omega), apart_at hD i 21 h rfl (by omega), apart_at hD i 22 h rfl (by omega)⟩
  have hX0 : ax_ s.heap.size m0 qm x0 := hXd 0 _ (by decide) rfl
  have hX1 : ax_ s.heap.size m0 qm (q 1) := hXd 1 _ (by decide) rfl
  have hX8 : ax_ s.heap.size m0 qm (q 8) := hXd 4 _ (by decide) rfl
  have hXr : ∀ i, i < 6 → ax_ s.heap.size m0 qm (r6 i) := fun i hi => by
    rcases (show i = 0 ∨ i = 1 ∨ i = 2 ∨ i = 3 ∨ i = 4 ∨ i = 5 by omega) with rfl | rfl | rfl | rfl | rfl | rfl
    · exact hXd 7 _ (by decide) rfl
    · exact hXd 8 _ (by decide) rfl
    · exact hXd 9 _ (by decide) rfl
    · exact hXd 10 _ (by decide) rfl
    · exact hXd 11 _ (by decide) rfl
    · exact hXd 12 _ (by decide) rfl
  have hl0 : m0 < H.size := (hPm 0 _ rfl).lt
  have hl34 : qm 34 < H.size := (hPm 1 _ rfl).lt
  have hl12 : qm 12 < H.size := (hPm 2 _ rfl).lt
  have hl33 : qm 33 < H.size := (hPm 3 _ rfl).lt
  have hXs : ∀ a, H.size ≤ a → ax_ s.heap.size m0 qm a := fun a h => ⟨Nat.le_trans hS.1 h, by omega, by omega, by omega, by omega⟩
  have hne1 : ¬ x0 = q 1 := apart_at hD 0 1 rfl rfl (by decide)
  have hXm : ∀ (k : Nat) (x : Nat × va_E), (fm_W m0 qm cI)[k]? = some x → ¬ ax_ s.heap.size m0 qm x.1 := fun k x hx h => by
    have h1 : k < 4 := (List.getElem?_eq_some_iff.mp hx).1
    rcases (show k = 0 ∨ k = 1 ∨ k = 2 ∨ k = 3 by omega) with rfl | rfl | rfl | rfl
    · cases hx; exact h.2.1 rfl
    · cases hx; exact h.2.2.1 rfl
    · cases hx; exact h.2.2.2.1 rfl
    · cases hx; exact h.2.2.2.2 rfl
  have hM0 : (fun a => s.heap.size ≤ a) m0 := hD.2 19 _ rfl
  have hM12 : (fun a => s.heap.size ≤ a) (qm 12) := hD.2 21 _ rfl
  have hM33 : (fun a => s.heap.size ≤ a) (qm 33) := hD.2 22 _ rfl
  clear hP hD hXd
  refine lv_iload_n hx hb dL_law_18 rfl (lv_at hl 0 rfl) ?_
  refine lv_aload_n hx hb dL_law_19 rfl (lv_at hl 3 rfl) ?_
  refine va_slen hx hb hX hbl hbA hS dL_law_20 ?_
  refine lv_bipush (v := 6) hx hb dL_law_21 (by decide) ?_
  refine lv_isub hx hb dL_law_23 ?_
  refine lv_icmp_gt (tgt := 1176) hx hb dL_law_24 (by decide) (fun h_1 => ?_) (fun h_1 => ?_)
  · refine lv_iconst (v := 1) hx hb dL_law_1176 (by decide) ?_
    refine W.widen (k := 600000) (n := 7302250) (Nat.le_of_ble_eq_true rfl) (Nat.le_of_ble_eq_true rfl) ?_
    refine va_forget (fun q hq => hS.2.2 q hq) ?_
    exact lw_ret hx hb hr hlocks dL_law_1177
  have hL6 : L = 6 := by
    rcases (show L = 0 ∨ L = 1 ∨ L = 2 ∨ L = 3 ∨ L = 4 ∨ L = 5 ∨ L = 6 by omega) with rfl | rfl | rfl | rfl | rfl | rfl | rfl
    · exact absurd (by decide) h_1
    · exact absurd (by decide) h_1
    · exact absurd (by decide) h_1
    · exact absurd (by decide) h_1
    · exact absurd (by decide) h_1
    · exact absurd (by decide) h_1
    · rfl
  subst hL6
  have fin : ∀ (G : Heap) (locs : List Loc) (ls : Array Slot), va_S (fun q : Nat => s.heap.size ≤ q) s.heap G locs → lv_has ls 4 [(3, .int 0), (2, .ref m0), (1, .ref x0), (0, .ref b)] → W p l e room_1 s m #[Value.ref b] below meth c G locs 600000 7302250 (lw_Z below #[Value.ref b] s) (F0 m 1170 ls []) := by
    intro G locs ls hS hl
    refine lv_iinc (v := 6) (lv' := [(3, .int 6), (2, .ref m0), (1, .ref x0), (0, .ref b)]) hx hb dL_law_1170 hl (k := 0) rfl (by decide) (by decide) rfl (fun ls hl => ?_)
    refine lv_goto (tgt := 18) hx hb dL_law_1173 (by decide) ?_
    refine lv_iload_n hx hb dL_law_18 rfl (lv_at hl 0 rfl) ?_
    refine lv_aload_n hx hb dL_law_19 rfl (lv_at hl 3 rfl) ?_
    refine va_slen hx hb hX hbl hbA hS dL_law_20 ?_
    refine lv_bipush (v := 6) hx hb dL_law_21 (by decide) ?_
    refine lv_isub hx hb dL_law_23 ?_
    refine lv_icmp_gt (tgt := 1176) hx hb dL_law_24 (by decide) (fun _ => ?_) (fun h => absurd (by decide) h)
    refine lv_iconst (v := 1) hx hb dL_law_1176 (by decide) ?_
    refine va_forget (fun q hq => hS.2.2 q hq) ?_
    exact lw_ret hx hb hr hlocks dL_law_1177
  refine lv_aload_n hx hb dL_law_27 rfl (lv_at hl 3 rfl) ?_
  refine lv_iload_n hx hb dL_law_28 rfl (lv_at hl 0 rfl) ?_
  refine va_sld hx hb hX hbl hbA hS (i := 0) (by unfold vp_in; decide) dL_law_29 ?_
  refine lv_bipush (v := 31) hx hb dL_law_30 (by decide) ?_
  refine lv_iand hx hb dL_law_32 ?_
  refine lv_topi (fun z ez => ?_)
  rcases (Decidable.em (z = 0)) with e_1 | e_1
  · refine lv_tableIn (off := 119) (tgt := 152) hx hb dL_law_33 (by rw [e_1]; decide) (by rw [e_1]; decide) (by rw [e_1]; rfl) (by decide) ?_
    refine lv_aload_n hx hb dL_law_152 rfl (lv_at hl 2 rfl) ?_
    refine va_calli (va_runV (As := []) (rest := []) ⟨hx, hb, hml, hown, hts⟩ (c_X7_post l dC dI x0 H.size q (cy 1) cI (ax_ s.heap.size m0 qm) hX0 hX1 hXs hne1) (cwV 0 hts gL_law_X7_post rfl rfl rfl (by decide +kernel) ⟨Nat.le_of_ble_eq_true rfl, Nat.le_of_ble_eq_true rfl⟩) ⟨fun a U g mk z => by obtain ⟨z0, z1, zP, zK, zO⟩ := z; exact ⟨z0, z1, zP, va_K.moved (u := U) (U := U.calling g mk a) (Vm.Alike.refl U.vm) zK, va_AO.moved (u := U) (U := U.calling g mk a) (Vm.Alike.refl U.vm) zO⟩, va_recv hKp hPp (ci := 6) (q0 := 0) rfl rfl, fun U hU hW => ⟨rfl, by rw [hU], by rw [hU]; exact hPp, va_K.moved hW.alike hKp, va_AO.moved hW.alike hO_RX5⟩⟩ rfl rfl hl.1 rfl (lv_room (Nat.le_of_ble_eq_true rfl)) dL_law_153 ⟨Nat.le_of_ble_eq_true rfl, Nat.le_of_ble_eq_true rfl⟩) hS (fun a _ h => h.1) (fun a h => h.1) (fun r u t H1 locs ht hvm hw _ hz1 hk1 hS => ?_)
    subst hw
    have hPm := hPm.kept (H1 := H1) (fun k x hx => hk1 x.1 ((hPm k x hx).lt) (hXm k x hx))
    refine lv_aload_n hx hb dL_law_156 rfl (lv_at hl 1 rfl) ?_
    refine va_calli (va_runV (As := []) (rest := [.int 0]) ⟨hx, hb, hml, hown, hts⟩ (c_X8_post l dC dI m0 qm (fun a => s.heap.size ≤ a) hM0) (cwV 0 hts gL_law_X8_post rfl rfl rfl (by decide +kernel) ⟨Nat.le_of_ble_eq_true rfl, Nat.le_of_ble_eq_true rfl⟩) (pu_pre (hPm.sub (ws' := [(m0, .inr (7, fm_O qm))]) [0] rfl) hKg (ci := 7) (q0 := 0) rfl rfl) rfl rfl hl.1 rfl (lv_room (Nat.le_of_ble_eq_true rfl)) dL_law_157 ⟨Nat.le_of_ble_eq_true rfl, Nat.le_of_ble_eq_true rfl⟩) hS (fun a _ h => h) (fun a h => h) (fun r u t H1 locs ht hvm hw _ hz1 hk1 hS => ?_)
    subst hw
    refine lv_icmp_eq (tgt := 1170) hx hb dL_law_160 (by decide) (fun _ => ?_) (fun h => absurd rfl h)
    refine W.widen (k := 600000) (n := 7302250) (Nat.le_of_ble_eq_true rfl) (Nat.le_of_ble_eq_true rfl) ?_
    exact fin _ _ ls hS hl
  rcases (Decidable.em (z = 1)) with e_2 | e_2
  · refine lv_tableIn (off := 132) (tgt := 165) hx hb dL_law_33 (by rw [e_2]; decide) (by rw [e_2]; decide) (by rw [e_2]; rfl) (by decide) ?_
    refine lv_aload_n hx hb dL_law_165 rfl (lv_at hl 2 rfl) ?_
    refine lv_aload_n hx hb dL_law_166 rfl (lv_at hl 3 rfl) ?_
    refine lv_iload_n hx hb dL_law_167 rfl (lv_at hl 0 rfl) ?_
    refine lv_iconst (v := 1) hx hb dL_law_168 (by decide) ?_
    refine lv_iadd hx hb dL_law_169 ?_
    rw [show (0 + 1 : Int32) = (1 : Int32) from by decide]
    refine va_sld hx hb hX hbl hbA hS (i := 1) (by unfold vp_in; decide) dL_law_170 ?_
    refine lv_aload_n hx hb dL_law_171 rfl (lv_at hl 3 rfl) ?_
    refine lv_iload_n hx hb dL_law_172 rfl (lv_at hl 0 rfl) ?_
    refine lv_iconst (v := 2) hx hb dL_law_173 (by decide) ?_
    refine lv_iadd hx hb dL_law_174 ?_
    rw [show (0 + 2 : Int32) = (2 : Int32) from by decide]
    refine va_sld hx hb hX hbl hbA hS (i := 2) (by unfold vp_in; decide) dL_law_175 ?_
    refine lv_aload_n hx hb dL_law_176 rfl (lv_at hl 3 rfl) ?_
    refine lv_iload_n hx hb dL_law_177 rfl (lv_at hl 0 rfl) ?_
    refine lv_iconst (v := 3) hx hb dL_law_178 (by decide) ?_
    refine lv_iadd hx hb dL_law_179 ?_
    rw [show (0 + 3 : Int32) = (3 : Int32) from by decide]
    refine va_sld hx hb hX hbl hbA hS (i := 3) (by unfold vp_in; decide) dL_law_180 ?_
    refine lv_aload_n hx hb dL_law_181 rfl (lv_at hl 3 rfl) ?_
    refine lv_iload_n hx hb dL_law_182 rfl (lv_at hl 0 rfl) ?_
    refine lv_iconst (v := 4) hx hb dL_law_183 (by decide) ?_
    refine lv_iadd hx hb dL_law_184 ?_
    rw [show (0 + 4 : Int32) = (4 : Int32) from by decide]
    refine va_sld hx hb hX hbl hbA hS (i := 4) (by unfold vp_in; decide) dL_law_185 ?_
    refine pu_call (va_runV (As := [.int (xs (Int32.toNatClampNeg 1)), .int (xs (Int32.toNatClampNeg 2)), .int (xs (Int32.toNatClampNeg 3)), .int (xs (Int32.toNatClampNeg 4))]) (rest := []) ⟨hx, hb, hml, hown, hts⟩ (c_X7_way l dC dI x0 q cy (xs (Int32.toNatClampNeg 1)) (xs (Int32.toNatClampNeg 2)) (xs (Int32.toNatClampNeg 3)) (xs (Int32.toNatClampNeg 4))) (cwV 4 hts gL_law_X7_way rfl rfl rfl (by decide +kernel) ⟨Nat.le_of_ble_eq_true rfl, Nat.le_of_ble_eq_true rfl⟩) (pu_pre hPx hKx (ci := 6) (q0 := 0) rfl rfl) rfl rfl hl.1 rfl (lv_room (Nat.le_of_ble_eq_true rfl)) dL_law_186 ⟨Nat.le_of_ble_eq_true rfl, Nat.le_of_ble_eq_true rfl⟩) ?_
    refine lv_aload_n hx hb dL_law_189 rfl (lv_at hl 1 rfl) ?_
    refine lv_aload_n hx hb dL_law_190 rfl (lv_at hl 3 rfl) ?_
    refine lv_iload_n hx hb dL_law_191 rfl (lv_at hl 0 rfl) ?_
    refine lv_iconst (v := 1) hx hb dL_law_192 (by decide) ?_
    refine lv_iadd hx hb dL_law_193 ?_
    rw [show (0 + 1 : Int32) = (1 : Int32) from by decide]
    refine va_sld hx hb hX hbl hbA hS (i := 1) (by unfold vp_in; decide) dL_law_194 ?_
    refine lv_aload_n hx hb dL_law_195 rfl (lv_at hl 3 rfl) ?_
    refine lv_iload_n hx hb dL_law_196 rfl (lv_at hl 0 rfl) ?_
    refine lv_iconst (v := 2) hx hb dL_law_197 (by decide) ?_
    refine lv_iadd hx hb dL_law_198 ?_
    rw [show (0 + 2 : Int32) = (2 : Int32) from by decide]
    refine va_sld hx hb hX hbl hbA hS (i := 2) (by unfold vp_in; decide) dL_law_199 ?_
    refine lv_aload_n hx hb dL_law_200 rfl (lv_at hl 3 rfl) ?_
    refine lv_iload_n hx hb dL_law_201 rfl (lv_at hl 0 rfl) ?_
    refine lv_iconst (v := 3) hx hb dL_law_202 (by decide) ?_
    refine lv_iadd hx hb dL_law_203 ?_
    rw [show (0 + 3 : Int32) = (3 : Int32) from by decide]
    refine va_sld hx hb hX hbl hbA hS (i := 3) (by unfold vp_in; decide) dL_law_204 ?_
    refine lv_aload_n hx hb dL_law_205 rfl (lv_at hl 3 rfl) ?_
    refine lv_iload_n hx hb dL_law_206 rfl (lv_at hl 0 rfl) ?_
    refine lv_iconst (v := 4) hx hb dL_law_207 (by decide) ?_
    refine lv_iadd hx hb dL_law_208 ?_
    rw [show (0 + 4 : Int32) = (4 : Int32) from by decide]
    refine va_sld hx hb hX hbl hbA hS (i := 4) (by unfold vp_in; decide) dL_law_209 ?_
    refine pu_call (va_runV (As := [.int (xs (Int32.toNatClampNeg 1)), .int (xs (Int32.toNatClampNeg 2)), .int (xs (Int32.toNatClampNeg 3)), .int (xs (Int32.toNatClampNeg 4))]) (rest := [.int (-1)]) ⟨hx, hb, hml, hown, hts⟩ (c_X8_way l dC dI m0 qm cI (xs (Int32.toNatClampNeg 1)) (xs (Int32.toNatClampNeg 2)) (xs (Int32.toNatClampNeg 3)) (xs (Int32.toNatClampNeg 4))) (cwV 4 hts gL_law_X8_way rfl rfl rfl (by decide +kernel) ⟨Nat.le_of_ble_eq_true rfl, Nat.le_of_ble_eq_true rfl⟩) (pu_pre hPm hK (ci := 7) (q0 := 0) rfl rfl) rfl rfl hl.1 rfl (lv_room (Nat.le_of_ble_eq_true rfl)) dL_law_210 ⟨Nat.le_of_ble_eq_true rfl, Nat.le_of_ble_eq_true rfl⟩) ?_
    refine lv_icmp_eq (tgt := 1170) hx hb dL_law_213 (by decide) (fun _ => ?_) (fun h => absurd rfl h)
    refine W.widen (k := 600000) (n := 7302250) (Nat.le_of_ble_eq_true rfl) (Nat.le_of_ble_eq_true rfl) ?_
    exact fin _ _ ls hS hl
  rcases (Decidable.em (z = 2)) with e_3 | e_3
  · refine lv_tableIn (off := 185) (tgt := 218) hx hb dL_law_33 (by rw [e_3]; decide) (by rw [e_3]; decide) (by rw [e_3]; rfl) (by decide) ?_
    refine lv_aload_n hx hb dL_law_218 rfl (lv_at hl 2 rfl) ?_
    refine lv_aload_n hx hb dL_law_219 rfl (lv_at hl 3 rfl) ?_
    refine lv_iload_n hx hb dL_law_220 rfl (lv_at hl 0 rfl) ?_
    refine lv_iconst (v := 1) hx hb dL_law_221 (by decide) ?_
    refine lv_iadd hx hb dL_law_222 ?_
    rw [show (0 + 1 : Int32) = (1 : Int32) from by decide]
    refine va_sld hx hb hX hbl hbA hS (i := 1) (by unfold vp_in; decide) dL_law_223 ?_
    refine lv_aload_n hx hb dL_law_224 rfl (lv_at hl 3 rfl) ?_
    refine lv_iload_n hx hb dL_law_225 rfl (lv_at hl 0 rfl) ?_
    refine lv_iconst (v := 2) hx hb dL_law_226 (by decide) ?_
    refine lv_iadd hx hb dL_law_227 ?_
    rw [show (0 + 2 : Int32) = (2 : Int32) from by decide]
    refine va_sld hx hb hX hbl hbA hS (i := 2) (by unfold vp_in; decide) dL_law_228 ?_
    refine lv_aload_n hx hb dL_law_229 rfl (lv_at hl 3 rfl) ?_
    refine lv_iload_n hx hb dL_law_230 rfl (lv_at hl 0 rfl) ?_
    refine lv_iconst (v := 3) hx hb dL_law_231 (by decide) ?_
    refine lv_iadd hx hb dL_law_232 ?_
    rw [show (0 + 3 : Int32) = (3 : Int32) from by decide]
    refine va_sld hx hb hX hbl hbA hS (i := 3) (by unfold vp_in; decide) dL_law_233 ?_
    refine pu_call (va_runV (As := [.int (xs (Int32.toNatClampNeg 1)), .int (xs (Int32.toNatClampNeg 2)), .int (xs (Int32.toNatClampNeg 3))]) (rest := []) ⟨hx, hb, hml, hown, hts⟩ (c_X7_store l dC dI x0 q cy (xs (Int32.toNatClampNeg 1)) (xs (Int32.toNatClampNeg 2)) (xs (Int32.toNatClampNeg 3))) (cwV 3 hts gL_law_X7_store rfl rfl rfl (by decide +kernel) ⟨Nat.le_of_ble_eq_true rfl, Nat.le_of_ble_eq_true rfl⟩) (pu_pre hPx hKx (ci := 6) (q0 := 0) rfl rfl) rfl rfl hl.1 rfl (lv_room (Nat.le_of_ble_eq_true rfl)) dL_law_234 ⟨Nat.le_of_ble_eq_true rfl, Nat.le_of_ble_eq_true rfl⟩) ?_
    refine lv_aload_n hx hb dL_law_237 rfl (lv_at hl 1 rfl) ?_
    refine lv_aload_n hx hb dL_law_238 rfl (lv_at hl 3 rfl) ?_
    refine lv_iload_n hx hb dL_law_239 rfl (lv_at hl 0 rfl) ?_
    refine lv_iconst (v := 1) hx hb dL_law_240 (by decide) ?_
    refine lv_iadd hx hb dL_law_241 ?_
    rw [show (0 + 1 : Int32) = (1 : Int32) from by decide]
    refine va_sld hx hb hX hbl hbA hS (i := 1) (by unfold vp_in; decide) dL_law_242 ?_
    refine lv_aload_n hx hb dL_law_243 rfl (lv_at hl 3 rfl) ?_
    refine lv_iload_n hx hb dL_law_244 rfl (lv_at hl 0 rfl) ?_
    refine lv_iconst (v := 2) hx hb dL_law_245 (by decide) ?_
    refine lv_iadd hx hb dL_law_246 ?_
    rw [show (0 + 2 : Int32) = (2 : Int32) from by decide]
    refine va_sld hx hb hX hbl hbA hS (i := 2) (by unfold vp_in; decide) dL_law_247 ?_
    refine lv_aload_n hx hb dL_law_248 rfl (lv_at hl 3 rfl) ?_
    refine lv_iload_n hx hb dL_law_249 rfl (lv_at hl 0 rfl) ?_
    refine lv_iconst (v := 3) hx hb dL_law_250 (by decide) ?_
    refine lv_iadd hx hb dL_law_251 ?_
    rw [show (0 + 3 : Int32) = (3 : Int32) from by decide]
    refine va_sld hx hb hX hbl hbA hS (i := 3) (by unfold vp_in; decide) dL_law_252 ?_
    refine pu_call (va_runV (As := [.int (xs (Int32.toNatClampNeg 1)), .int (xs (Int32.toNatClampNeg 2)), .int (xs (Int32.toNatClampNeg 3))]) (rest := [.int (-1)]) ⟨hx, hb, hml, hown, hts⟩ (c_X8_store l dC dI m0 qm cI (xs (Int32.toNatClampNeg 1)) (xs (Int32.toNatClampNeg 2)) (xs (Int32.toNatClampNeg 3))) (cwV 3 hts gL_law_X8_store rfl rfl rfl (by decide +kernel) ⟨Nat.le_of_ble_eq_true rfl, Nat.le_of_ble_eq_true rfl⟩) (pu_pre hPm hK (ci := 7) (q0 := 0) rfl rfl) rfl rfl hl.1 rfl (lv_room (Nat.le_of_ble_eq_true rfl)) dL_law_253 ⟨Nat.le_of_ble_eq_true rfl, Nat.le_of_ble_eq_true rfl⟩) ?_
    refine lv_icmp_eq (tgt := 1170) hx hb dL_law_256 (by decide) (fun _ => ?_) (fun h => absurd rfl h)
    refine W.widen (k := 600000) (n := 7302250) (Nat.le_of_ble_eq_true rfl) (Nat.le_of_ble_eq_true rfl) ?_
    exact fin _ _ ls hS hl
  rcases (Decidable.em (z = 3)) with e_4 | e_4
  · refine lv_tableIn (off := 228) (tgt := 261) hx hb dL_law_33 (by rw [e_4]; decide) (by rw [e_4]; decide) (by rw [e_4]; rfl) (by decide) ?_
    refine lv_aload_n hx hb dL_law_261 rfl (lv_at hl 2 rfl) ?_
    refine lv_aload_n hx hb dL_law_262 rfl (lv_at hl 3 rfl) ?_
    refine lv_iload_n hx hb dL_law_263 rfl (lv_at hl 0 rfl) ?_
    refine lv_iconst (v := 1) hx hb dL_law_264 (by decide) ?_
    refine lv_iadd hx hb dL_law_265 ?_
    rw [show (0 + 1 : Int32) = (1 : Int32) from by decide]
    refine va_sld hx hb hX hbl hbA hS (i := 1) (by unfold vp_in; decide) dL_law_266 ?_
    refine lv_aload_n hx hb dL_law_267 rfl (lv_at hl 3 rfl) ?_
    refine lv_iload_n hx hb dL_law_268 rfl (lv_at hl 0 rfl) ?_
    refine lv_iconst (v := 2) hx hb dL_law_269 (by decide) ?_
    refine lv_iadd hx hb dL_law_270 ?_
    rw [show (0 + 2 : Int32) = (2 : Int32) from by decide]
    refine va_sld hx hb hX hbl hbA hS (i := 2) (by unfold vp_in; decide) dL_law_271 ?_
    refine va_calli (va_runV (As := [.int (xs (Int32.toNatClampNeg 1)), .int (xs (Int32.toNatClampNeg 2))]) (rest := []) ⟨hx, hb, hml, hown, hts⟩ (c_X7_load l dC dI x0 q cI (ax_ s.heap.size m0 qm) hX8 (xs (Int32.toNatClampNeg 1)) (xs (Int32.toNatClampNeg 2))) (cwV 2 hts gL_law_X7_load rfl rfl rfl (by decide +kernel) ⟨Nat.le_of_ble_eq_true rfl, Nat.le_of_ble_eq_true rfl⟩) (pu_pre hPl hK (ci := 6) (q0 := 0) rfl rfl) rfl rfl hl.1 rfl (lv_room (Nat.le_of_ble_eq_true rfl)) dL_law_272 ⟨Nat.le_of_ble_eq_true rfl, Nat.le_of_ble_eq_true rfl⟩) hS (fun a _ h => h.1) (fun a h => h.1) (fun r u t H1 locs ht hvm hw _ hz1 hk1 hS => ?_)
    subst hw
    have hPm := hPm.kept (H1 := H1) (fun k x hx => hk1 x.1 ((hPm k x hx).lt) (hXm k x hx))
    refine lv_aload_n hx hb dL_law_275 rfl (lv_at hl 1 rfl) ?_
    refine lv_aload_n hx hb dL_law_276 rfl (lv_at hl 3 rfl) ?_
    refine lv_iload_n hx hb dL_law_277 rfl (lv_at hl 0 rfl) ?_
    refine lv_iconst (v := 1) hx hb dL_law_278 (by decide) ?_
    refine lv_iadd hx hb dL_law_279 ?_
    rw [show (0 + 1 : Int32) = (1 : Int32) from by decide]
    refine va_sld hx hb hX hbl hbA hS (i := 1) (by unfold vp_in; decide) dL_law_280 ?_
    refine lv_aload_n hx hb dL_law_281 rfl (lv_at hl 3 rfl) ?_
    refine lv_iload_n hx hb dL_law_282 rfl (lv_at hl 0 rfl) ?_
    refine lv_iconst (v := 2) hx hb dL_law_283 (by decide) ?_
    refine lv_iadd hx hb dL_law_284 ?_
    rw [show (0 + 2 : Int32) = (2 : Int32) from by decide]
    refine va_sld hx hb hX hbl hbA hS (i := 2) (by unfold vp_in; decide) dL_law_285 ?_
    refine va_calli (va_runV (As := [.int (xs (Int32.toNatClampNeg 1)), .int (xs (Int32.toNatClampNeg 2))]) (rest := [.int (sp_load (xs (Int32.toNatClampNeg 1)) (xs (Int32.toNatClampNeg 2)))]) ⟨hx, hb, hml, hown, hts⟩ (c_X8_load l dC dI m0 qm cI (fun a => s.heap.size ≤ a) hM12 (xs (Int32.toNatClampNeg 1)) (xs (Int32.toNatClampNeg 2))) (cwV 2 hts gL_law_X8_load rfl rfl rfl (by decide +kernel) ⟨Nat.le_of_ble_eq_true rfl, Nat.le_of_ble_eq_true rfl⟩) (pu_pre (hPm.sub (ws' := [(m0, .inr (7, fm_O qm)), (qm 12, .inl (cI, 6, .inl zz_))]) [0, 2] rfl) hK (ci := 7) (q0 := 0) rfl rfl) rfl rfl hl.1 rfl (lv_room (Nat.le_of_ble_eq_true rfl)) dL_law_286 ⟨Nat.le_of_ble_eq_true rfl, Nat.le_of_ble_eq_true rfl⟩) hS (fun a _ h => h) (fun a h => h) (fun r u t H1 locs ht hvm hw _ hz1 hk1 hS => ?_)
    subst hw
    refine lv_icmp_eq (tgt := 1170) hx hb dL_law_289 (by decide) (fun _ => ?_) (fun h => absurd rfl h)
    refine W.widen (k := 600000) (n := 7302250) (Nat.le_of_ble_eq_true rfl) (Nat.le_of_ble_eq_true rfl) ?_
    exact fin _ _ ls hS hl
  rcases (Decidable.em (z = 4)) with e_5 | e_5
  · refine lv_tableIn (off := 261) (tgt := 294) hx hb dL_law_33 (by rw [e_5]; decide) (by rw [e_5]; decide) (by rw [e_5]; rfl) (by decide) ?_
    refine lv_aload_n hx hb dL_law_294 rfl (lv_at hl 2 rfl) ?_
    refine lv_aload_n hx hb dL_law_295 rfl (lv_at hl 3 rfl) ?_
    refine lv_iload_n hx hb dL_law_296 rfl (lv_at hl 0 rfl) ?_
    refine lv_iconst (v := 1) hx hb dL_law_297 (by decide) ?_
    refine lv_iadd hx hb dL_law_298 ?_
    rw [show (0 + 1 : Int32) = (1 : Int32) from by decide]
    refine va_sld hx hb hX hbl hbA hS (i := 1) (by unfold vp_in; decide) dL_law_299 ?_
    refine lv_aload_n hx hb dL_law_300 rfl (lv_at hl 3 rfl) ?_
    refine lv_iload_n hx hb dL_law_301 rfl (lv_at hl 0 rfl) ?_
    refine lv_iconst (v := 2) hx hb dL_law_302 (by decide) ?_
    refine lv_iadd hx hb dL_law_303 ?_
    rw [show (0 + 2 : Int32) = (2 : Int32) from by decide]
    refine va_sld hx hb hX hbl hbA hS (i := 2) (by unfold vp_in; decide) dL_law_304 ?_
    refine pu_call (va_runV (As := [.int (xs (Int32.toNatClampNeg 1)), .int (xs (Int32.toNatClampNeg 2))]) (rest := []) ⟨hx, hb, hml, hown, hts⟩ (c_X7_send l dC dI x0 q cy (xs (Int32.toNatClampNeg 1)) (xs (Int32.toNatClampNeg 2))) (cwV 2 hts gL_law_X7_send rfl rfl rfl (by decide +kernel) ⟨Nat.le_of_ble_eq_true rfl, Nat.le_of_ble_eq_true rfl⟩) (pu_pre hPx hKx (ci := 6) (q0 := 0) rfl rfl) rfl rfl hl.1 rfl (lv_room (Nat.le_of_ble_eq_true rfl)) dL_law_305 ⟨Nat.le_of_ble_eq_true rfl, Nat.le_of_ble_eq_true rfl⟩) ?_
    refine lv_aload_n hx hb dL_law_308 rfl (lv_at hl 1 rfl) ?_
    refine lv_aload_n hx hb dL_law_309 rfl (lv_at hl 3 rfl) ?_
    refine lv_iload_n hx hb dL_law_310 rfl (lv_at hl 0 rfl) ?_
    refine lv_iconst (v := 1) hx hb dL_law_311 (by decide) ?_
    refine lv_iadd hx hb dL_law_312 ?_
    rw [show (0 + 1 : Int32) = (1 : Int32) from by decide]
    refine va_sld hx hb hX hbl hbA hS (i := 1) (by unfold vp_in; decide) dL_law_313 ?_
    refine lv_aload_n hx hb dL_law_314 rfl (lv_at hl 3 rfl) ?_
    refine lv_iload_n hx hb dL_law_315 rfl (lv_at hl 0 rfl) ?_
    refine lv_iconst (v := 2) hx hb dL_law_316 (by decide) ?_
    refine lv_iadd hx hb dL_law_317 ?_
    rw [show (0 + 2 : Int32) = (2 : Int32) from by decide]
    refine va_sld hx hb hX hbl hbA hS (i := 2) (by unfold vp_in; decide) dL_law_318 ?_
    refine pu_call (va_runV (As := [.int (xs (Int32.toNatClampNeg 1)), .int (xs (Int32.toNatClampNeg 2))]) (rest := [.int (-1)]) ⟨hx, hb, hml, hown, hts⟩ (c_X8_send l dC dI m0 qm cI (xs (Int32.toNatClampNeg 1)) (xs (Int32.toNatClampNeg 2))) (cwV 2 hts gL_law_X8_send rfl rfl rfl (by decide +kernel) ⟨Nat.le_of_ble_eq_true rfl, Nat.le_of_ble_eq_true rfl⟩) (pu_pre hPm hK (ci := 7) (q0 := 0) rfl rfl) rfl rfl hl.1 rfl (lv_room (Nat.le_of_ble_eq_true rfl)) dL_law_319 ⟨Nat.le_of_ble_eq_true rfl, Nat.le_of_ble_eq_true rfl⟩) ?_
    refine lv_icmp_eq (tgt := 1170) hx hb dL_law_322 (by decide) (fun _ => ?_) (fun h => absurd rfl h)
    refine W.widen (k := 600000) (n := 7302250) (Nat.le_of_ble_eq_true rfl) (Nat.le_of_ble_eq_true rfl) ?_
    exact fin _ _ ls hS hl
  rcases (Decidable.em (z = 5)) with e_6 | e_6
  · refine lv_tableIn (off := 294) (tgt := 327) hx hb dL_law_33 (by rw [e_6]; decide) (by rw [e_6]; decide) (by rw [e_6]; rfl) (by decide) ?_
    refine lv_aload_n hx hb dL_law_327 rfl (lv_at hl 2 rfl) ?_
    refine lv_aload_n hx hb dL_law_328 rfl (lv_at hl 3 rfl) ?_
    refine lv_iload_n hx hb dL_law_329 rfl (lv_at hl 0 rfl) ?_
    refine lv_iconst (v := 1) hx hb dL_law_330 (by decide) ?_
    refine lv_iadd hx hb dL_law_331 ?_
    rw [show (0 + 1 : Int32) = (1 : Int32) from by decide]
    refine va_sld hx hb hX hbl hbA hS (i := 1) (by unfold vp_in; decide) dL_law_332 ?_
    refine pu_call (va_runV (As := [.int (xs (Int32.toNatClampNeg 1))]) (rest := []) ⟨hx, hb, hml, hown, hts⟩ (c_X7_lose l dC dI x0 q cy (xs (Int32.toNatClampNeg 1))) (cwV 1 hts gL_law_X7_lose rfl rfl rfl (by decide +kernel) ⟨Nat.le_of_ble_eq_true rfl, Nat.le_of_ble_eq_true rfl⟩) (pu_pre hPx hKx (ci := 6) (q0 := 0) rfl rfl) rfl rfl hl.1 rfl (lv_room (Nat.le_of_ble_eq_true rfl)) dL_law_333 ⟨Nat.le_of_ble_eq_true rfl, Nat.le_of_ble_eq_true rfl⟩) ?_
    refine lv_aload_n hx hb dL_law_336 rfl (lv_at hl 1 rfl) ?_
    refine lv_aload_n hx hb dL_law_337 rfl (lv_at hl 3 rfl) ?_
    refine lv_iload_n hx hb dL_law_338 rfl (lv_at hl 0 rfl) ?_
    refine lv_iconst (v := 1) hx hb dL_law_339 (by decide) ?_
    refine lv_iadd hx hb dL_law_340 ?_
    rw [show (0 + 1 : Int32) = (1 : Int32) from by decide]
    refine va_sld hx hb hX hbl hbA hS (i := 1) (by unfold vp_in; decide) dL_law_341 ?_
    refine pu_call (va_runV (As := [.int (xs (Int32.toNatClampNeg 1))]) (rest := [.int (-1)]) ⟨hx, hb, hml, hown, hts⟩ (c_X8_lose l dC dI m0 qm cI (xs (Int32.toNatClampNeg 1))) (cwV 1 hts gL_law_X8_lose rfl rfl rfl (by decide +kernel) ⟨Nat.le_of_ble_eq_true rfl, Nat.le_of_ble_eq_true rfl⟩) (pu_pre hPm hK (ci := 7) (q0 := 0) rfl rfl) rfl rfl hl.1 rfl (lv_room (Nat.le_of_ble_eq_true rfl)) dL_law_342 ⟨Nat.le_of_ble_eq_true rfl, Nat.le_of_ble_eq_true rfl⟩) ?_
    refine lv_icmp_eq (tgt := 1170) hx hb dL_law_345 (by decide) (fun _ => ?_) (fun h => absurd rfl h)
    refine W.widen (k := 600000) (n := 7302250) (Nat.le_of_ble_eq_true rfl) (Nat.le_of_ble_eq_true rfl) ?_
    exact fin _ _ ls hS hl
  rcases (Decidable.em (z = 6)) with e_7 | e_7
  · refine lv_tableIn (off := 317) (tgt := 350) hx hb dL_law_33 (by rw [e_7]; decide) (by rw [e_7]; decide) (by rw [e_7]; rfl) (by decide) ?_
    refine lv_aload_n hx hb dL_law_350 rfl (lv_at hl 2 rfl) ?_
    refine lv_aload_n hx hb dL_law_351 rfl (lv_at hl 3 rfl) ?_
    refine lv_iload_n hx hb dL_law_352 rfl (lv_at hl 0 rfl) ?_
    refine lv_iconst (v := 1) hx hb dL_law_353 (by decide) ?_
    refine lv_iadd hx hb dL_law_354 ?_
    rw [show (0 + 1 : Int32) = (1 : Int32) from by decide]
    refine va_sld hx hb hX hbl hbA hS (i := 1) (by unfold vp_in; decide) dL_law_355 ?_
    refine lv_aload_n hx hb dL_law_356 rfl (lv_at hl 3 rfl) ?_
    refine lv_iload_n hx hb dL_law_357 rfl (lv_at hl 0 rfl) ?_
    refine lv_iconst (v := 2) hx hb dL_law_358 (by decide) ?_
    refine lv_iadd hx hb dL_law_359 ?_
    rw [show (0 + 2 : Int32) = (2 : Int32) from by decide]
    refine va_sld hx hb hX hbl hbA hS (i := 2) (by unfold vp_in; decide) dL_law_360 ?_
    refine lv_aload_n hx hb dL_law_361 rfl (lv_at hl 3 rfl) ?_
    refine lv_iload_n hx hb dL_law_362 rfl (lv_at hl 0 rfl) ?_
    refine lv_iconst (v := 3) hx hb dL_law_363 (by decide) ?_
    refine lv_iadd hx hb dL_law_364 ?_
    rw [show (0 + 3 : Int32) = (3 : Int32) from by decide]
    refine va_sld hx hb hX hbl hbA hS (i := 3) (by unfold vp_in; decide) dL_law_365 ?_
    refine pu_call (va_runV (As := [.int (xs (Int32.toNatClampNeg 1)), .int (xs (Int32.toNatClampNeg 2)), .int (xs (Int32.toNatClampNeg 3))]) (rest := []) ⟨hx, hb, hml, hown, hts⟩ (c_X7_spoil l dC dI x0 q cy (xs (Int32.toNatClampNeg 1)) (xs (Int32.toNatClampNeg 2)) (xs (Int32.toNatClampNeg 3))) (cwV 3 hts gL_law_X7_spoil rfl rfl rfl (by decide +kernel) ⟨Nat.le_of_ble_eq_true rfl, Nat.le_of_ble_eq_true rfl⟩) (pu_pre hPx hKx (ci := 6) (q0 := 0) rfl rfl) rfl rfl hl.1 rfl (lv_room (Nat.le_of_ble_eq_true rfl)) dL_law_366 ⟨Nat.le_of_ble_eq_true rfl, Nat.le_of_ble_eq_true rfl⟩) ?_
    refine lv_aload_n hx hb dL_law_369 rfl (lv_at hl 1 rfl) ?_
    refine lv_aload_n hx hb dL_law_370 rfl (lv_at hl 3 rfl) ?_
    refine lv_iload_n hx hb dL_law_371 rfl (lv_at hl 0 rfl) ?_
    refine lv_iconst (v := 1) hx hb dL_law_372 (by decide) ?_
    refine lv_iadd hx hb dL_law_373 ?_
    rw [show (0 + 1 : Int32) = (1 : Int32) from by decide]
    refine va_sld hx hb hX hbl hbA hS (i := 1) (by unfold vp_in; decide) dL_law_374 ?_
    refine lv_aload_n hx hb dL_law_375 rfl (lv_at hl 3 rfl) ?_
    refine lv_iload_n hx hb dL_law_376 rfl (lv_at hl 0 rfl) ?_
    refine lv_iconst (v := 2) hx hb dL_law_377 (by decide) ?_
    refine lv_iadd hx hb dL_law_378 ?_
    rw [show (0 + 2 : Int32) = (2 : Int32) from by decide]
    refine va_sld hx hb hX hbl hbA hS (i := 2) (by unfold vp_in; decide) dL_law_379 ?_
    refine lv_aload_n hx hb dL_law_380 rfl (lv_at hl 3 rfl) ?_
    refine lv_iload_n hx hb dL_law_381 rfl (lv_at hl 0 rfl) ?_
    refine lv_iconst (v := 3) hx hb dL_law_382 (by decide) ?_
    refine lv_iadd hx hb dL_law_383 ?_
    rw [show (0 + 3 : Int32) = (3 : Int32) from by decide]
    refine va_sld hx hb hX hbl hbA hS (i := 3) (by unfold vp_in; decide) dL_law_384 ?_
    refine pu_call (va_runV (As := [.int (xs (Int32.toNatClampNeg 1)), .int (xs (Int32.toNatClampNeg 2)), .int (xs (Int32.toNatClampNeg 3))]) (rest := [.int 0]) ⟨hx, hb, hml, hown, hts⟩ (c_X8_spoil l dC dI m0 qm cI (xs (Int32.toNatClampNeg 1)) (xs (Int32.toNatClampNeg 2)) (xs (Int32.toNatClampNeg 3))) (cwV 3 hts gL_law_X8_spoil rfl rfl rfl (by decide +kernel) ⟨Nat.le_of_ble_eq_true rfl, Nat.le_of_ble_eq_true rfl⟩) (pu_pre hPm hK (ci := 7) (q0 := 0) rfl rfl) rfl rfl hl.1 rfl (lv_room (Nat.le_of_ble_eq_true rfl)) dL_law_385 ⟨Nat.le_of_ble_eq_true rfl, Nat.le_of_ble_eq_true rfl⟩) ?_
    refine lv_icmp_eq (tgt := 1170) hx hb dL_law_388 (by decide) (fun _ => ?_) (fun h => absurd rfl h)
    refine W.widen (k := 600000) (n := 7302250) (Nat.le_of_ble_eq_true rfl) (Nat.le_of_ble_eq_true rfl) ?_
    exact fin _ _ ls hS hl
  rcases (Decidable.em (z = 7)) with e_8 | e_8
  · refine lv_tableIn (off := 360) (tgt := 393) hx hb dL_law_33 (by rw [e_8]; decide) (by rw [e_8]; decide) (by rw [e_8]; rfl) (by decide) ?_
    refine lv_aload_n hx hb dL_law_393 rfl (lv_at hl 2 rfl) ?_
    refine lv_aload_n hx hb dL_law_394 rfl (lv_at hl 3 rfl) ?_
    refine lv_iload_n hx hb dL_law_395 rfl (lv_at hl 0 rfl) ?_
    refine lv_iconst (v := 1) hx hb dL_law_396 (by decide) ?_
    refine lv_iadd hx hb dL_law_397 ?_
    rw [show (0 + 1 : Int32) = (1 : Int32) from by decide]
    refine va_sld hx hb hX hbl hbA hS (i := 1) (by unfold vp_in; decide) dL_law_398 ?_
    refine va_calli (va_runV (As := [.int (xs (Int32.toNatClampNeg 1))]) (rest := []) ⟨hx, hb, hml, hown, hts⟩ (c_X7_go l dC dI x0 q (ax_ s.heap.size m0 qm) hX0 (xs (Int32.toNatClampNeg 1))) (cwV 1 hts gL_law_X7_go rfl rfl rfl (by decide +kernel) ⟨Nat.le_of_ble_eq_true rfl, Nat.le_of_ble_eq_true rfl⟩) (pu_pre hPg hKg (ci := 6) (q0 := 0) rfl rfl) rfl rfl hl.1 rfl (lv_room (Nat.le_of_ble_eq_true rfl)) dL_law_399 ⟨Nat.le_of_ble_eq_true rfl, Nat.le_of_ble_eq_true rfl⟩) hS (fun a _ h => h.1) (fun a h => h.1) (fun r u t H1 locs ht hvm hw _ hz1 hk1 hS => ?_)
    subst hw
    have hPm := hPm.kept (H1 := H1) (fun k x hx => hk1 x.1 ((hPm k x hx).lt) (hXm k x hx))
    refine lv_aload_n hx hb dL_law_402 rfl (lv_at hl 1 rfl) ?_
    refine lv_aload_n hx hb dL_law_403 rfl (lv_at hl 3 rfl) ?_
    refine lv_iload_n hx hb dL_law_404 rfl (lv_at hl 0 rfl) ?_
    refine lv_iconst (v := 1) hx hb dL_law_405 (by decide) ?_
    refine lv_iadd hx hb dL_law_406 ?_
    rw [show (0 + 1 : Int32) = (1 : Int32) from by decide]
    refine va_sld hx hb hX hbl hbA hS (i := 1) (by unfold vp_in; decide) dL_law_407 ?_
    refine va_calli (va_runV (As := [.int (xs (Int32.toNatClampNeg 1))]) (rest := [.int (sp_go (xs (Int32.toNatClampNeg 1)))]) ⟨hx, hb, hml, hown, hts⟩ (c_X8_go l dC dI m0 qm (fun a => s.heap.size ≤ a) hM0 (xs (Int32.toNatClampNeg 1))) (cwV 1 hts gL_law_X8_go rfl rfl rfl (by decide +kernel) ⟨Nat.le_of_ble_eq_true rfl, Nat.le_of_ble_eq_true rfl⟩) (pu_pre (hPm.sub (ws' := [(m0, .inr (7, fm_O qm))]) [0] rfl) hKg (ci := 7) (q0 := 0) rfl rfl) rfl rfl hl.1 rfl (lv_room (Nat.le_of_ble_eq_true rfl)) dL_law_408 ⟨Nat.le_of_ble_eq_true rfl, Nat.le_of_ble_eq_true rfl⟩) hS (fun a _ h => h) (fun a h => h) (fun r u t H1 locs ht hvm hw _ hz1 hk1 hS => ?_)
    subst hw
    refine lv_icmp_eq (tgt := 1170) hx hb dL_law_411 (by decide) (fun _ => ?_) (fun h => absurd rfl h)
    refine W.widen (k := 600000) (n := 7302250) (Nat.le_of_ble_eq_true rfl) (Nat.le_of_ble_eq_true rfl) ?_
    exact fin _ _ ls hS hl
  rcases (Decidable.em (z = 8)) with e_9 | e_9
  · refine lv_tableIn (off := 383) (tgt := 416) hx hb dL_law_33 (by rw [e_9]; decide) (by rw [e_9]; decide) (by rw [e_9]; rfl) (by decide) ?_
    refine lv_aload_n hx hb dL_law_416 rfl (lv_at hl 2 rfl) ?_
    refine lv_aload_n hx hb dL_law_417 rfl (lv_at hl 3 rfl) ?_
    refine lv_iload_n hx hb dL_law_418 rfl (lv_at hl 0 rfl) ?_
    refine lv_iconst (v := 1) hx hb dL_law_419 (by decide) ?_
    refine lv_iadd hx hb dL_law_420 ?_
    rw [show (0 + 1 : Int32) = (1 : Int32) from by decide]
    refine va_sld hx hb hX hbl hbA hS (i := 1) (by unfold vp_in; decide) dL_law_421 ?_
    refine lv_aload_n hx hb dL_law_422 rfl (lv_at hl 3 rfl) ?_
    refine lv_iload_n hx hb dL_law_423 rfl (lv_at hl 0 rfl) ?_
    refine lv_iconst (v := 2) hx hb dL_law_424 (by decide) ?_
    refine lv_iadd hx hb dL_law_425 ?_
    rw [show (0 + 2 : Int32) = (2 : Int32) from by decide]
    refine va_sld hx hb hX hbl hbA hS (i := 2) (by unfold vp_in; decide) dL_law_426 ?_
    refine lv_aload_n hx hb dL_law_427 rfl (lv_at hl 3 rfl) ?_
    refine lv_iload_n hx hb dL_law_428 rfl (lv_at hl 0 rfl) ?_
    refine lv_iconst (v := 3) hx hb dL_law_429 (by decide) ?_
    refine lv_iadd hx hb dL_law_430 ?_
    rw [show (0 + 3 : Int32) = (3 : Int32) from by decide]
    refine va_sld hx hb hX hbl hbA hS (i := 3) (by unfold vp_in; decide) dL_law_431 ?_
    refine lv_aload_n hx hb dL_law_432 rfl (lv_at hl 3 rfl) ?_
    refine lv_iload_n hx hb dL_law_433 rfl (lv_at hl 0 rfl) ?_
    refine lv_iconst (v := 4) hx hb dL_law_434 (by decide) ?_
    refine lv_iadd hx hb dL_law_435 ?_
    rw [show (0 + 4 : Int32) = (4 : Int32) from by decide]
    refine va_sld hx hb hX hbl hbA hS (i := 4) (by unfold vp_in; decide) dL_law_436 ?_
    refine pu_call (va_runV (As := [.int (xs (Int32.toNatClampNeg 1)), .int (xs (Int32.toNatClampNeg 2)), .int (xs (Int32.toNatClampNeg 3)), .int (xs (Int32.toNatClampNeg 4))]) (rest := []) ⟨hx, hb, hml, hown, hts⟩ (c_X7_sell l dC dI x0 q cy (xs (Int32.toNatClampNeg 1)) (xs (Int32.toNatClampNeg 2)) (xs (Int32.toNatClampNeg 3)) (xs (Int32.toNatClampNeg 4))) (cwV 4 hts gL_law_X7_sell rfl rfl rfl (by decide +kernel) ⟨Nat.le_of_ble_eq_true rfl, Nat.le_of_ble_eq_true rfl⟩) (pu_pre hPx hKx (ci := 6) (q0 := 0) rfl rfl) rfl rfl hl.1 rfl (lv_room (Nat.le_of_ble_eq_true rfl)) dL_law_437 ⟨Nat.le_of_ble_eq_true rfl, Nat.le_of_ble_eq_true rfl⟩) ?_
    refine lv_aload_n hx hb dL_law_440 rfl (lv_at hl 1 rfl) ?_
    refine lv_aload_n hx hb dL_law_441 rfl (lv_at hl 3 rfl) ?_
    refine lv_iload_n hx hb dL_law_442 rfl (lv_at hl 0 rfl) ?_
    refine lv_iconst (v := 1) hx hb dL_law_443 (by decide) ?_
    refine lv_iadd hx hb dL_law_444 ?_
    rw [show (0 + 1 : Int32) = (1 : Int32) from by decide]
    refine va_sld hx hb hX hbl hbA hS (i := 1) (by unfold vp_in; decide) dL_law_445 ?_
    refine lv_aload_n hx hb dL_law_446 rfl (lv_at hl 3 rfl) ?_
    refine lv_iload_n hx hb dL_law_447 rfl (lv_at hl 0 rfl) ?_
    refine lv_iconst (v := 2) hx hb dL_law_448 (by decide) ?_
    refine lv_iadd hx hb dL_law_449 ?_
    rw [show (0 + 2 : Int32) = (2 : Int32) from by decide]
    refine va_sld hx hb hX hbl hbA hS (i := 2) (by unfold vp_in; decide) dL_law_450 ?_
    refine lv_aload_n hx hb dL_law_451 rfl (lv_at hl 3 rfl) ?_
    refine lv_iload_n hx hb dL_law_452 rfl (lv_at hl 0 rfl) ?_
    refine lv_iconst (v := 3) hx hb dL_law_453 (by decide) ?_
    refine lv_iadd hx hb dL_law_454 ?_
    rw [show (0 + 3 : Int32) = (3 : Int32) from by decide]
    refine va_sld hx hb hX hbl hbA hS (i := 3) (by unfold vp_in; decide) dL_law_455 ?_
    refine lv_aload_n hx hb dL_law_456 rfl (lv_at hl 3 rfl) ?_
    refine lv_iload_n hx hb dL_law_457 rfl (lv_at hl 0 rfl) ?_
    refine lv_iconst (v := 4) hx hb dL_law_458 (by decide) ?_
    refine lv_iadd hx hb dL_law_459 ?_
    rw [show (0 + 4 : Int32) = (4 : Int32) from by decide]
    refine va_sld hx hb hX hbl hbA hS (i := 4) (by unfold vp_in; decide) dL_law_460 ?_
    refine pu_call (va_runV (As := [.int (xs (Int32.toNatClampNeg 1)), .int (xs (Int32.toNatClampNeg 2)), .int (xs (Int32.toNatClampNeg 3)), .int (xs (Int32.toNatClampNeg 4))]) (rest := [.int (-1)]) ⟨hx, hb, hml, hown, hts⟩ (c_X8_sell l dC dI m0 qm cI (xs (Int32.toNatClampNeg 1)) (xs (Int32.toNatClampNeg 2)) (xs (Int32.toNatClampNeg 3)) (xs (Int32.toNatClampNeg 4))) (cwV 4 hts gL_law_X8_sell rfl rfl rfl (by decide +kernel) ⟨Nat.le_of_ble_eq_true rfl, Nat.le_of_ble_eq_true rfl⟩) (pu_pre hPm hK (ci := 7) (q0 := 0) rfl rfl) rfl rfl hl.1 rfl (lv_room (Nat.le_of_ble_eq_true rfl)) dL_law_461 ⟨Nat.le_of_ble_eq_true rfl, Nat.le_of_ble_eq_true rfl⟩) ?_
    refine lv_icmp_eq (tgt := 1170) hx hb dL_law_464 (by decide) (fun _ => ?_) (fun h => absurd rfl h)
    refine W.widen (k := 600000) (n := 7302250) (Nat.le_of_ble_eq_true rfl) (Nat.le_of_ble_eq_true rfl) ?_
    exact fin _ _ ls hS hl
  rcases (Decidable.em (z = 9)) with e_10 | e_10
  · refine lv_tableIn (off := 436) (tgt := 469) hx hb dL_law_33 (by rw [e_10]; decide) (by rw [e_10]; decide) (by rw [e_10]; rfl) (by decide) ?_
    refine lv_aload_n hx hb dL_law_469 rfl (lv_at hl 2 rfl) ?_
    refine lv_aload_n hx hb dL_law_470 rfl (lv_at hl 3 rfl) ?_
    refine lv_iload_n hx hb dL_law_471 rfl (lv_at hl 0 rfl) ?_
    refine lv_iconst (v := 1) hx hb dL_law_472 (by decide) ?_
    refine lv_iadd hx hb dL_law_473 ?_
    rw [show (0 + 1 : Int32) = (1 : Int32) from by decide]
    refine va_sld hx hb hX hbl hbA hS (i := 1) (by unfold vp_in; decide) dL_law_474 ?_
    refine lv_aload_n hx hb dL_law_475 rfl (lv_at hl 3 rfl) ?_
    refine lv_iload_n hx hb dL_law_476 rfl (lv_at hl 0 rfl) ?_
    refine lv_iconst (v := 2) hx hb dL_law_477 (by decide) ?_
    refine lv_iadd hx hb dL_law_478 ?_
    rw [show (0 + 2 : Int32) = (2 : Int32) from by decide]
    refine va_sld hx hb hX hbl hbA hS (i := 2) (by unfold vp_in; decide) dL_law_479 ?_
    refine lv_aload_n hx hb dL_law_480 rfl (lv_at hl 3 rfl) ?_
    refine lv_iload_n hx hb dL_law_481 rfl (lv_at hl 0 rfl) ?_
    refine lv_iconst (v := 3) hx hb dL_law_482 (by decide) ?_
    refine lv_iadd hx hb dL_law_483 ?_
    rw [show (0 + 3 : Int32) = (3 : Int32) from by decide]
    refine va_sld hx hb hX hbl hbA hS (i := 3) (by unfold vp_in; decide) dL_law_484 ?_
    refine lv_aload_n hx hb dL_law_485 rfl (lv_at hl 3 rfl) ?_
    refine lv_iload_n hx hb dL_law_486 rfl (lv_at hl 0 rfl) ?_
    refine lv_iconst (v := 4) hx hb dL_law_487 (by decide) ?_
    refine lv_iadd hx hb dL_law_488 ?_
    rw [show (0 + 4 : Int32) = (4 : Int32) from by decide]
    refine va_sld hx hb hX hbl hbA hS (i := 4) (by unfold vp_in; decide) dL_law_489 ?_
    refine pu_call (va_runV (As := [.int (xs (Int32.toNatClampNeg 1)), .int (xs (Int32.toNatClampNeg 2)), .int (xs (Int32.toNatClampNeg 3)), .int (xs (Int32.toNatClampNeg 4))]) (rest := []) ⟨hx, hb, hml, hown, hts⟩ (c_X7_buy l dC dI x0 q cy (xs (Int32.toNatClampNeg 1)) (xs (Int32.toNatClampNeg 2)) (xs (Int32.toNatClampNeg 3)) (xs (Int32.toNatClampNeg 4))) (cwV 4 hts gL_law_X7_buy rfl rfl rfl (by decide +kernel) ⟨Nat.le_of_ble_eq_true rfl, Nat.le_of_ble_eq_true rfl⟩) (pu_pre hPx hKx (ci := 6) (q0 := 0) rfl rfl) rfl rfl hl.1 rfl (lv_room (Nat.le_of_ble_eq_true rfl)) dL_law_490 ⟨Nat.le_of_ble_eq_true rfl, Nat.le_of_ble_eq_true rfl⟩) ?_
    refine lv_aload_n hx hb dL_law_493 rfl (lv_at hl 1 rfl) ?_
    refine lv_aload_n hx hb dL_law_494 rfl (lv_at hl 3 rfl) ?_
    refine lv_iload_n hx hb dL_law_495 rfl (lv_at hl 0 rfl) ?_
    refine lv_iconst (v := 1) hx hb dL_law_496 (by decide) ?_
    refine lv_iadd hx hb dL_law_497 ?_
    rw [show (0 + 1 : Int32) = (1 : Int32) from by decide]
    refine va_sld hx hb hX hbl hbA hS (i := 1) (by unfold vp_in; decide) dL_law_498 ?_
    refine lv_aload_n hx hb dL_law_499 rfl (lv_at hl 3 rfl) ?_
    refine lv_iload_n hx hb dL_law_500 rfl (lv_at hl 0 rfl) ?_
    refine lv_iconst (v := 2) hx hb dL_law_501 (by decide) ?_
    refine lv_iadd hx hb dL_law_502 ?_
    rw [show (0 + 2 : Int32) = (2 : Int32) from by decide]
    refine va_sld hx hb hX hbl hbA hS (i := 2) (by unfold vp_in; decide) dL_law_503 ?_
    refine lv_aload_n hx hb dL_law_504 rfl (lv_at hl 3 rfl) ?_
    refine lv_iload_n hx hb dL_law_505 rfl (lv_at hl 0 rfl) ?_
    refine lv_iconst (v := 3) hx hb dL_law_506 (by decide) ?_
    refine lv_iadd hx hb dL_law_507 ?_
    rw [show (0 + 3 : Int32) = (3 : Int32) from by decide]
    refine va_sld hx hb hX hbl hbA hS (i := 3) (by unfold vp_in; decide) dL_law_508 ?_
    refine lv_aload_n hx hb dL_law_509 rfl (lv_at hl 3 rfl) ?_
    refine lv_iload_n hx hb dL_law_510 rfl (lv_at hl 0 rfl) ?_
    refine lv_iconst (v := 4) hx hb dL_law_511 (by decide) ?_
    refine lv_iadd hx hb dL_law_512 ?_
    rw [show (0 + 4 : Int32) = (4 : Int32) from by decide]
    refine va_sld hx hb hX hbl hbA hS (i := 4) (by unfold vp_in; decide) dL_law_513 ?_
    refine pu_call (va_runV (As := [.int (xs (Int32.toNatClampNeg 1)), .int (xs (Int32.toNatClampNeg 2)), .int (xs (Int32.toNatClampNeg 3)), .int (xs (Int32.toNatClampNeg 4))]) (rest := [.int (-1)]) ⟨hx, hb, hml, hown, hts⟩ (c_X8_buy l dC dI m0 qm cI (xs (Int32.toNatClampNeg 1)) (xs (Int32.toNatClampNeg 2)) (xs (Int32.toNatClampNeg 3)) (xs (Int32.toNatClampNeg 4))) (cwV 4 hts gL_law_X8_buy rfl rfl rfl (by decide +kernel) ⟨Nat.le_of_ble_eq_true rfl, Nat.le_of_ble_eq_true rfl⟩) (pu_pre hPm hK (ci := 7) (q0 := 0) rfl rfl) rfl rfl hl.1 rfl (lv_room (Nat.le_of_ble_eq_true rfl)) dL_law_514 ⟨Nat.le_of_ble_eq_true rfl, Nat.le_of_ble_eq_true rfl⟩) ?_
    refine lv_icmp_eq (tgt := 1170) hx hb dL_law_517 (by decide) (fun _ => ?_) (fun h => absurd rfl h)
    refine W.widen (k := 600000) (n := 7302250) (Nat.le_of_ble_eq_true rfl) (Nat.le_of_ble_eq_true rfl) ?_
    exact fin _ _ ls hS hl
  rcases (Decidable.em (z = 10)) with e_11 | e_11
  · refine lv_tableIn (off := 489) (tgt := 522) hx hb dL_law_33 (by rw [e_11]; decide) (by rw [e_11]; decide) (by rw [e_11]; rfl) (by decide) ?_
    refine lv_aload_n hx hb dL_law_522 rfl (lv_at hl 2 rfl) ?_
    refine lv_aload_n hx hb dL_law_523 rfl (lv_at hl 3 rfl) ?_
    refine lv_iload_n hx hb dL_law_524 rfl (lv_at hl 0 rfl) ?_
    refine lv_iconst (v := 1) hx hb dL_law_525 (by decide) ?_
    refine lv_iadd hx hb dL_law_526 ?_
    rw [show (0 + 1 : Int32) = (1 : Int32) from by decide]
    refine va_sld hx hb hX hbl hbA hS (i := 1) (by unfold vp_in; decide) dL_law_527 ?_
    refine lv_aload_n hx hb dL_law_528 rfl (lv_at hl 3 rfl) ?_
    refine lv_iload_n hx hb dL_law_529 rfl (lv_at hl 0 rfl) ?_
    refine lv_iconst (v := 2) hx hb dL_law_530 (by decide) ?_
    refine lv_iadd hx hb dL_law_531 ?_
    rw [show (0 + 2 : Int32) = (2 : Int32) from by decide]
    refine va_sld hx hb hX hbl hbA hS (i := 2) (by unfold vp_in; decide) dL_law_532 ?_
    refine lv_aload_n hx hb dL_law_533 rfl (lv_at hl 3 rfl) ?_
    refine lv_iload_n hx hb dL_law_534 rfl (lv_at hl 0 rfl) ?_
    refine lv_iconst (v := 3) hx hb dL_law_535 (by decide) ?_
    refine lv_iadd hx hb dL_law_536 ?_
    rw [show (0 + 3 : Int32) = (3 : Int32) from by decide]
    refine va_sld hx hb hX hbl hbA hS (i := 3) (by unfold vp_in; decide) dL_law_537 ?_
    refine lv_aload_n hx hb dL_law_538 rfl (lv_at hl 3 rfl) ?_
    refine lv_iload_n hx hb dL_law_539 rfl (lv_at hl 0 rfl) ?_
    refine lv_iconst (v := 4) hx hb dL_law_540 (by decide) ?_
    refine lv_iadd hx hb dL_law_541 ?_
    rw [show (0 + 4 : Int32) = (4 : Int32) from by decide]
    refine va_sld hx hb hX hbl hbA hS (i := 4) (by unfold vp_in; decide) dL_law_542 ?_
    refine pu_call (va_runV (As := [.int (xs (Int32.toNatClampNeg 1)), .int (xs (Int32.toNatClampNeg 2)), .int (xs (Int32.toNatClampNeg 3)), .int (xs (Int32.toNatClampNeg 4))]) (rest := []) ⟨hx, hb, hml, hown, hts⟩ (c_X7_give l dC dI x0 q cy (xs (Int32.toNatClampNeg 1)) (xs (Int32.toNatClampNeg 2)) (xs (Int32.toNatClampNeg 3)) (xs (Int32.toNatClampNeg 4))) (cwV 4 hts gL_law_X7_give rfl rfl rfl (by decide +kernel) ⟨Nat.le_of_ble_eq_true rfl, Nat.le_of_ble_eq_true rfl⟩) (pu_pre hPx hKx (ci := 6) (q0 := 0) rfl rfl) rfl rfl hl.1 rfl (lv_room (Nat.le_of_ble_eq_true rfl)) dL_law_543 ⟨Nat.le_of_ble_eq_true rfl, Nat.le_of_ble_eq_true rfl⟩) ?_
    refine lv_aload_n hx hb dL_law_546 rfl (lv_at hl 1 rfl) ?_
    refine lv_aload_n hx hb dL_law_547 rfl (lv_at hl 3 rfl) ?_
    refine lv_iload_n hx hb dL_law_548 rfl (lv_at hl 0 rfl) ?_
    refine lv_iconst (v := 1) hx hb dL_law_549 (by decide) ?_
    refine lv_iadd hx hb dL_law_550 ?_
    rw [show (0 + 1 : Int32) = (1 : Int32) from by decide]
    refine va_sld hx hb hX hbl hbA hS (i := 1) (by unfold vp_in; decide) dL_law_551 ?_
    refine lv_aload_n hx hb dL_law_552 rfl (lv_at hl 3 rfl) ?_
    refine lv_iload_n hx hb dL_law_553 rfl (lv_at hl 0 rfl) ?_
    refine lv_iconst (v := 2) hx hb dL_law_554 (by decide) ?_
    refine lv_iadd hx hb dL_law_555 ?_
    rw [show (0 + 2 : Int32) = (2 : Int32) from by decide]
    refine va_sld hx hb hX hbl hbA hS (i := 2) (by unfold vp_in; decide) dL_law_556 ?_
    refine lv_aload_n hx hb dL_law_557 rfl (lv_at hl 3 rfl) ?_
    refine lv_iload_n hx hb dL_law_558 rfl (lv_at hl 0 rfl) ?_
    refine lv_iconst (v := 3) hx hb dL_law_559 (by decide) ?_
    refine lv_iadd hx hb dL_law_560 ?_
    rw [show (0 + 3 : Int32) = (3 : Int32) from by decide]
    refine va_sld hx hb hX hbl hbA hS (i := 3) (by unfold vp_in; decide) dL_law_561 ?_
    refine lv_aload_n hx hb dL_law_562 rfl (lv_at hl 3 rfl) ?_
    refine lv_iload_n hx hb dL_law_563 rfl (lv_at hl 0 rfl) ?_
    refine lv_iconst (v := 4) hx hb dL_law_564 (by decide) ?_
    refine lv_iadd hx hb dL_law_565 ?_
    rw [show (0 + 4 : Int32) = (4 : Int32) from by decide]
    refine va_sld hx hb hX hbl hbA hS (i := 4) (by unfold vp_in; decide) dL_law_566 ?_
    refine pu_call (va_runV (As := [.int (xs (Int32.toNatClampNeg 1)), .int (xs (Int32.toNatClampNeg 2)), .int (xs (Int32.toNatClampNeg 3)), .int (xs (Int32.toNatClampNeg 4))]) (rest := [.int (-1)]) ⟨hx, hb, hml, hown, hts⟩ (c_X8_give l dC dI m0 qm cI (xs (Int32.toNatClampNeg 1)) (xs (Int32.toNatClampNeg 2)) (xs (Int32.toNatClampNeg 3)) (xs (Int32.toNatClampNeg 4))) (cwV 4 hts gL_law_X8_give rfl rfl rfl (by decide +kernel) ⟨Nat.le_of_ble_eq_true rfl, Nat.le_of_ble_eq_true rfl⟩) (pu_pre hPm hK (ci := 7) (q0 := 0) rfl rfl) rfl rfl hl.1 rfl (lv_room (Nat.le_of_ble_eq_true rfl)) dL_law_567 ⟨Nat.le_of_ble_eq_true rfl, Nat.le_of_ble_eq_true rfl⟩) ?_
    refine lv_icmp_eq (tgt := 1170) hx hb dL_law_570 (by decide) (fun _ => ?_) (fun h => absurd rfl h)
    refine W.widen (k := 600000) (n := 7302250) (Nat.le_of_ble_eq_true rfl) (Nat.le_of_ble_eq_true rfl) ?_
    exact fin _ _ ls hS hl
  rcases (Decidable.em (z = 11)) with e_12 | e_12
  · refine lv_tableIn (off := 542) (tgt := 575) hx hb dL_law_33 (by rw [e_12]; decide) (by rw [e_12]; decide) (by rw [e_12]; rfl) (by decide) ?_
    refine lv_aload_n hx hb dL_law_575 rfl (lv_at hl 2 rfl) ?_
    refine lv_aload_n hx hb dL_law_576 rfl (lv_at hl 3 rfl) ?_
    refine lv_iload_n hx hb dL_law_577 rfl (lv_at hl 0 rfl) ?_
    refine lv_iconst (v := 1) hx hb dL_law_578 (by decide) ?_
    refine lv_iadd hx hb dL_law_579 ?_
    rw [show (0 + 1 : Int32) = (1 : Int32) from by decide]
    refine va_sld hx hb hX hbl hbA hS (i := 1) (by unfold vp_in; decide) dL_law_580 ?_
    refine lv_aload_n hx hb dL_law_581 rfl (lv_at hl 3 rfl) ?_
    refine lv_iload_n hx hb dL_law_582 rfl (lv_at hl 0 rfl) ?_
    refine lv_iconst (v := 2) hx hb dL_law_583 (by decide) ?_
    refine lv_iadd hx hb dL_law_584 ?_
    rw [show (0 + 2 : Int32) = (2 : Int32) from by decide]
    refine va_sld hx hb hX hbl hbA hS (i := 2) (by unfold vp_in; decide) dL_law_585 ?_
    refine pu_call (va_runV (As := [.int (xs (Int32.toNatClampNeg 1)), .int (xs (Int32.toNatClampNeg 2))]) (rest := []) ⟨hx, hb, hml, hown, hts⟩ (c_X7_owes l dC dI x0 q cy (xs (Int32.toNatClampNeg 1)) (xs (Int32.toNatClampNeg 2))) (cwV 2 hts gL_law_X7_owes rfl rfl rfl (by decide +kernel) ⟨Nat.le_of_ble_eq_true rfl, Nat.le_of_ble_eq_true rfl⟩) (pu_pre hPx hKx (ci := 6) (q0 := 0) rfl rfl) rfl rfl hl.1 rfl (lv_room (Nat.le_of_ble_eq_true rfl)) dL_law_586 ⟨Nat.le_of_ble_eq_true rfl, Nat.le_of_ble_eq_true rfl⟩) ?_
    refine lv_aload_n hx hb dL_law_589 rfl (lv_at hl 1 rfl) ?_
    refine lv_aload_n hx hb dL_law_590 rfl (lv_at hl 3 rfl) ?_
    refine lv_iload_n hx hb dL_law_591 rfl (lv_at hl 0 rfl) ?_
    refine lv_iconst (v := 1) hx hb dL_law_592 (by decide) ?_
    refine lv_iadd hx hb dL_law_593 ?_
    rw [show (0 + 1 : Int32) = (1 : Int32) from by decide]
    refine va_sld hx hb hX hbl hbA hS (i := 1) (by unfold vp_in; decide) dL_law_594 ?_
    refine lv_aload_n hx hb dL_law_595 rfl (lv_at hl 3 rfl) ?_
    refine lv_iload_n hx hb dL_law_596 rfl (lv_at hl 0 rfl) ?_
    refine lv_iconst (v := 2) hx hb dL_law_597 (by decide) ?_
    refine lv_iadd hx hb dL_law_598 ?_
    rw [show (0 + 2 : Int32) = (2 : Int32) from by decide]
    refine va_sld hx hb hX hbl hbA hS (i := 2) (by unfold vp_in; decide) dL_law_599 ?_
    refine pu_call (va_runV (As := [.int (xs (Int32.toNatClampNeg 1)), .int (xs (Int32.toNatClampNeg 2))]) (rest := [.int 0]) ⟨hx, hb, hml, hown, hts⟩ (c_X8_owes l dC dI m0 qm cI (xs (Int32.toNatClampNeg 1)) (xs (Int32.toNatClampNeg 2))) (cwV 2 hts gL_law_X8_owes rfl rfl rfl (by decide +kernel) ⟨Nat.le_of_ble_eq_true rfl, Nat.le_of_ble_eq_true rfl⟩) (pu_pre hPm hK (ci := 7) (q0 := 0) rfl rfl) rfl rfl hl.1 rfl (lv_room (Nat.le_of_ble_eq_true rfl)) dL_law_600 ⟨Nat.le_of_ble_eq_true rfl, Nat.le_of_ble_eq_true rfl⟩) ?_
    refine lv_icmp_eq (tgt := 1170) hx hb dL_law_603 (by decide) (fun _ => ?_) (fun h => absurd rfl h)
    refine W.widen (k := 600000) (n := 7302250) (Nat.le_of_ble_eq_true rfl) (Nat.le_of_ble_eq_true rfl) ?_
    exact fin _ _ ls hS hl
  rcases (Decidable.em (z = 12)) with e_13 | e_13
  · refine lv_tableIn (off := 575) (tgt := 608) hx hb dL_law_33 (by rw [e_13]; decide) (by rw [e_13]; decide) (by rw [e_13]; rfl) (by decide) ?_
    refine lv_aload_n hx hb dL_law_608 rfl (lv_at hl 2 rfl) ?_
    refine lv_aload_n hx hb dL_law_609 rfl (lv_at hl 3 rfl) ?_
    refine lv_iload_n hx hb dL_law_610 rfl (lv_at hl 0 rfl) ?_
    refine lv_iconst (v := 1) hx hb dL_law_611 (by decide) ?_
    refine lv_iadd hx hb dL_law_612 ?_
    rw [show (0 + 1 : Int32) = (1 : Int32) from by decide]
    refine va_sld hx hb hX hbl hbA hS (i := 1) (by unfold vp_in; decide) dL_law_613 ?_
    refine lv_aload_n hx hb dL_law_614 rfl (lv_at hl 3 rfl) ?_
    refine lv_iload_n hx hb dL_law_615 rfl (lv_at hl 0 rfl) ?_
    refine lv_iconst (v := 2) hx hb dL_law_616 (by decide) ?_
    refine lv_iadd hx hb dL_law_617 ?_
    rw [show (0 + 2 : Int32) = (2 : Int32) from by decide]
    refine va_sld hx hb hX hbl hbA hS (i := 2) (by unfold vp_in; decide) dL_law_618 ?_
    refine pu_call (va_runV (As := [.int (xs (Int32.toNatClampNeg 1)), .int (xs (Int32.toNatClampNeg 2))]) (rest := []) ⟨hx, hb, hml, hown, hts⟩ (c_X7_price l dC dI x0 q cy (xs (Int32.toNatClampNeg 1)) (xs (Int32.toNatClampNeg 2))) (cwV 2 hts gL_law_X7_price rfl rfl rfl (by decide +kernel) ⟨Nat.le_of_ble_eq_true rfl, Nat.le_of_ble_eq_true rfl⟩) (pu_pre hPx hKx (ci := 6) (q0 := 0) rfl rfl) rfl rfl hl.1 rfl (lv_room (Nat.le_of_ble_eq_true rfl)) dL_law_619 ⟨Nat.le_of_ble_eq_true rfl, Nat.le_of_ble_eq_true rfl⟩) ?_
    refine lv_aload_n hx hb dL_law_622 rfl (lv_at hl 1 rfl) ?_
    refine lv_aload_n hx hb dL_law_623 rfl (lv_at hl 3 rfl) ?_
    refine lv_iload_n hx hb dL_law_624 rfl (lv_at hl 0 rfl) ?_
    refine lv_iconst (v := 1) hx hb dL_law_625 (by decide) ?_
    refine lv_iadd hx hb dL_law_626 ?_
    rw [show (0 + 1 : Int32) = (1 : Int32) from by decide]
    refine va_sld hx hb hX hbl hbA hS (i := 1) (by unfold vp_in; decide) dL_law_627 ?_
    refine lv_aload_n hx hb dL_law_628 rfl (lv_at hl 3 rfl) ?_
    refine lv_iload_n hx hb dL_law_629 rfl (lv_at hl 0 rfl) ?_
    refine lv_iconst (v := 2) hx hb dL_law_630 (by decide) ?_
    refine lv_iadd hx hb dL_law_631 ?_
    rw [show (0 + 2 : Int32) = (2 : Int32) from by decide]
    refine va_sld hx hb hX hbl hbA hS (i := 2) (by unfold vp_in; decide) dL_law_632 ?_
    refine pu_call (va_runV (As := [.int (xs (Int32.toNatClampNeg 1)), .int (xs (Int32.toNatClampNeg 2))]) (rest := [.int (-1)]) ⟨hx, hb, hml, hown, hts⟩ (c_X8_price l dC dI m0 qm cI (xs (Int32.toNatClampNeg 1)) (xs (Int32.toNatClampNeg 2))) (cwV 2 hts gL_law_X8_price rfl rfl rfl (by decide +kernel) ⟨Nat.le_of_ble_eq_true rfl, Nat.le_of_ble_eq_true rfl⟩) (pu_pre hPm hK (ci := 7) (q0 := 0) rfl rfl) rfl rfl hl.1 rfl (lv_room (Nat.le_of_ble_eq_true rfl)) dL_law_633 ⟨Nat.le_of_ble_eq_true rfl, Nat.le_of_ble_eq_true rfl⟩) ?_
    refine lv_icmp_eq (tgt := 1170) hx hb dL_law_636 (by decide) (fun _ => ?_) (fun h => absurd rfl h)
    refine W.widen (k := 600000) (n := 7302250) (Nat.le_of_ble_eq_true rfl) (Nat.le_of_ble_eq_true rfl) ?_
    exact fin _ _ ls hS hl
  rcases (Decidable.em (z = 13)) with e_14 | e_14
  · refine lv_tableIn (off := 608) (tgt := 641) hx hb dL_law_33 (by rw [e_14]; decide) (by rw [e_14]; decide) (by rw [e_14]; rfl) (by decide) ?_
    refine lv_aload_n hx hb dL_law_641 rfl (lv_at hl 2 rfl) ?_
    refine lv_aload_n hx hb dL_law_642 rfl (lv_at hl 3 rfl) ?_
    refine lv_iload_n hx hb dL_law_643 rfl (lv_at hl 0 rfl) ?_
    refine lv_iconst (v := 1) hx hb dL_law_644 (by decide) ?_
    refine lv_iadd hx hb dL_law_645 ?_
    rw [show (0 + 1 : Int32) = (1 : Int32) from by decide]
    refine va_sld hx hb hX hbl hbA hS (i := 1) (by unfold vp_in; decide) dL_law_646 ?_
    refine lv_aload_n hx hb dL_law_647 rfl (lv_at hl 3 rfl) ?_
    refine lv_iload_n hx hb dL_law_648 rfl (lv_at hl 0 rfl) ?_
    refine lv_iconst (v := 2) hx hb dL_law_649 (by decide) ?_
    refine lv_iadd hx hb dL_law_650 ?_
    rw [show (0 + 2 : Int32) = (2 : Int32) from by decide]
    refine va_sld hx hb hX hbl hbA hS (i := 2) (by unfold vp_in; decide) dL_law_651 ?_
    refine lv_aload_n hx hb dL_law_652 rfl (lv_at hl 3 rfl) ?_
    refine lv_iload_n hx hb dL_law_653 rfl (lv_at hl 0 rfl) ?_
    refine lv_iconst (v := 3) hx hb dL_law_654 (by decide) ?_
    refine lv_iadd hx hb dL_law_655 ?_
    rw [show (0 + 3 : Int32) = (3 : Int32) from by decide]
    refine va_sld hx hb hX hbl hbA hS (i := 3) (by unfold vp_in; decide) dL_law_656 ?_
    refine lv_aload_n hx hb dL_law_657 rfl (lv_at hl 3 rfl) ?_
    refine lv_iload_n hx hb dL_law_658 rfl (lv_at hl 0 rfl) ?_
    refine lv_iconst (v := 4) hx hb dL_law_659 (by decide) ?_
    refine lv_iadd hx hb dL_law_660 ?_
    rw [show (0 + 4 : Int32) = (4 : Int32) from by decide]
    refine va_sld hx hb hX hbl hbA hS (i := 4) (by unfold vp_in; decide) dL_law_661 ?_
    refine pu_call (va_runV (As := [.int (xs (Int32.toNatClampNeg 1)), .int (xs (Int32.toNatClampNeg 2)), .int (xs (Int32.toNatClampNeg 3)), .int (xs (Int32.toNatClampNeg 4))]) (rest := []) ⟨hx, hb, hml, hown, hts⟩ (c_X7_order l dC dI x0 q cy (xs (Int32.toNatClampNeg 1)) (xs (Int32.toNatClampNeg 2)) (xs (Int32.toNatClampNeg 3)) (xs (Int32.toNatClampNeg 4))) (cwV 4 hts gL_law_X7_order rfl rfl rfl (by decide +kernel) ⟨Nat.le_of_ble_eq_true rfl, Nat.le_of_ble_eq_true rfl⟩) (pu_pre hPx hKx (ci := 6) (q0 := 0) rfl rfl) rfl rfl hl.1 rfl (lv_room (Nat.le_of_ble_eq_true rfl)) dL_law_662 ⟨Nat.le_of_ble_eq_true rfl, Nat.le_of_ble_eq_true rfl⟩) ?_
    refine lv_aload_n hx hb dL_law_665 rfl (lv_at hl 1 rfl) ?_
    refine lv_aload_n hx hb dL_law_666 rfl (lv_at hl 3 rfl) ?_
    refine lv_iload_n hx hb dL_law_667 rfl (lv_at hl 0 rfl) ?_
    refine lv_iconst (v := 1) hx hb dL_law_668 (by decide) ?_
    refine lv_iadd hx hb dL_law_669 ?_
    rw [show (0 + 1 : Int32) = (1 : Int32) from by decide]
    refine va_sld hx hb hX hbl hbA hS (i := 1) (by unfold vp_in; decide) dL_law_670 ?_
    refine lv_aload_n hx hb dL_law_671 rfl (lv_at hl 3 rfl) ?_
    refine lv_iload_n hx hb dL_law_672 rfl (lv_at hl 0 rfl) ?_
    refine lv_iconst (v := 2) hx hb dL_law_673 (by decide) ?_
    refine lv_iadd hx hb dL_law_674 ?_
    rw [show (0 + 2 : Int32) = (2 : Int32) from by decide]
    refine va_sld hx hb hX hbl hbA hS (i := 2) (by unfold vp_in; decide) dL_law_675 ?_
    refine lv_aload_n hx hb dL_law_676 rfl (lv_at hl 3 rfl) ?_
    refine lv_iload_n hx hb dL_law_677 rfl (lv_at hl 0 rfl) ?_
    refine lv_iconst (v := 3) hx hb dL_law_678 (by decide) ?_
    refine lv_iadd hx hb dL_law_679 ?_
    rw [show (0 + 3 : Int32) = (3 : Int32) from by decide]
    refine va_sld hx hb hX hbl hbA hS (i := 3) (by unfold vp_in; decide) dL_law_680 ?_
    refine lv_aload_n hx hb dL_law_681 rfl (lv_at hl 3 rfl) ?_
    refine lv_iload_n hx hb dL_law_682 rfl (lv_at hl 0 rfl) ?_
    refine lv_iconst (v := 4) hx hb dL_law_683 (by decide) ?_
    refine lv_iadd hx hb dL_law_684 ?_
    rw [show (0 + 4 : Int32) = (4 : Int32) from by decide]
    refine va_sld hx hb hX hbl hbA hS (i := 4) (by unfold vp_in; decide) dL_law_685 ?_
    refine pu_call (va_runV (As := [.int (xs (Int32.toNatClampNeg 1)), .int (xs (Int32.toNatClampNeg 2)), .int (xs (Int32.toNatClampNeg 3)), .int (xs (Int32.toNatClampNeg 4))]) (rest := [.int (-1)]) ⟨hx, hb, hml, hown, hts⟩ (c_X8_order l dC dI m0 qm cI (xs (Int32.toNatClampNeg 1)) (xs (Int32.toNatClampNeg 2)) (xs (Int32.toNatClampNeg 3)) (xs (Int32.toNatClampNeg 4))) (cwV 4 hts gL_law_X8_order rfl rfl rfl (by decide +kernel) ⟨Nat.le_of_ble_eq_true rfl, Nat.le_of_ble_eq_true rfl⟩) (pu_pre hPm hK (ci := 7) (q0 := 0) rfl rfl) rfl rfl hl.1 rfl (lv_room (Nat.le_of_ble_eq_true rfl)) dL_law_686 ⟨Nat.le_of_ble_eq_true rfl, Nat.le_of_ble_eq_true rfl⟩) ?_
    refine lv_icmp_eq (tgt := 1170) hx hb dL_law_689 (by decide) (fun _ => ?_) (fun h => absurd rfl h)
    refine W.widen (k := 600000) (n := 7302250) (Nat.le_of_ble_eq_true rfl) (Nat.le_of_ble_eq_true rfl) ?_
    exact fin _ _ ls hS hl
  rcases (Decidable.em (z = 14)) with e_15 | e_15
  · refine lv_tableIn (off := 661) (tgt := 694) hx hb dL_law_33 (by rw [e_15]; decide) (by rw [e_15]; decide) (by rw [e_15]; rfl) (by decide) ?_
    refine lv_aload_n hx hb dL_law_694 rfl (lv_at hl 2 rfl) ?_
    refine lv_aload_n hx hb dL_law_695 rfl (lv_at hl 3 rfl) ?_
    refine lv_iload_n hx hb dL_law_696 rfl (lv_at hl 0 rfl) ?_
    refine lv_iconst (v := 1) hx hb dL_law_697 (by decide) ?_
    refine lv_iadd hx hb dL_law_698 ?_
    rw [show (0 + 1 : Int32) = (1 : Int32) from by decide]
    refine va_sld hx hb hX hbl hbA hS (i := 1) (by unfold vp_in; decide) dL_law_699 ?_
    refine lv_aload_n hx hb dL_law_700 rfl (lv_at hl 3 rfl) ?_
    refine lv_iload_n hx hb dL_law_701 rfl (lv_at hl 0 rfl) ?_
    refine lv_iconst (v := 2) hx hb dL_law_702 (by decide) ?_
    refine lv_iadd hx hb dL_law_703 ?_
    rw [show (0 + 2 : Int32) = (2 : Int32) from by decide]
    refine va_sld hx hb hX hbl hbA hS (i := 2) (by unfold vp_in; decide) dL_law_704 ?_
    refine lv_aload_n hx hb dL_law_705 rfl (lv_at hl 3 rfl) ?_
    refine lv_iload_n hx hb dL_law_706 rfl (lv_at hl 0 rfl) ?_
    refine lv_iconst (v := 3) hx hb dL_law_707 (by decide) ?_
    refine lv_iadd hx hb dL_law_708 ?_
    rw [show (0 + 3 : Int32) = (3 : Int32) from by decide]
    refine va_sld hx hb hX hbl hbA hS (i := 3) (by unfold vp_in; decide) dL_law_709 ?_
    refine pu_call (va_runV (As := [.int (xs (Int32.toNatClampNeg 1)), .int (xs (Int32.toNatClampNeg 2)), .int (xs (Int32.toNatClampNeg 3))]) (rest := []) ⟨hx, hb, hml, hown, hts⟩ (c_X7_debt l dC dI x0 q cy (xs (Int32.toNatClampNeg 1)) (xs (Int32.toNatClampNeg 2)) (xs (Int32.toNatClampNeg 3))) (cwV 3 hts gL_law_X7_debt rfl rfl rfl (by decide +kernel) ⟨Nat.le_of_ble_eq_true rfl, Nat.le_of_ble_eq_true rfl⟩) (pu_pre hPx hKx (ci := 6) (q0 := 0) rfl rfl) rfl rfl hl.1 rfl (lv_room (Nat.le_of_ble_eq_true rfl)) dL_law_710 ⟨Nat.le_of_ble_eq_true rfl, Nat.le_of_ble_eq_true rfl⟩) ?_
    refine lv_aload_n hx hb dL_law_713 rfl (lv_at hl 1 rfl) ?_
    refine lv_aload_n hx hb dL_law_714 rfl (lv_at hl 3 rfl) ?_
    refine lv_iload_n hx hb dL_law_715 rfl (lv_at hl 0 rfl) ?_
    refine lv_iconst (v := 1) hx hb dL_law_716 (by decide) ?_
    refine lv_iadd hx hb dL_law_717 ?_
    rw [show (0 + 1 : Int32) = (1 : Int32) from by decide]
    refine va_sld hx hb hX hbl hbA hS (i := 1) (by unfold vp_in; decide) dL_law_718 ?_
    refine lv_aload_n hx hb dL_law_719 rfl (lv_at hl 3 rfl) ?_
    refine lv_iload_n hx hb dL_law_720 rfl (lv_at hl 0 rfl) ?_
    refine lv_iconst (v := 2) hx hb dL_law_721 (by decide) ?_
    refine lv_iadd hx hb dL_law_722 ?_
    rw [show (0 + 2 : Int32) = (2 : Int32) from by decide]
    refine va_sld hx hb hX hbl hbA hS (i := 2) (by unfold vp_in; decide) dL_law_723 ?_
    refine lv_aload_n hx hb dL_law_724 rfl (lv_at hl 3 rfl) ?_
    refine lv_iload_n hx hb dL_law_725 rfl (lv_at hl 0 rfl) ?_
    refine lv_iconst (v := 3) hx hb dL_law_726 (by decide) ?_
    refine lv_iadd hx hb dL_law_727 ?_
    rw [show (0 + 3 : Int32) = (3 : Int32) from by decide]
    refine va_sld hx hb hX hbl hbA hS (i := 3) (by unfold vp_in; decide) dL_law_728 ?_
    refine pu_call (va_runV (As := [.int (xs (Int32.toNatClampNeg 1)), .int (xs (Int32.toNatClampNeg 2)), .int (xs (Int32.toNatClampNeg 3))]) (rest := [.int (-1)]) ⟨hx, hb, hml, hown, hts⟩ (c_X8_debt l dC dI m0 qm cI (xs (Int32.toNatClampNeg 1)) (xs (Int32.toNatClampNeg 2)) (xs (Int32.toNatClampNeg 3))) (cwV 3 hts gL_law_X8_debt rfl rfl rfl (by decide +kernel) ⟨Nat.le_of_ble_eq_true rfl, Nat.le_of_ble_eq_true rfl⟩) (pu_pre hPm hK (ci := 7) (q0 := 0) rfl rfl) rfl rfl hl.1 rfl (lv_room (Nat.le_of_ble_eq_true rfl)) dL_law_729 ⟨Nat.le_of_ble_eq_true rfl, Nat.le_of_ble_eq_true rfl⟩) ?_
    refine lv_icmp_eq (tgt := 1170) hx hb dL_law_732 (by decide) (fun _ => ?_) (fun h => absurd rfl h)
    refine W.widen (k := 600000) (n := 7302250) (Nat.le_of_ble_eq_true rfl) (Nat.le_of_ble_eq_true rfl) ?_
    exact fin _ _ ls hS hl
  rcases (Decidable.em (z = 15)) with e_16 | e_16
  · refine lv_tableIn (off := 704) (tgt := 737) hx hb dL_law_33 (by rw [e_16]; decide) (by rw [e_16]; decide) (by rw [e_16]; rfl) (by decide) ?_
    refine lv_aload_n hx hb dL_law_737 rfl (lv_at hl 2 rfl) ?_
    refine lv_aload_n hx hb dL_law_738 rfl (lv_at hl 3 rfl) ?_
    refine lv_iload_n hx hb dL_law_739 rfl (lv_at hl 0 rfl) ?_
    refine lv_iconst (v := 1) hx hb dL_law_740 (by decide) ?_
    refine lv_iadd hx hb dL_law_741 ?_
    rw [show (0 + 1 : Int32) = (1 : Int32) from by decide]
    refine va_sld hx hb hX hbl hbA hS (i := 1) (by unfold vp_in; decide) dL_law_742 ?_
    refine lv_aload_n hx hb dL_law_743 rfl (lv_at hl 3 rfl) ?_
    refine lv_iload_n hx hb dL_law_744 rfl (lv_at hl 0 rfl) ?_
    refine lv_iconst (v := 2) hx hb dL_law_745 (by decide) ?_
    refine lv_iadd hx hb dL_law_746 ?_
    rw [show (0 + 2 : Int32) = (2 : Int32) from by decide]
    refine va_sld hx hb hX hbl hbA hS (i := 2) (by unfold vp_in; decide) dL_law_747 ?_
    refine pu_call (va_runV (As := [.int (xs (Int32.toNatClampNeg 1)), .int (xs (Int32.toNatClampNeg 2))]) (rest := []) ⟨hx, hb, hml, hown, hts⟩ (c_X7_report l dC dI x0 q cy (xs (Int32.toNatClampNeg 1)) (xs (Int32.toNatClampNeg 2))) (cwV 2 hts gL_law_X7_report rfl rfl rfl (by decide +kernel) ⟨Nat.le_of_ble_eq_true rfl, Nat.le_of_ble_eq_true rfl⟩) (pu_pre hPx hKx (ci := 6) (q0 := 0) rfl rfl) rfl rfl hl.1 rfl (lv_room (Nat.le_of_ble_eq_true rfl)) dL_law_748 ⟨Nat.le_of_ble_eq_true rfl, Nat.le_of_ble_eq_true rfl⟩) ?_
    refine lv_aload_n hx hb dL_law_751 rfl (lv_at hl 1 rfl) ?_
    refine lv_aload_n hx hb dL_law_752 rfl (lv_at hl 3 rfl) ?_
    refine lv_iload_n hx hb dL_law_753 rfl (lv_at hl 0 rfl) ?_
    refine lv_iconst (v := 1) hx hb dL_law_754 (by decide) ?_
    refine lv_iadd hx hb dL_law_755 ?_
    rw [show (0 + 1 : Int32) = (1 : Int32) from by decide]
    refine va_sld hx hb hX hbl hbA hS (i := 1) (by unfold vp_in; decide) dL_law_756 ?_
    refine lv_aload_n hx hb dL_law_757 rfl (lv_at hl 3 rfl) ?_
    refine lv_iload_n hx hb dL_law_758 rfl (lv_at hl 0 rfl) ?_
    refine lv_iconst (v := 2) hx hb dL_law_759 (by decide) ?_
    refine lv_iadd hx hb dL_law_760 ?_
    rw [show (0 + 2 : Int32) = (2 : Int32) from by decide]
    refine va_sld hx hb hX hbl hbA hS (i := 2) (by unfold vp_in; decide) dL_law_761 ?_
    refine pu_call (va_runV (As := [.int (xs (Int32.toNatClampNeg 1)), .int (xs (Int32.toNatClampNeg 2))]) (rest := [.int (-1)]) ⟨hx, hb, hml, hown, hts⟩ (c_X8_report l dC dI m0 qm cI (xs (Int32.toNatClampNeg 1)) (xs (Int32.toNatClampNeg 2))) (cwV 2 hts gL_law_X8_report rfl rfl rfl (by decide +kernel) ⟨Nat.le_of_ble_eq_true rfl, Nat.le_of_ble_eq_true rfl⟩) (pu_pre hPm hK (ci := 7) (q0 := 0) rfl rfl) rfl rfl hl.1 rfl (lv_room (Nat.le_of_ble_eq_true rfl)) dL_law_762 ⟨Nat.le_of_ble_eq_true rfl, Nat.le_of_ble_eq_true rfl⟩) ?_
    refine lv_icmp_eq (tgt := 1170) hx hb dL_law_765 (by decide) (fun _ => ?_) (fun h => absurd rfl h)
    refine W.widen (k := 600000) (n := 7302250) (Nat.le_of_ble_eq_true rfl) (Nat.le_of_ble_eq_true rfl) ?_
    exact fin _ _ ls hS hl
  rcases (Decidable.em (z = 16)) with e_17 | e_17
  · refine lv_tableIn (off := 737) (tgt := 770) hx hb dL_law_33 (by rw [e_17]; decide) (by rw [e_17]; decide) (by rw [e_17]; rfl) (by decide) ?_
    refine lv_aload_n hx hb dL_law_770 rfl (lv_at hl 2 rfl) ?_
    refine lv_aload_n hx hb dL_law_771 rfl (lv_at hl 3 rfl) ?_
    refine lv_iload_n hx hb dL_law_772 rfl (lv_at hl 0 rfl) ?_
    refine lv_iconst (v := 1) hx hb dL_law_773 (by decide) ?_
    refine lv_iadd hx hb dL_law_774 ?_
    rw [show (0 + 1 : Int32) = (1 : Int32) from by decide]
    refine va_sld hx hb hX hbl hbA hS (i := 1) (by unfold vp_in; decide) dL_law_775 ?_
    refine lv_aload_n hx hb dL_law_776 rfl (lv_at hl 3 rfl) ?_
    refine lv_iload_n hx hb dL_law_777 rfl (lv_at hl 0 rfl) ?_
    refine lv_iconst (v := 2) hx hb dL_law_778 (by decide) ?_
    refine lv_iadd hx hb dL_law_779 ?_
    rw [show (0 + 2 : Int32) = (2 : Int32) from by decide]
    refine va_sld hx hb hX hbl hbA hS (i := 2) (by unfold vp_in; decide) dL_law_780 ?_
    refine lv_aload_n hx hb dL_law_781 rfl (lv_at hl 3 rfl) ?_
    refine lv_iload_n hx hb dL_law_782 rfl (lv_at hl 0 rfl) ?_
    refine lv_iconst (v := 3) hx hb dL_law_783 (by decide) ?_
    refine lv_iadd hx hb dL_law_784 ?_
    rw [show (0 + 3 : Int32) = (3 : Int32) from by decide]
    refine va_sld hx hb hX hbl hbA hS (i := 3) (by unfold vp_in; decide) dL_law_785 ?_
    refine pu_call (va_runV (As := [.int (xs (Int32.toNatClampNeg 1)), .int (xs (Int32.toNatClampNeg 2)), .int (xs (Int32.toNatClampNeg 3))]) (rest := []) ⟨hx, hb, hml, hown, hts⟩ (c_X7_known l dC dI x0 q cy (xs (Int32.toNatClampNeg 1)) (xs (Int32.toNatClampNeg 2)) (xs (Int32.toNatClampNeg 3))) (cwV 3 hts gL_law_X7_known rfl rfl rfl (by decide +kernel) ⟨Nat.le_of_ble_eq_true rfl, Nat.le_of_ble_eq_true rfl⟩) (pu_pre hPx hKx (ci := 6) (q0 := 0) rfl rfl) rfl rfl hl.1 rfl (lv_room (Nat.le_of_ble_eq_true rfl)) dL_law_786 ⟨Nat.le_of_ble_eq_true rfl, Nat.le_of_ble_eq_true rfl⟩) ?_
    refine lv_aload_n hx hb dL_law_789 rfl (lv_at hl 1 rfl) ?_
    refine lv_aload_n hx hb dL_law_790 rfl (lv_at hl 3 rfl) ?_
    refine lv_iload_n hx hb dL_law_791 rfl (lv_at hl 0 rfl) ?_
    refine lv_iconst (v := 1) hx hb dL_law_792 (by decide) ?_
    refine lv_iadd hx hb dL_law_793 ?_
    rw [show (0 + 1 : Int32) = (1 : Int32) from by decide]
    refine va_sld hx hb hX hbl hbA hS (i := 1) (by unfold vp_in; decide) dL_law_794 ?_
    refine lv_aload_n hx hb dL_law_795 rfl (lv_at hl 3 rfl) ?_
    refine lv_iload_n hx hb dL_law_796 rfl (lv_at hl 0 rfl) ?_
    refine lv_iconst (v := 2) hx hb dL_law_797 (by decide) ?_
    refine lv_iadd hx hb dL_law_798 ?_
    rw [show (0 + 2 : Int32) = (2 : Int32) from by decide]
    refine va_sld hx hb hX hbl hbA hS (i := 2) (by unfold vp_in; decide) dL_law_799 ?_
    refine lv_aload_n hx hb dL_law_800 rfl (lv_at hl 3 rfl) ?_
    refine lv_iload_n hx hb dL_law_801 rfl (lv_at hl 0 rfl) ?_
    refine lv_iconst (v := 3) hx hb dL_law_802 (by decide) ?_
    refine lv_iadd hx hb dL_law_803 ?_
    rw [show (0 + 3 : Int32) = (3 : Int32) from by decide]
    refine va_sld hx hb hX hbl hbA hS (i := 3) (by unfold vp_in; decide) dL_law_804 ?_
    refine pu_call (va_runV (As := [.int (xs (Int32.toNatClampNeg 1)), .int (xs (Int32.toNatClampNeg 2)), .int (xs (Int32.toNatClampNeg 3))]) (rest := [.int (-1)]) ⟨hx, hb, hml, hown, hts⟩ (c_X8_known l dC dI m0 qm cI (xs (Int32.toNatClampNeg 1)) (xs (Int32.toNatClampNeg 2)) (xs (Int32.toNatClampNeg 3))) (cwV 3 hts gL_law_X8_known rfl rfl rfl (by decide +kernel) ⟨Nat.le_of_ble_eq_true rfl, Nat.le_of_ble_eq_true rfl⟩) (pu_pre hPm hK (ci := 7) (q0 := 0) rfl rfl) rfl rfl hl.1 rfl (lv_room (Nat.le_of_ble_eq_true rfl)) dL_law_805 ⟨Nat.le_of_ble_eq_true rfl, Nat.le_of_ble_eq_true rfl⟩) ?_
    refine lv_icmp_eq (tgt := 1170) hx hb dL_law_808 (by decide) (fun _ => ?_) (fun h => absurd rfl h)
    refine W.widen (k := 600000) (n := 7302250) (Nat.le_of_ble_eq_true rfl) (Nat.le_of_ble_eq_true rfl) ?_
    exact fin _ _ ls hS hl
  rcases (Decidable.em (z = 17)) with e_18 | e_18
  · refine lv_tableIn (off := 780) (tgt := 813) hx hb dL_law_33 (by rw [e_18]; decide) (by rw [e_18]; decide) (by rw [e_18]; rfl) (by decide) ?_
    refine lv_aload_n hx hb dL_law_813 rfl (lv_at hl 2 rfl) ?_
    refine lv_aload_n hx hb dL_law_814 rfl (lv_at hl 3 rfl) ?_
    refine lv_iload_n hx hb dL_law_815 rfl (lv_at hl 0 rfl) ?_
    refine lv_iconst (v := 1) hx hb dL_law_816 (by decide) ?_
    refine lv_iadd hx hb dL_law_817 ?_
    rw [show (0 + 1 : Int32) = (1 : Int32) from by decide]
    refine va_sld hx hb hX hbl hbA hS (i := 1) (by unfold vp_in; decide) dL_law_818 ?_
    refine lv_aload_n hx hb dL_law_819 rfl (lv_at hl 3 rfl) ?_
    refine lv_iload_n hx hb dL_law_820 rfl (lv_at hl 0 rfl) ?_
    refine lv_iconst (v := 2) hx hb dL_law_821 (by decide) ?_
    refine lv_iadd hx hb dL_law_822 ?_
    rw [show (0 + 2 : Int32) = (2 : Int32) from by decide]
    refine va_sld hx hb hX hbl hbA hS (i := 2) (by unfold vp_in; decide) dL_law_823 ?_
    refine pu_call (va_runV (As := [.int (xs (Int32.toNatClampNeg 1)), .int (xs (Int32.toNatClampNeg 2))]) (rest := []) ⟨hx, hb, hml, hown, hts⟩ (c_X7_knownDay l dC dI x0 q cy (xs (Int32.toNatClampNeg 1)) (xs (Int32.toNatClampNeg 2))) (cwV 2 hts gL_law_X7_knownDay rfl rfl rfl (by decide +kernel) ⟨Nat.le_of_ble_eq_true rfl, Nat.le_of_ble_eq_true rfl⟩) (pu_pre hPx hKx (ci := 6) (q0 := 0) rfl rfl) rfl rfl hl.1 rfl (lv_room (Nat.le_of_ble_eq_true rfl)) dL_law_824 ⟨Nat.le_of_ble_eq_true rfl, Nat.le_of_ble_eq_true rfl⟩) ?_
    refine lv_aload_n hx hb dL_law_827 rfl (lv_at hl 1 rfl) ?_
    refine lv_aload_n hx hb dL_law_828 rfl (lv_at hl 3 rfl) ?_
    refine lv_iload_n hx hb dL_law_829 rfl (lv_at hl 0 rfl) ?_
    refine lv_iconst (v := 1) hx hb dL_law_830 (by decide) ?_
    refine lv_iadd hx hb dL_law_831 ?_
    rw [show (0 + 1 : Int32) = (1 : Int32) from by decide]
    refine va_sld hx hb hX hbl hbA hS (i := 1) (by unfold vp_in; decide) dL_law_832 ?_
    refine lv_aload_n hx hb dL_law_833 rfl (lv_at hl 3 rfl) ?_
    refine lv_iload_n hx hb dL_law_834 rfl (lv_at hl 0 rfl) ?_
    refine lv_iconst (v := 2) hx hb dL_law_835 (by decide) ?_
    refine lv_iadd hx hb dL_law_836 ?_
    rw [show (0 + 2 : Int32) = (2 : Int32) from by decide]
    refine va_sld hx hb hX hbl hbA hS (i := 2) (by unfold vp_in; decide) dL_law_837 ?_
    refine pu_call (va_runV (As := [.int (xs (Int32.toNatClampNeg 1)), .int (xs (Int32.toNatClampNeg 2))]) (rest := [.int (-1)]) ⟨hx, hb, hml, hown, hts⟩ (c_X8_knownDay l dC dI m0 qm cI (xs (Int32.toNatClampNeg 1)) (xs (Int32.toNatClampNeg 2))) (cwV 2 hts gL_law_X8_knownDay rfl rfl rfl (by decide +kernel) ⟨Nat.le_of_ble_eq_true rfl, Nat.le_of_ble_eq_true rfl⟩) (pu_pre hPm hK (ci := 7) (q0 := 0) rfl rfl) rfl rfl hl.1 rfl (lv_room (Nat.le_of_ble_eq_true rfl)) dL_law_838 ⟨Nat.le_of_ble_eq_true rfl, Nat.le_of_ble_eq_true rfl⟩) ?_
    refine lv_icmp_eq (tgt := 1170) hx hb dL_law_841 (by decide) (fun _ => ?_) (fun h => absurd rfl h)
    refine W.widen (k := 600000) (n := 7302250) (Nat.le_of_ble_eq_true rfl) (Nat.le_of_ble_eq_true rfl) ?_
    exact fin _ _ ls hS hl
  rcases (Decidable.em (z = 18)) with e_19 | e_19
  · refine lv_tableIn (off := 813) (tgt := 846) hx hb dL_law_33 (by rw [e_19]; decide) (by rw [e_19]; decide) (by rw [e_19]; rfl) (by decide) ?_
    refine lv_aload_n hx hb dL_law_846 rfl (lv_at hl 2 rfl) ?_
    refine lv_aload_n hx hb dL_law_847 rfl (lv_at hl 3 rfl) ?_
    refine lv_iload_n hx hb dL_law_848 rfl (lv_at hl 0 rfl) ?_
    refine lv_iconst (v := 1) hx hb dL_law_849 (by decide) ?_
    refine lv_iadd hx hb dL_law_850 ?_
    rw [show (0 + 1 : Int32) = (1 : Int32) from by decide]
    refine va_sld hx hb hX hbl hbA hS (i := 1) (by unfold vp_in; decide) dL_law_851 ?_
    refine lv_aload_n hx hb dL_law_852 rfl (lv_at hl 3 rfl) ?_
    refine lv_iload_n hx hb dL_law_853 rfl (lv_at hl 0 rfl) ?_
    refine lv_iconst (v := 2) hx hb dL_law_854 (by decide) ?_
    refine lv_iadd hx hb dL_law_855 ?_
    rw [show (0 + 2 : Int32) = (2 : Int32) from by decide]
    refine va_sld hx hb hX hbl hbA hS (i := 2) (by unfold vp_in; decide) dL_law_856 ?_
    refine pu_call (va_runV (As := [.int (xs (Int32.toNatClampNeg 1)), .int (xs (Int32.toNatClampNeg 2))]) (rest := []) ⟨hx, hb, hml, hown, hts⟩ (c_X7_next l dC dI x0 q cy (xs (Int32.toNatClampNeg 1)) (xs (Int32.toNatClampNeg 2))) (cwV 2 hts gL_law_X7_next rfl rfl rfl (by decide +kernel) ⟨Nat.le_of_ble_eq_true rfl, Nat.le_of_ble_eq_true rfl⟩) (pu_pre hPx hKx (ci := 6) (q0 := 0) rfl rfl) rfl rfl hl.1 rfl (lv_room (Nat.le_of_ble_eq_true rfl)) dL_law_857 ⟨Nat.le_of_ble_eq_true rfl, Nat.le_of_ble_eq_true rfl⟩) ?_
    refine lv_aload_n hx hb dL_law_860 rfl (lv_at hl 1 rfl) ?_
    refine lv_aload_n hx hb dL_law_861 rfl (lv_at hl 3 rfl) ?_
    refine lv_iload_n hx hb dL_law_862 rfl (lv_at hl 0 rfl) ?_
    refine lv_iconst (v := 1) hx hb dL_law_863 (by decide) ?_
    refine lv_iadd hx hb dL_law_864 ?_
    rw [show (0 + 1 : Int32) = (1 : Int32) from by decide]
    refine va_sld hx hb hX hbl hbA hS (i := 1) (by unfold vp_in; decide) dL_law_865 ?_
    refine lv_aload_n hx hb dL_law_866 rfl (lv_at hl 3 rfl) ?_
    refine lv_iload_n hx hb dL_law_867 rfl (lv_at hl 0 rfl) ?_
    refine lv_iconst (v := 2) hx hb dL_law_868 (by decide) ?_
    refine lv_iadd hx hb dL_law_869 ?_
    rw [show (0 + 2 : Int32) = (2 : Int32) from by decide]
    refine va_sld hx hb hX hbl hbA hS (i := 2) (by unfold vp_in; decide) dL_law_870 ?_
    refine pu_call (va_runV (As := [.int (xs (Int32.toNatClampNeg 1)), .int (xs (Int32.toNatClampNeg 2))]) (rest := [.int (-1)]) ⟨hx, hb, hml, hown, hts⟩ (c_X8_next l dC dI m0 qm cI (xs (Int32.toNatClampNeg 1)) (xs (Int32.toNatClampNeg 2))) (cwV 2 hts gL_law_X8_next rfl rfl rfl (by decide +kernel) ⟨Nat.le_of_ble_eq_true rfl, Nat.le_of_ble_eq_true rfl⟩) (pu_pre hPm hK (ci := 7) (q0 := 0) rfl rfl) rfl rfl hl.1 rfl (lv_room (Nat.le_of_ble_eq_true rfl)) dL_law_871 ⟨Nat.le_of_ble_eq_true rfl, Nat.le_of_ble_eq_true rfl⟩) ?_
    refine lv_icmp_eq (tgt := 1170) hx hb dL_law_874 (by decide) (fun _ => ?_) (fun h => absurd rfl h)
    refine W.widen (k := 600000) (n := 7302250) (Nat.le_of_ble_eq_true rfl) (Nat.le_of_ble_eq_true rfl) ?_
    exact fin _ _ ls hS hl
  rcases (Decidable.em (z = 19)) with e_20 | e_20
  · refine lv_tableIn (off := 846) (tgt := 879) hx hb dL_law_33 (by rw [e_20]; decide) (by rw [e_20]; decide) (by rw [e_20]; rfl) (by decide) ?_
    refine lv_aload_n hx hb dL_law_879 rfl (lv_at hl 2 rfl) ?_
    refine lv_aload_n hx hb dL_law_880 rfl (lv_at hl 3 rfl) ?_
    refine lv_iload_n hx hb dL_law_881 rfl (lv_at hl 0 rfl) ?_
    refine lv_iconst (v := 1) hx hb dL_law_882 (by decide) ?_
    refine lv_iadd hx hb dL_law_883 ?_
    rw [show (0 + 1 : Int32) = (1 : Int32) from by decide]
    refine va_sld hx hb hX hbl hbA hS (i := 1) (by unfold vp_in; decide) dL_law_884 ?_
    refine lv_aload_n hx hb dL_law_885 rfl (lv_at hl 3 rfl) ?_
    refine lv_iload_n hx hb dL_law_886 rfl (lv_at hl 0 rfl) ?_
    refine lv_iconst (v := 2) hx hb dL_law_887 (by decide) ?_
    refine lv_iadd hx hb dL_law_888 ?_
    rw [show (0 + 2 : Int32) = (2 : Int32) from by decide]
    refine va_sld hx hb hX hbl hbA hS (i := 2) (by unfold vp_in; decide) dL_law_889 ?_
    refine lv_aload_n hx hb dL_law_890 rfl (lv_at hl 3 rfl) ?_
    refine lv_iload_n hx hb dL_law_891 rfl (lv_at hl 0 rfl) ?_
    refine lv_iconst (v := 3) hx hb dL_law_892 (by decide) ?_
    refine lv_iadd hx hb dL_law_893 ?_
    rw [show (0 + 3 : Int32) = (3 : Int32) from by decide]
    refine va_sld hx hb hX hbl hbA hS (i := 3) (by unfold vp_in; decide) dL_law_894 ?_
    refine va_calli (va_runV (As := [.int (xs (Int32.toNatClampNeg 1)), .int (xs (Int32.toNatClampNeg 2)), .int (xs (Int32.toNatClampNeg 3))]) (rest := []) ⟨hx, hb, hml, hown, hts⟩ (c_X7_want l dC dI x0 q (cy 6) cI r6 (ax_ s.heap.size m0 qm) hXr (xs (Int32.toNatClampNeg 1)) (xs (Int32.toNatClampNeg 2)) (xs (Int32.toNatClampNeg 3))) (cwV 3 hts gL_law_X7_want rfl rfl rfl (by decide +kernel) ⟨Nat.le_of_ble_eq_true rfl, Nat.le_of_ble_eq_true rfl⟩) (fw_pre hPw hKw hrow6 (ci := 6) (q0 := 0) rfl rfl) rfl rfl hl.1 rfl (lv_room (Nat.le_of_ble_eq_true rfl)) dL_law_895 ⟨Nat.le_of_ble_eq_true rfl, Nat.le_of_ble_eq_true rfl⟩) hS (fun a _ h => h.1) (fun a h => h.1) (fun r u t H1 locs ht hvm hw _ hz1 hk1 hS => ?_)
    subst hw
    have hPm := hPm.kept (H1 := H1) (fun k x hx => hk1 x.1 ((hPm k x hx).lt) (hXm k x hx))
    refine lv_aload_n hx hb dL_law_898 rfl (lv_at hl 1 rfl) ?_
    refine lv_aload_n hx hb dL_law_899 rfl (lv_at hl 3 rfl) ?_
    refine lv_iload_n hx hb dL_law_900 rfl (lv_at hl 0 rfl) ?_
    refine lv_iconst (v := 1) hx hb dL_law_901 (by decide) ?_
    refine lv_iadd hx hb dL_law_902 ?_
    rw [show (0 + 1 : Int32) = (1 : Int32) from by decide]
    refine va_sld hx hb hX hbl hbA hS (i := 1) (by unfold vp_in; decide) dL_law_903 ?_
    refine lv_aload_n hx hb dL_law_904 rfl (lv_at hl 3 rfl) ?_
    refine lv_iload_n hx hb dL_law_905 rfl (lv_at hl 0 rfl) ?_
    refine lv_iconst (v := 2) hx hb dL_law_906 (by decide) ?_
    refine lv_iadd hx hb dL_law_907 ?_
    rw [show (0 + 2 : Int32) = (2 : Int32) from by decide]
    refine va_sld hx hb hX hbl hbA hS (i := 2) (by unfold vp_in; decide) dL_law_908 ?_
    refine lv_aload_n hx hb dL_law_909 rfl (lv_at hl 3 rfl) ?_
    refine lv_iload_n hx hb dL_law_910 rfl (lv_at hl 0 rfl) ?_
    refine lv_iconst (v := 3) hx hb dL_law_911 (by decide) ?_
    refine lv_iadd hx hb dL_law_912 ?_
    rw [show (0 + 3 : Int32) = (3 : Int32) from by decide]
    refine va_sld hx hb hX hbl hbA hS (i := 3) (by unfold vp_in; decide) dL_law_913 ?_
    refine va_calli (va_runV (As := [.int (xs (Int32.toNatClampNeg 1)), .int (xs (Int32.toNatClampNeg 2)), .int (xs (Int32.toNatClampNeg 3))]) (rest := [.int (sp_want (xs (Int32.toNatClampNeg 1)) (xs (Int32.toNatClampNeg 2)) (xs (Int32.toNatClampNeg 3)))]) ⟨hx, hb, hml, hown, hts⟩ (c_X8_want l dC dI m0 qm cI (fun a => s.heap.size ≤ a) hM33 (xs (Int32.toNatClampNeg 1)) (xs (Int32.toNatClampNeg 2)) (xs (Int32.toNatClampNeg 3))) (cwV 3 hts gL_law_X8_want rfl rfl rfl (by decide +kernel) ⟨Nat.le_of_ble_eq_true rfl, Nat.le_of_ble_eq_true rfl⟩) (pu_pre (hPm.sub (ws' := [(m0, .inr (7, fm_O qm)), (qm 33, .inl (cI, 126, .inl zz_))]) [0, 3] rfl) hK (ci := 7) (q0 := 0) rfl rfl) rfl rfl hl.1 rfl (lv_room (Nat.le_of_ble_eq_true rfl)) dL_law_914 ⟨Nat.le_of_ble_eq_true rfl, Nat.le_of_ble_eq_true rfl⟩) hS (fun a _ h => h) (fun a h => h) (fun r u t H1 locs ht hvm hw _ hz1 hk1 hS => ?_)
    subst hw
    refine lv_icmp_eq (tgt := 1170) hx hb dL_law_917 (by decide) (fun _ => ?_) (fun h => absurd rfl h)
    refine W.widen (k := 600000) (n := 7302250) (Nat.le_of_ble_eq_true rfl) (Nat.le_of_ble_eq_true rfl) ?_
    exact fin _ _ ls hS hl
  rcases (Decidable.em (z = 20)) with e_21 | e_21
  · refine lv_tableIn (off := 889) (tgt := 922) hx hb dL_law_33 (by rw [e_21]; decide) (by rw [e_21]; decide) (by rw [e_21]; rfl) (by decide) ?_
    refine lv_aload_n hx hb dL_law_922 rfl (lv_at hl 2 rfl) ?_
    refine lv_aload_n hx hb dL_law_923 rfl (lv_at hl 3 rfl) ?_
    refine lv_iload_n hx hb dL_law_924 rfl (lv_at hl 0 rfl) ?_
    refine lv_iconst (v := 1) hx hb dL_law_925 (by decide) ?_
    refine lv_iadd hx hb dL_law_926 ?_
    rw [show (0 + 1 : Int32) = (1 : Int32) from by decide]
    refine va_sld hx hb hX hbl hbA hS (i := 1) (by unfold vp_in; decide) dL_law_927 ?_
    refine lv_aload_n hx hb dL_law_928 rfl (lv_at hl 3 rfl) ?_
    refine lv_iload_n hx hb dL_law_929 rfl (lv_at hl 0 rfl) ?_
    refine lv_iconst (v := 2) hx hb dL_law_930 (by decide) ?_
    refine lv_iadd hx hb dL_law_931 ?_
    rw [show (0 + 2 : Int32) = (2 : Int32) from by decide]
    refine va_sld hx hb hX hbl hbA hS (i := 2) (by unfold vp_in; decide) dL_law_932 ?_
    refine lv_aload_n hx hb dL_law_933 rfl (lv_at hl 3 rfl) ?_
    refine lv_iload_n hx hb dL_law_934 rfl (lv_at hl 0 rfl) ?_
    refine lv_iconst (v := 3) hx hb dL_law_935 (by decide) ?_
    refine lv_iadd hx hb dL_law_936 ?_
    rw [show (0 + 3 : Int32) = (3 : Int32) from by decide]
    refine va_sld hx hb hX hbl hbA hS (i := 3) (by unfold vp_in; decide) dL_law_937 ?_
    refine lv_aload_n hx hb dL_law_938 rfl (lv_at hl 3 rfl) ?_
    refine lv_iload_n hx hb dL_law_939 rfl (lv_at hl 0 rfl) ?_
    refine lv_iconst (v := 4) hx hb dL_law_940 (by decide) ?_
    refine lv_iadd hx hb dL_law_941 ?_
    rw [show (0 + 4 : Int32) = (4 : Int32) from by decide]
    refine va_sld hx hb hX hbl hbA hS (i := 4) (by unfold vp_in; decide) dL_law_942 ?_
    refine pu_call (va_runV (As := [.int (xs (Int32.toNatClampNeg 1)), .int (xs (Int32.toNatClampNeg 2)), .int (xs (Int32.toNatClampNeg 3)), .int (xs (Int32.toNatClampNeg 4))]) (rest := []) ⟨hx, hb, hml, hown, hts⟩ (c_X7_indent l dC dI x0 q cy (xs (Int32.toNatClampNeg 1)) (xs (Int32.toNatClampNeg 2)) (xs (Int32.toNatClampNeg 3)) (xs (Int32.toNatClampNeg 4))) (cwV 4 hts gL_law_X7_indent rfl rfl rfl (by decide +kernel) ⟨Nat.le_of_ble_eq_true rfl, Nat.le_of_ble_eq_true rfl⟩) (pu_pre hPx hKx (ci := 6) (q0 := 0) rfl rfl) rfl rfl hl.1 rfl (lv_room (Nat.le_of_ble_eq_true rfl)) dL_law_943 ⟨Nat.le_of_ble_eq_true rfl, Nat.le_of_ble_eq_true rfl⟩) ?_
    refine lv_aload_n hx hb dL_law_946 rfl (lv_at hl 1 rfl) ?_
    refine lv_aload_n hx hb dL_law_947 rfl (lv_at hl 3 rfl) ?_
    refine lv_iload_n hx hb dL_law_948 rfl (lv_at hl 0 rfl) ?_
    refine lv_iconst (v := 1) hx hb dL_law_949 (by decide) ?_
    refine lv_iadd hx hb dL_law_950 ?_
    rw [show (0 + 1 : Int32) = (1 : Int32) from by decide]
    refine va_sld hx hb hX hbl hbA hS (i := 1) (by unfold vp_in; decide) dL_law_951 ?_
    refine lv_aload_n hx hb dL_law_952 rfl (lv_at hl 3 rfl) ?_
    refine lv_iload_n hx hb dL_law_953 rfl (lv_at hl 0 rfl) ?_
    refine lv_iconst (v := 2) hx hb dL_law_954 (by decide) ?_
    refine lv_iadd hx hb dL_law_955 ?_
    rw [show (0 + 2 : Int32) = (2 : Int32) from by decide]
    refine va_sld hx hb hX hbl hbA hS (i := 2) (by unfold vp_in; decide) dL_law_956 ?_
    refine lv_aload_n hx hb dL_law_957 rfl (lv_at hl 3 rfl) ?_
    refine lv_iload_n hx hb dL_law_958 rfl (lv_at hl 0 rfl) ?_
    refine lv_iconst (v := 3) hx hb dL_law_959 (by decide) ?_
    refine lv_iadd hx hb dL_law_960 ?_
    rw [show (0 + 3 : Int32) = (3 : Int32) from by decide]
    refine va_sld hx hb hX hbl hbA hS (i := 3) (by unfold vp_in; decide) dL_law_961 ?_
    refine lv_aload_n hx hb dL_law_962 rfl (lv_at hl 3 rfl) ?_
    refine lv_iload_n hx hb dL_law_963 rfl (lv_at hl 0 rfl) ?_
    refine lv_iconst (v := 4) hx hb dL_law_964 (by decide) ?_
    refine lv_iadd hx hb dL_law_965 ?_
    rw [show (0 + 4 : Int32) = (4 : Int32) from by decide]
    refine va_sld hx hb hX hbl hbA hS (i := 4) (by unfold vp_in; decide) dL_law_966 ?_
    refine pu_call (va_runV (As := [.int (xs (Int32.toNatClampNeg 1)), .int (xs (Int32.toNatClampNeg 2)), .int (xs (Int32.toNatClampNeg 3)), .int (xs (Int32.toNatClampNeg 4))]) (rest := [.int (-1)]) ⟨hx, hb, hml, hown, hts⟩ (c_X8_indent l dC dI m0 qm cI (xs (Int32.toNatClampNeg 1)) (xs (Int32.toNatClampNeg 2)) (xs (Int32.toNatClampNeg 3)) (xs (Int32.toNatClampNeg 4))) (cwV 4 hts gL_law_X8_indent rfl rfl rfl (by decide +kernel) ⟨Nat.le_of_ble_eq_true rfl, Nat.le_of_ble_eq_true rfl⟩) (pu_pre hPm hK (ci := 7) (q0 := 0) rfl rfl) rfl rfl hl.1 rfl (lv_room (Nat.le_of_ble_eq_true rfl)) dL_law_967 ⟨Nat.le_of_ble_eq_true rfl, Nat.le_of_ble_eq_true rfl⟩) ?_
    refine lv_icmp_eq (tgt := 1170) hx hb dL_law_970 (by decide) (fun _ => ?_) (fun h => absurd rfl h)
    refine W.widen (k := 600000) (n := 7302250) (Nat.le_of_ble_eq_true rfl) (Nat.le_of_ble_eq_true rfl) ?_
    exact fin _ _ ls hS hl
  rcases (Decidable.em (z = 21)) with e_22 | e_22
  · refine lv_tableIn (off := 942) (tgt := 975) hx hb dL_law_33 (by rw [e_22]; decide) (by rw [e_22]; decide) (by rw [e_22]; rfl) (by decide) ?_
    refine lv_aload_n hx hb dL_law_975 rfl (lv_at hl 2 rfl) ?_
    refine lv_aload_n hx hb dL_law_976 rfl (lv_at hl 3 rfl) ?_
    refine lv_iload_n hx hb dL_law_977 rfl (lv_at hl 0 rfl) ?_
    refine lv_iconst (v := 1) hx hb dL_law_978 (by decide) ?_
    refine lv_iadd hx hb dL_law_979 ?_
    rw [show (0 + 1 : Int32) = (1 : Int32) from by decide]
    refine va_sld hx hb hX hbl hbA hS (i := 1) (by unfold vp_in; decide) dL_law_980 ?_
    refine lv_aload_n hx hb dL_law_981 rfl (lv_at hl 3 rfl) ?_
    refine lv_iload_n hx hb dL_law_982 rfl (lv_at hl 0 rfl) ?_
    refine lv_iconst (v := 2) hx hb dL_law_983 (by decide) ?_
    refine lv_iadd hx hb dL_law_984 ?_
    rw [show (0 + 2 : Int32) = (2 : Int32) from by decide]
    refine va_sld hx hb hX hbl hbA hS (i := 2) (by unfold vp_in; decide) dL_law_985 ?_
    refine lv_aload_n hx hb dL_law_986 rfl (lv_at hl 3 rfl) ?_
    refine lv_iload_n hx hb dL_law_987 rfl (lv_at hl 0 rfl) ?_
    refine lv_iconst (v := 3) hx hb dL_law_988 (by decide) ?_
    refine lv_iadd hx hb dL_law_989 ?_
    rw [show (0 + 3 : Int32) = (3 : Int32) from by decide]
    refine va_sld hx hb hX hbl hbA hS (i := 3) (by unfold vp_in; decide) dL_law_990 ?_
    refine lv_aload_n hx hb dL_law_991 rfl (lv_at hl 3 rfl) ?_
    refine lv_iload_n hx hb dL_law_992 rfl (lv_at hl 0 rfl) ?_
    refine lv_iconst (v := 4) hx hb dL_law_993 (by decide) ?_
    refine lv_iadd hx hb dL_law_994 ?_
    rw [show (0 + 4 : Int32) = (4 : Int32) from by decide]
    refine va_sld hx hb hX hbl hbA hS (i := 4) (by unfold vp_in; decide) dL_law_995 ?_
    refine lv_aload_n hx hb dL_law_996 rfl (lv_at hl 3 rfl) ?_
    refine lv_iload_n hx hb dL_law_997 rfl (lv_at hl 0 rfl) ?_
    refine lv_iconst (v := 5) hx hb dL_law_998 (by decide) ?_
    refine lv_iadd hx hb dL_law_999 ?_
    rw [show (0 + 5 : Int32) = (5 : Int32) from by decide]
    refine va_sld hx hb hX hbl hbA hS (i := 5) (by unfold vp_in; decide) dL_law_1000 ?_
    refine pu_call (va_runV (As := [.int (xs (Int32.toNatClampNeg 1)), .int (xs (Int32.toNatClampNeg 2)), .int (xs (Int32.toNatClampNeg 3)), .int (xs (Int32.toNatClampNeg 4)), .int (xs (Int32.toNatClampNeg 5))]) (rest := []) ⟨hx, hb, hml, hown, hts⟩ (c_X7_cost l dC dI x0 q cy (xs (Int32.toNatClampNeg 1)) (xs (Int32.toNatClampNeg 2)) (xs (Int32.toNatClampNeg 3)) (xs (Int32.toNatClampNeg 4)) (xs (Int32.toNatClampNeg 5))) (cwV 5 hts gL_law_X7_cost rfl rfl rfl (by decide +kernel) ⟨Nat.le_of_ble_eq_true rfl, Nat.le_of_ble_eq_true rfl⟩) (pu_pre hPx hKx (ci := 6) (q0 := 0) rfl rfl) rfl rfl hl.1 rfl (lv_room (Nat.le_of_ble_eq_true rfl)) dL_law_1001 ⟨Nat.le_of_ble_eq_true rfl, Nat.le_of_ble_eq_true rfl⟩) ?_
    refine lv_aload_n hx hb dL_law_1004 rfl (lv_at hl 1 rfl) ?_
    refine lv_aload_n hx hb dL_law_1005 rfl (lv_at hl 3 rfl) ?_
    refine lv_iload_n hx hb dL_law_1006 rfl (lv_at hl 0 rfl) ?_
    refine lv_iconst (v := 1) hx hb dL_law_1007 (by decide) ?_
    refine lv_iadd hx hb dL_law_1008 ?_
    rw [show (0 + 1 : Int32) = (1 : Int32) from by decide]
    refine va_sld hx hb hX hbl hbA hS (i := 1) (by unfold vp_in; decide) dL_law_1009 ?_
    refine lv_aload_n hx hb dL_law_1010 rfl (lv_at hl 3 rfl) ?_
    refine lv_iload_n hx hb dL_law_1011 rfl (lv_at hl 0 rfl) ?_
    refine lv_iconst (v := 2) hx hb dL_law_1012 (by decide) ?_
    refine lv_iadd hx hb dL_law_1013 ?_
    rw [show (0 + 2 : Int32) = (2 : Int32) from by decide]
    refine va_sld hx hb hX hbl hbA hS (i := 2) (by unfold vp_in; decide) dL_law_1014 ?_
    refine lv_aload_n hx hb dL_law_1015 rfl (lv_at hl 3 rfl) ?_
    refine lv_iload_n hx hb dL_law_1016 rfl (lv_at hl 0 rfl) ?_
    refine lv_iconst (v := 3) hx hb dL_law_1017 (by decide) ?_
    refine lv_iadd hx hb dL_law_1018 ?_
    rw [show (0 + 3 : Int32) = (3 : Int32) from by decide]
    refine va_sld hx hb hX hbl hbA hS (i := 3) (by unfold vp_in; decide) dL_law_1019 ?_
    refine lv_aload_n hx hb dL_law_1020 rfl (lv_at hl 3 rfl) ?_
    refine lv_iload_n hx hb dL_law_1021 rfl (lv_at hl 0 rfl) ?_
    refine lv_iconst (v := 4) hx hb dL_law_1022 (by decide) ?_
    refine lv_iadd hx hb dL_law_1023 ?_
    rw [show (0 + 4 : Int32) = (4 : Int32) from by decide]
    refine va_sld hx hb hX hbl hbA hS (i := 4) (by unfold vp_in; decide) dL_law_1024 ?_
    refine lv_aload_n hx hb dL_law_1025 rfl (lv_at hl 3 rfl) ?_
    refine lv_iload_n hx hb dL_law_1026 rfl (lv_at hl 0 rfl) ?_
    refine lv_iconst (v := 5) hx hb dL_law_1027 (by decide) ?_
    refine lv_iadd hx hb dL_law_1028 ?_
    rw [show (0 + 5 : Int32) = (5 : Int32) from by decide]
    refine va_sld hx hb hX hbl hbA hS (i := 5) (by unfold vp_in; decide) dL_law_1029 ?_
    refine pu_call (va_runV (As := [.int (xs (Int32.toNatClampNeg 1)), .int (xs (Int32.toNatClampNeg 2)), .int (xs (Int32.toNatClampNeg 3)), .int (xs (Int32.toNatClampNeg 4)), .int (xs (Int32.toNatClampNeg 5))]) (rest := [.int (-1)]) ⟨hx, hb, hml, hown, hts⟩ (c_X8_cost l dC dI m0 qm cI (xs (Int32.toNatClampNeg 1)) (xs (Int32.toNatClampNeg 2)) (xs (Int32.toNatClampNeg 3)) (xs (Int32.toNatClampNeg 4)) (xs (Int32.toNatClampNeg 5))) (cwV 5 hts gL_law_X8_cost rfl rfl rfl (by decide +kernel) ⟨Nat.le_of_ble_eq_true rfl, Nat.le_of_ble_eq_true rfl⟩) (pu_pre hPm hK (ci := 7) (q0 := 0) rfl rfl) rfl rfl hl.1 rfl (lv_room (Nat.le_of_ble_eq_true rfl)) dL_law_1030 ⟨Nat.le_of_ble_eq_true rfl, Nat.le_of_ble_eq_true rfl⟩) ?_
    refine lv_icmp_eq (tgt := 1170) hx hb dL_law_1033 (by decide) (fun _ => ?_) (fun h => absurd rfl h)
    refine W.widen (k := 600000) (n := 7302250) (Nat.le_of_ble_eq_true rfl) (Nat.le_of_ble_eq_true rfl) ?_
    exact fin _ _ ls hS hl
  rcases (Decidable.em (z = 22)) with e_23 | e_23
  · refine lv_tableIn (off := 1005) (tgt := 1038) hx hb dL_law_33 (by rw [e_23]; decide) (by rw [e_23]; decide) (by rw [e_23]; rfl) (by decide) ?_
    refine lv_aload_n hx hb dL_law_1038 rfl (lv_at hl 2 rfl) ?_
    refine lv_aload_n hx hb dL_law_1039 rfl (lv_at hl 3 rfl) ?_
    refine lv_iload_n hx hb dL_law_1040 rfl (lv_at hl 0 rfl) ?_
    refine lv_iconst (v := 1) hx hb dL_law_1041 (by decide) ?_
    refine lv_iadd hx hb dL_law_1042 ?_
    rw [show (0 + 1 : Int32) = (1 : Int32) from by decide]
    refine va_sld hx hb hX hbl hbA hS (i := 1) (by unfold vp_in; decide) dL_law_1043 ?_
    refine lv_aload_n hx hb dL_law_1044 rfl (lv_at hl 3 rfl) ?_
    refine lv_iload_n hx hb dL_law_1045 rfl (lv_at hl 0 rfl) ?_
    refine lv_iconst (v := 2) hx hb dL_law_1046 (by decide) ?_
    refine lv_iadd hx hb dL_law_1047 ?_
    rw [show (0 + 2 : Int32) = (2 : Int32) from by decide]
    refine va_sld hx hb hX hbl hbA hS (i := 2) (by unfold vp_in; decide) dL_law_1048 ?_
    refine pu_call (va_runV (As := [.int (xs (Int32.toNatClampNeg 1)), .int (xs (Int32.toNatClampNeg 2))]) (rest := []) ⟨hx, hb, hml, hown, hts⟩ (c_X7_quarrel l dC dI x0 q cy (xs (Int32.toNatClampNeg 1)) (xs (Int32.toNatClampNeg 2))) (cwV 2 hts gL_law_X7_quarrel rfl rfl rfl (by decide +kernel) ⟨Nat.le_of_ble_eq_true rfl, Nat.le_of_ble_eq_true rfl⟩) (pu_pre hPx hKx (ci := 6) (q0 := 0) rfl rfl) rfl rfl hl.1 rfl (lv_room (Nat.le_of_ble_eq_true rfl)) dL_law_1049 ⟨Nat.le_of_ble_eq_true rfl, Nat.le_of_ble_eq_true rfl⟩) ?_
    refine lv_aload_n hx hb dL_law_1052 rfl (lv_at hl 1 rfl) ?_
    refine lv_aload_n hx hb dL_law_1053 rfl (lv_at hl 3 rfl) ?_
    refine lv_iload_n hx hb dL_law_1054 rfl (lv_at hl 0 rfl) ?_
    refine lv_iconst (v := 1) hx hb dL_law_1055 (by decide) ?_
    refine lv_iadd hx hb dL_law_1056 ?_
    rw [show (0 + 1 : Int32) = (1 : Int32) from by decide]
    refine va_sld hx hb hX hbl hbA hS (i := 1) (by unfold vp_in; decide) dL_law_1057 ?_
    refine lv_aload_n hx hb dL_law_1058 rfl (lv_at hl 3 rfl) ?_
    refine lv_iload_n hx hb dL_law_1059 rfl (lv_at hl 0 rfl) ?_
    refine lv_iconst (v := 2) hx hb dL_law_1060 (by decide) ?_
    refine lv_iadd hx hb dL_law_1061 ?_
    rw [show (0 + 2 : Int32) = (2 : Int32) from by decide]
    refine va_sld hx hb hX hbl hbA hS (i := 2) (by unfold vp_in; decide) dL_law_1062 ?_
    refine pu_call (va_runV (As := [.int (xs (Int32.toNatClampNeg 1)), .int (xs (Int32.toNatClampNeg 2))]) (rest := [.int (-1)]) ⟨hx, hb, hml, hown, hts⟩ (c_X8_quarrel l dC dI m0 qm cI (xs (Int32.toNatClampNeg 1)) (xs (Int32.toNatClampNeg 2))) (cwV 2 hts gL_law_X8_quarrel rfl rfl rfl (by decide +kernel) ⟨Nat.le_of_ble_eq_true rfl, Nat.le_of_ble_eq_true rfl⟩) (pu_pre hPm hK (ci := 7) (q0 := 0) rfl rfl) rfl rfl hl.1 rfl (lv_room (Nat.le_of_ble_eq_true rfl)) dL_law_1063 ⟨Nat.le_of_ble_eq_true rfl, Nat.le_of_ble_eq_true rfl⟩) ?_
    refine lv_icmp_eq (tgt := 1170) hx hb dL_law_1066 (by decide) (fun _ => ?_) (fun h => absurd rfl h)
    refine W.widen (k := 600000) (n := 7302250) (Nat.le_of_ble_eq_true rfl) (Nat.le_of_ble_eq_true rfl) ?_
    exact fin _ _ ls hS hl
  rcases (Decidable.em (z = 23)) with e_24 | e_24
  · refine lv_tableIn (off := 1038) (tgt := 1071) hx hb dL_law_33 (by rw [e_24]; decide) (by rw [e_24]; decide) (by rw [e_24]; rfl) (by decide) ?_
    refine lv_aload_n hx hb dL_law_1071 rfl (lv_at hl 2 rfl) ?_
    refine lv_aload_n hx hb dL_law_1072 rfl (lv_at hl 3 rfl) ?_
    refine lv_iload_n hx hb dL_law_1073 rfl (lv_at hl 0 rfl) ?_
    refine lv_iconst (v := 1) hx hb dL_law_1074 (by decide) ?_
    refine lv_iadd hx hb dL_law_1075 ?_
    rw [show (0 + 1 : Int32) = (1 : Int32) from by decide]
    refine va_sld hx hb hX hbl hbA hS (i := 1) (by unfold vp_in; decide) dL_law_1076 ?_
    refine lv_aload_n hx hb dL_law_1077 rfl (lv_at hl 3 rfl) ?_
    refine lv_iload_n hx hb dL_law_1078 rfl (lv_at hl 0 rfl) ?_
    refine lv_iconst (v := 2) hx hb dL_law_1079 (by decide) ?_
    refine lv_iadd hx hb dL_law_1080 ?_
    rw [show (0 + 2 : Int32) = (2 : Int32) from by decide]
    refine va_sld hx hb hX hbl hbA hS (i := 2) (by unfold vp_in; decide) dL_law_1081 ?_
    refine pu_call (va_runV (As := [.int (xs (Int32.toNatClampNeg 1)), .int (xs (Int32.toNatClampNeg 2))]) (rest := []) ⟨hx, hb, hml, hown, hts⟩ (c_X7_canoe l dC dI x0 q cy (xs (Int32.toNatClampNeg 1)) (xs (Int32.toNatClampNeg 2))) (cwV 2 hts gL_law_X7_canoe rfl rfl rfl (by decide +kernel) ⟨Nat.le_of_ble_eq_true rfl, Nat.le_of_ble_eq_true rfl⟩) (pu_pre hPx hKx (ci := 6) (q0 := 0) rfl rfl) rfl rfl hl.1 rfl (lv_room (Nat.le_of_ble_eq_true rfl)) dL_law_1082 ⟨Nat.le_of_ble_eq_true rfl, Nat.le_of_ble_eq_true rfl⟩) ?_
    refine lv_aload_n hx hb dL_law_1085 rfl (lv_at hl 1 rfl) ?_
    refine lv_aload_n hx hb dL_law_1086 rfl (lv_at hl 3 rfl) ?_
    refine lv_iload_n hx hb dL_law_1087 rfl (lv_at hl 0 rfl) ?_
    refine lv_iconst (v := 1) hx hb dL_law_1088 (by decide) ?_
    refine lv_iadd hx hb dL_law_1089 ?_
    rw [show (0 + 1 : Int32) = (1 : Int32) from by decide]
    refine va_sld hx hb hX hbl hbA hS (i := 1) (by unfold vp_in; decide) dL_law_1090 ?_
    refine lv_aload_n hx hb dL_law_1091 rfl (lv_at hl 3 rfl) ?_
    refine lv_iload_n hx hb dL_law_1092 rfl (lv_at hl 0 rfl) ?_
    refine lv_iconst (v := 2) hx hb dL_law_1093 (by decide) ?_
    refine lv_iadd hx hb dL_law_1094 ?_
    rw [show (0 + 2 : Int32) = (2 : Int32) from by decide]
    refine va_sld hx hb hX hbl hbA hS (i := 2) (by unfold vp_in; decide) dL_law_1095 ?_
    refine pu_call (va_runV (As := [.int (xs (Int32.toNatClampNeg 1)), .int (xs (Int32.toNatClampNeg 2))]) (rest := [.int (-1)]) ⟨hx, hb, hml, hown, hts⟩ (c_X8_canoe l dC dI m0 qm cI (xs (Int32.toNatClampNeg 1)) (xs (Int32.toNatClampNeg 2))) (cwV 2 hts gL_law_X8_canoe rfl rfl rfl (by decide +kernel) ⟨Nat.le_of_ble_eq_true rfl, Nat.le_of_ble_eq_true rfl⟩) (pu_pre hPm hK (ci := 7) (q0 := 0) rfl rfl) rfl rfl hl.1 rfl (lv_room (Nat.le_of_ble_eq_true rfl)) dL_law_1096 ⟨Nat.le_of_ble_eq_true rfl, Nat.le_of_ble_eq_true rfl⟩) ?_
    refine lv_icmp_eq (tgt := 1170) hx hb dL_law_1099 (by decide) (fun _ => ?_) (fun h => absurd rfl h)
    refine W.widen (k := 600000) (n := 7302250) (Nat.le_of_ble_eq_true rfl) (Nat.le_of_ble_eq_true rfl) ?_
    exact fin _ _ ls hS hl
  rcases (Decidable.em (z = 24)) with e_25 | e_25
  · refine lv_tableIn (off := 1071) (tgt := 1104) hx hb dL_law_33 (by rw [e_25]; decide) (by rw [e_25]; decide) (by rw [e_25]; rfl) (by decide) ?_
    refine lv_aload_n hx hb dL_law_1104 rfl (lv_at hl 2 rfl) ?_
    refine lv_aload_n hx hb dL_law_1105 rfl (lv_at hl 3 rfl) ?_
    refine lv_iload_n hx hb dL_law_1106 rfl (lv_at hl 0 rfl) ?_
    refine lv_iconst (v := 1) hx hb dL_law_1107 (by decide) ?_
    refine lv_iadd hx hb dL_law_1108 ?_
    rw [show (0 + 1 : Int32) = (1 : Int32) from by decide]
    refine va_sld hx hb hX hbl hbA hS (i := 1) (by unfold vp_in; decide) dL_law_1109 ?_
    refine lv_aload_n hx hb dL_law_1110 rfl (lv_at hl 3 rfl) ?_
    refine lv_iload_n hx hb dL_law_1111 rfl (lv_at hl 0 rfl) ?_
    refine lv_iconst (v := 2) hx hb dL_law_1112 (by decide) ?_
    refine lv_iadd hx hb dL_law_1113 ?_
    rw [show (0 + 2 : Int32) = (2 : Int32) from by decide]
    refine va_sld hx hb hX hbl hbA hS (i := 2) (by unfold vp_in; decide) dL_law_1114 ?_
    refine pu_call (va_runV (As := [.int (xs (Int32.toNatClampNeg 1)), .int (xs (Int32.toNatClampNeg 2))]) (rest := []) ⟨hx, hb, hml, hown, hts⟩ (c_X7_told l dC dI x0 q cy (xs (Int32.toNatClampNeg 1)) (xs (Int32.toNatClampNeg 2))) (cwV 2 hts gL_law_X7_told rfl rfl rfl (by decide +kernel) ⟨Nat.le_of_ble_eq_true rfl, Nat.le_of_ble_eq_true rfl⟩) (pu_pre hPx hKx (ci := 6) (q0 := 0) rfl rfl) rfl rfl hl.1 rfl (lv_room (Nat.le_of_ble_eq_true rfl)) dL_law_1115 ⟨Nat.le_of_ble_eq_true rfl, Nat.le_of_ble_eq_true rfl⟩) ?_
    refine lv_aload_n hx hb dL_law_1118 rfl (lv_at hl 1 rfl) ?_
    refine lv_aload_n hx hb dL_law_1119 rfl (lv_at hl 3 rfl) ?_
    refine lv_iload_n hx hb dL_law_1120 rfl (lv_at hl 0 rfl) ?_
    refine lv_iconst (v := 1) hx hb dL_law_1121 (by decide) ?_
    refine lv_iadd hx hb dL_law_1122 ?_
    rw [show (0 + 1 : Int32) = (1 : Int32) from by decide]
    refine va_sld hx hb hX hbl hbA hS (i := 1) (by unfold vp_in; decide) dL_law_1123 ?_
    refine lv_aload_n hx hb dL_law_1124 rfl (lv_at hl 3 rfl) ?_
    refine lv_iload_n hx hb dL_law_1125 rfl (lv_at hl 0 rfl) ?_
    refine lv_iconst (v := 2) hx hb dL_law_1126 (by decide) ?_
    refine lv_iadd hx hb dL_law_1127 ?_
    rw [show (0 + 2 : Int32) = (2 : Int32) from by decide]
    refine va_sld hx hb hX hbl hbA hS (i := 2) (by unfold vp_in; decide) dL_law_1128 ?_
    refine pu_call (va_runV (As := [.int (xs (Int32.toNatClampNeg 1)), .int (xs (Int32.toNatClampNeg 2))]) (rest := [.int (-1)]) ⟨hx, hb, hml, hown, hts⟩ (c_X8_told l dC dI m0 qm cI (xs (Int32.toNatClampNeg 1)) (xs (Int32.toNatClampNeg 2))) (cwV 2 hts gL_law_X8_told rfl rfl rfl (by decide +kernel) ⟨Nat.le_of_ble_eq_true rfl, Nat.le_of_ble_eq_true rfl⟩) (pu_pre hPm hK (ci := 7) (q0 := 0) rfl rfl) rfl rfl hl.1 rfl (lv_room (Nat.le_of_ble_eq_true rfl)) dL_law_1129 ⟨Nat.le_of_ble_eq_true rfl, Nat.le_of_ble_eq_true rfl⟩) ?_
    refine lv_icmp_eq (tgt := 1170) hx hb dL_law_1132 (by decide) (fun _ => ?_) (fun h => absurd rfl h)
    refine W.widen (k := 600000) (n := 7302250) (Nat.le_of_ble_eq_true rfl) (Nat.le_of_ble_eq_true rfl) ?_
    exact fin _ _ ls hS hl
  rcases (Decidable.em (z = 25)) with e_26 | e_26
  · refine lv_tableIn (off := 1104) (tgt := 1137) hx hb dL_law_33 (by rw [e_26]; decide) (by rw [e_26]; decide) (by rw [e_26]; rfl) (by decide) ?_
    refine lv_aload_n hx hb dL_law_1137 rfl (lv_at hl 2 rfl) ?_
    refine lv_aload_n hx hb dL_law_1138 rfl (lv_at hl 3 rfl) ?_
    refine lv_iload_n hx hb dL_law_1139 rfl (lv_at hl 0 rfl) ?_
    refine lv_iconst (v := 1) hx hb dL_law_1140 (by decide) ?_
    refine lv_iadd hx hb dL_law_1141 ?_
    rw [show (0 + 1 : Int32) = (1 : Int32) from by decide]
    refine va_sld hx hb hX hbl hbA hS (i := 1) (by unfold vp_in; decide) dL_law_1142 ?_
    refine lv_aload_n hx hb dL_law_1143 rfl (lv_at hl 3 rfl) ?_
    refine lv_iload_n hx hb dL_law_1144 rfl (lv_at hl 0 rfl) ?_
    refine lv_iconst (v := 2) hx hb dL_law_1145 (by decide) ?_
    refine lv_iadd hx hb dL_law_1146 ?_
    rw [show (0 + 2 : Int32) = (2 : Int32) from by decide]
    refine va_sld hx hb hX hbl hbA hS (i := 2) (by unfold vp_in; decide) dL_law_1147 ?_
    refine pu_call (va_runV (As := [.int (xs (Int32.toNatClampNeg 1)), .int (xs (Int32.toNatClampNeg 2))]) (rest := []) ⟨hx, hb, hml, hown, hts⟩ (c_X7_count l dC dI x0 q cy (cy 7) cI r7 (xs (Int32.toNatClampNeg 1)) (xs (Int32.toNatClampNeg 2))) (cwV 2 hts gL_law_X7_count rfl rfl rfl (by decide +kernel) ⟨Nat.le_of_ble_eq_true rfl, Nat.le_of_ble_eq_true rfl⟩) (fw_pre hPc hKc hrow7 (ci := 6) (q0 := 0) rfl rfl) rfl rfl hl.1 rfl (lv_room (Nat.le_of_ble_eq_true rfl)) dL_law_1148 ⟨Nat.le_of_ble_eq_true rfl, Nat.le_of_ble_eq_true rfl⟩) ?_
    refine lv_aload_n hx hb dL_law_1151 rfl (lv_at hl 1 rfl) ?_
    refine lv_aload_n hx hb dL_law_1152 rfl (lv_at hl 3 rfl) ?_
    refine lv_iload_n hx hb dL_law_1153 rfl (lv_at hl 0 rfl) ?_
    refine lv_iconst (v := 1) hx hb dL_law_1154 (by decide) ?_
    refine lv_iadd hx hb dL_law_1155 ?_
    rw [show (0 + 1 : Int32) = (1 : Int32) from by decide]
    refine va_sld hx hb hX hbl hbA hS (i := 1) (by unfold vp_in; decide) dL_law_1156 ?_
    refine lv_aload_n hx hb dL_law_1157 rfl (lv_at hl 3 rfl) ?_
    refine lv_iload_n hx hb dL_law_1158 rfl (lv_at hl 0 rfl) ?_
    refine lv_iconst (v := 2) hx hb dL_law_1159 (by decide) ?_
    refine lv_iadd hx hb dL_law_1160 ?_
    rw [show (0 + 2 : Int32) = (2 : Int32) from by decide]
    refine va_sld hx hb hX hbl hbA hS (i := 2) (by unfold vp_in; decide) dL_law_1161 ?_
    refine pu_call (va_runV (As := [.int (xs (Int32.toNatClampNeg 1)), .int (xs (Int32.toNatClampNeg 2))]) (rest := [.int (sp_count (xs (Int32.toNatClampNeg 1)) (xs (Int32.toNatClampNeg 2)))]) ⟨hx, hb, hml, hown, hts⟩ (c_X8_count l dC dI m0 qm cI (xs (Int32.toNatClampNeg 1)) (xs (Int32.toNatClampNeg 2))) (cwV 2 hts gL_law_X8_count rfl rfl rfl (by decide +kernel) ⟨Nat.le_of_ble_eq_true rfl, Nat.le_of_ble_eq_true rfl⟩) (pu_pre hPm hK (ci := 7) (q0 := 0) rfl rfl) rfl rfl hl.1 rfl (lv_room (Nat.le_of_ble_eq_true rfl)) dL_law_1162 ⟨Nat.le_of_ble_eq_true rfl, Nat.le_of_ble_eq_true rfl⟩) ?_
    refine lv_icmp_eq (tgt := 1170) hx hb dL_law_1165 (by decide) (fun _ => ?_) (fun h => absurd rfl h)
    refine W.widen (k := 600000) (n := 7302250) (Nat.le_of_ble_eq_true rfl) (Nat.le_of_ble_eq_true rfl) ?_
    exact fin _ _ ls hS hl
  refine lv_tableOut (tgt := 1170) hx hb dL_law_33 (by have j_0 := sw_n (n := 0) (k := 0) e_1 (by decide); have j_1 := sw_n (n := 1) (k := 1) e_2 (by decide); have j_2 := sw_n (n := 2) (k := 2) e_3 (by decide); have j_3 := sw_n (n := 3) (k := 3) e_4 (by decide); have j_4 := sw_n (n := 4) (k := 4) e_5 (by decide); have j_5 := sw_n (n := 5) (k := 5) e_6 (by decide); have j_6 := sw_n (n := 6) (k := 6) e_7 (by decide); have j_7 := sw_n (n := 7) (k := 7) e_8 (by decide); have j_8 := sw_n (n := 8) (k := 8) e_9 (by decide); have j_9 := sw_n (n := 9) (k := 9) e_10 (by decide); have j_10 := sw_n (n := 10) (k := 10) e_11 (by decide); have j_11 := sw_n (n := 11) (k := 11) e_12 (by decide); have j_12 := sw_n (n := 12) (k := 12) e_13 (by decide); have j_13 := sw_n (n := 13) (k := 13) e_14 (by decide); have j_14 := sw_n (n := 14) (k := 14) e_15 (by decide); have j_15 := sw_n (n := 15) (k := 15) e_16 (by decide); have j_16 := sw_n (n := 16) (k := 16) e_17 (by decide); have j_17 := sw_n (n := 17) (k := 17) e_18 (by decide); have j_18 := sw_n (n := 18) (k := 18) e_19 (by decide); have j_19 := sw_n (n := 19) (k := 19) e_20 (by decide); have j_20 := sw_n (n := 20) (k := 20) e_21 (by decide); have j_21 := sw_n (n := 21) (k := 21) e_22 (by decide); have j_22 := sw_n (n := 22) (k := 22) e_23 (by decide); have j_23 := sw_n (n := 23) (k := 23) e_24 (by decide); have j_24 := sw_n (n := 24) (k := 24) e_25 (by decide); have j_25 := sw_n (n := 25) (k := 25) e_26 (by decide); omega) (by decide) ?_
  refine W.widen (k := 600000) (n := 7302250) (Nat.le_of_ble_eq_true rfl) (Nat.le_of_ble_eq_true rfl) ?_
  exact fin _ _ ls hS hl
-- ===== YOUR PART ENDS =====
set_option maxHeartbeats 4000000 in
theorem lw_walk (l : Launch) (b : Addr) (xs : List Int32) : MetFree l x (headSpec (Jvm.Cond.code x code maxLocals ret :: tables_1) room_1) (lw_P b xs) (fun _ _ _ _ _ => True) lw_Q := by
  refine MetFree.of_bodyS (code := code) (maxLocals := maxLocals) (ret := ret) (by decide) ?_ ?_
  · intro args s m h hn
    obtain ⟨meth, c, h1, h2, h3, h4, h5, h6, -, -⟩ := Cond.code_spec hn (atoms_spec (ws := Jvm.Cond.code x code maxLocals ret :: tables_1) h _ List.mem_cons_self)
    exact ⟨meth, c, h1, h2, h3, h4, h5, h6⟩
  · intro p e s m args below meth c s₁ B hml0 hP _
    obtain ⟨rfl, hx, hbd, hgv⟩ := hP
    obtain ⟨scr, harrAt, hlist, hof, hsmall⟩ := hx
    obtain ⟨hcb, hkn, -, -⟩ := State.arrayAt?_spec harrAt
    have hown : s.vm.findClass R_law = some m.cls := findClass_of_methodNamed B.named
    have hts0 : ∀ c ∈ (Jvm.Cond.code x code maxLocals ret :: tables_1), c.before #[Value.ref b] s = true := atoms_spec (ws := Jvm.Cond.code x code maxLocals ret :: tables_1) B.pre
    have hts : ∀ w ∈ lw_tbl, w.before #[Value.ref b] s = true := k2_hts_sels lw_privs (fun w hw => hts0 w (List.mem_cons_of_mem _ hw)) lw_privs_ok
    have hml : c.maxLocals = 4 := B.maxLocals_eq (hts0 _ List.mem_cons_self)
    have X₀ : Stand p l e room_1 s m #[Value.ref b] below meth c s₁ [] 0 0 := Stand.of_body B
    have hh0 : s₁.heap = s.heap := by rw [B.state]; rfl
    have hsz : scr.slots.size = xs.length := by rw [← Array.length_toList, hlist, List.length_map]
    have hval : ∀ j : Nat, j < xs.length → scr.slots[j]? = some (.int (xs.getD j 0)) := fun j hj => by
      rw [← Array.getElem?_toList, hlist]
      simp [hj]
    have hbl : b < s.heap.size := (Array.getElem?_eq_some_iff.mp hcb).1
    have hX : va_X b xs.length (fun j => xs.getD j 0) s s.heap := ⟨scr, hcb, hof, hkn, hsz, hval⟩
    have K : W p l e room_1 s m #[Value.ref b] below meth c s₁.heap [] 0 0 (lw_Z below #[Value.ref b] s) (entryFrame m ([Value.ref b] : List Value).toArray 4) := by
      rw [hh0]
      exact whole_start l hbd ⟨B.exec, B.bytes, B.returns, hml, hown, hts, hX, hbl, B.notSynchronized, hgv⟩
    obtain ⟨t, a1, o, b1, b2, b3⟩ := K s₁ rfl X₀
    exact ⟨t, o, a1, b1, b2, b3⟩
theorem lw_pre_spec {args : Array Value} {s : State} (h : (Jvm.Cond.and given_1 narrow_1).before args s = true) (hr : rest_1_c.before args s = true) : ∃ (b : Addr) (xs : List Int32), lw_P b xs args s := by
  have hs := flat_of_before _ h
  have hq := flat_of_before _ hr
  have hc : (Cond.count 1).before args s = true := hs _ (by decide +kernel)
  have harr : (Cond.arrayOf (.arg 0) .int).before args s = true := hs _ (by decide +kernel)
  have hle : (Cond.le (.length (.arg 0)) (.int 6)).before args s = true := hs _ (by decide +kernel)
  have hlen : (Cond.isInt (.length (.arg 0))).before args s = true := hq _ (by decide +kernel)
  have hall : (Cond.all (.arg 0) (.isInt (.elem (.arg 0) (.index 0)))).before args s = true := hq _ (by decide +kernel)
  obtain ⟨b, xs, hb, hx⟩ := State.ints_of_pre rfl harr hlen hall
  have hsm : xs.length < 2 ^ 31 := hx.choose_spec.2.2.2
  have hev : (Term.length (.arg 0)).eval args s none [] s = some (.int xs.length.toInt32) := hx.length_eval hb
  have hv := Cond.le_ints hev (show (Term.int 6).eval args s none [] s = some (.int 6) from rfl)
  have hd : xs.length.toInt32 ≤ 6 := by
    simpa [Cond.before, Cond.holds, hv] using hle
  have hN : xs.length ≤ 6 := (Int32.ofNat_le_ofNat hsm (by decide)).mp (show Int32.ofNat xs.length ≤ Int32.ofNat 6 from hd)
  exact ⟨b, xs, Cond.one_arg hc (show args[0]? = some (.ref b) from hb), hx, hN, h⟩
theorem lw_comes (l : Launch) : Comes l x (Jvm.Cond.code x code maxLocals ret :: tables_1) room_1 (fun tb e args s => Calls_1 tb e args s ∧ rest_1 tb e args s ∧ Pre_1 tb e args s)
    (fun _ _ args s o t => lw_Q args s o t) := by
  intro p e ha hc hk s m args below hf hfit hheap happ hpre
  obtain ⟨b, xs, hP⟩ := lw_pre_spec hpre.2.2 hpre.2.1
  obtain ⟨k, o, h1, h2, h3, hQ⟩ := lw_walk l b xs p e ha hc hk s m args below hf ((Spec.applies_iff_loose hf).mp happ).1 hP trivial
  exact ⟨k, o, h1, h2, h3, hQ⟩
theorem lw_frame {s t : State} {o : Outcome} {args : Array Value} (h : Framed s o t [] 600000 7302250) :
    Framed s o t (fieldLocs frame_1_writes args s ++ arrayLocs frame_1_arrays args s ++ staticLocs frame_1_statics s) 600000 7302250 := h
theorem lw_limb (L : Cond) (hL : ∀ (args : Array Value) (s t : State), L.after args s (.returned (some (.int 1))) t = true) :
    ArmFor flags0 classFile x code maxLocals ret World_1 tables_1 room_1 Calls_1 rest_1 Pre_1
      (fun tb e a s o t => postC L tb e a s o t ∧ Framed s o t (fieldLocs frame_1_writes a s ++ arrayLocs frame_1_arrays a s ++ staticLocs frame_1_statics s) 600000 7302250) := by
  intro l _ _ _ p e ha hc hk s m args below hf hfit hheap happ hpre
  obtain ⟨k, o, h1, h2, h3, rfl, hF⟩ := lw_comes l p e ha hc hk s m args below hf hfit hheap happ hpre
  exact ⟨k, _, h1, h2, h3, hL args s _, lw_frame hF⟩
theorem i_vc : Claimed_1_1 ∧ Claimed_1_2 := ⟨lw_limb limb_1_1 (fun args s t => by simp [limb_1_1, Cond.after, Cond.holds, Cond.value]), lw_limb limb_1_2 (fun args s t => Cond.after_iff.mpr (by
  first | (rw [show limb_1_2 = Cond.eq .result (.int 1) from rfl, Cond.eq_ints (x := 1) (y := 1) rfl rfl]; simp; done) | (simp [limb_1_2, Cond.value, Term.eval]; done)))⟩

