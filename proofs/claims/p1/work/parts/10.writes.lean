theorem vp_lt {x : Int32} {n : Nat} (h : vp_in x n) : x.toNatClampNeg < n := Nat.not_le.mp fun q => h (Or.inr q)
theorem sp_vp {x b : Int32} {n : Nat} (h : ¬ sp_in x 0 b = 0) (hb : b.toInt + 1 = n) : vp_in x n := by
  obtain ⟨h1, h2⟩ := sp_in_1 h
  rw [sp_le, show (0 : Int32).toInt = 0 from rfl] at h1
  rw [sp_le] at h2
  rw [vp_in_iff]
  omega
theorem sp_nI {x b : Int32} {n : Nat} (h : ¬ sp_in x 0 b = 0) (hb : b.toInt = n) : ∃ j : Nat, j ≤ n ∧ x = nI j := by
  obtain ⟨h1, h2⟩ := sp_in_1 h
  exact nI_of2 hb (fun z => by rw [sp_lt] at z; rw [sp_le] at h1; omega) h2
theorem vp_two {x y : Int32} {a b n : Nat} (hx : ∃ j : Nat, j ≤ a ∧ x = nI j) (hy : ∃ j : Nat, j ≤ b ∧ y = nI j) {k : Int32} {m : Nat} (hk : k = nI m) (h : m * a + b < n) (hn : n < 2 ^ 31) : vp_in (k * x + y) n := by
  obtain ⟨i, hi, rfl⟩ := hx
  obtain ⟨j, hj, rfl⟩ := hy
  rw [hk, pk_mul, nI_add]
  exact vp_in_nI (Nat.lt_of_le_of_lt (Nat.add_le_add (Nat.mul_le_mul_left m hi) hj) h) hn
theorem sp_out6 {x : Int32} (h0 : ¬ x = 0) (h1 : ¬ x = 1) (h2 : ¬ x = 2) (h3 : ¬ x = 3) (h4 : ¬ x = 4) (h5 : ¬ x = 5) : sp_in x 0 5 = 0 := by
  have j0 := sw_n (k := 0) h0 (by decide)
  have j1 := sw_n (k := 1) h1 (by decide)
  have j2 := sw_n (k := 2) h2 (by decide)
  have j3 := sw_n (k := 3) h3 (by decide)
  have j4 := sw_n (k := 4) h4 (by decide)
  have j5 := sw_n (k := 5) h5 (by decide)
  rw [sp_in_0, sp_le, sp_le, show (0 : Int32).toInt = 0 from rfl, show (5 : Int32).toInt = 5 from rfl]
  omega
/-- the end of a call that may change the cells of A: its answer -/
abbrev im_Q (v : Int32) (A : Nat → Prop) : Array Value → State → Outcome → State → Prop := va_Qi (fun r (_ : Unit) => r = v) (fun _ _ => True) A

set_option maxHeartbeats 4000000 in
set_option maxRecDepth 100000 in
theorem c_X7_load (l : Launch) (dC : Nat → ClassId) (dI : Nat → Nat → Nat) (h0 : Nat) (q : Nat → Nat) (cI : ClassId) (A : Nat → Prop) (hAq : A (q 8)) (a1 a2 : Int32) : Met l yX7_load wsX7_load ({ frames := 1, cells := 0, slots := 0, locals := 22 }) (va_Pc [.ref h0, .int a1, .int a2] (pu_P (dC, dI) vwCl [(cI, .int)] [(h0, .inr (6, fx_O q)), ((q 8), .inl (cI, 6, .inl zz_))])) (im_Q (sp_load a1 a2) A) 0 0 A := by
  refine Met.ofW (cc := cX7_load) (maxL := 3) (ret := (some .boolean)) (by decide) rfl ?_
  intro p e s m args below meth c s₁ B hml hv
  obtain ⟨rfl, hP, hK⟩ := hv
  have hx := B.exec
  have hb := B.bytes
  have hr := B.returns
  have hts := atoms_spec (ws := wsX7_load) B.pre
  have hown : s.vm.findClass RX7 = some m.cls := findClass_of_methodNamed B.named
  have hlocks := B.notSynchronized
  have hinX7 : ∀ w ∈ u_ws RX7 TX7 14, w ∈ wsX7_load := by decide +kernel
  have hKI := hK
  have hS : va_S A s.heap s.heap [] := va_S.rf
  have hl := lv_entry ([.ref h0, .int a1, .int a2]) (n := 3) (Nat.le_of_ble_eq_true rfl)
  rw [lg_entry_eq]
  generalize (lg_sl ([.ref h0, .int a1, .int a2]) ++ List.replicate (3 - (lg_sl ([.ref h0, .int a1, .int a2])).length) Slot.unset).toArray = ls at hl ⊢
  have hl : lv_has ls 3 [(0, .ref h0), (1, .int a1), (2, .int a2)] := hl
  refine lv_iload_n hx hb dX7_load_0 rfl (lv_at hl 1 rfl) ?_
  refine pu_call (va_runS (As := [.int a1]) (rest := []) ⟨hx, hb, hml, hown, hts⟩ (c_X7_isWare l a1) (va_cwS 1 hts gX7_load_X7_isWare rfl rfl rfl (by decide +kernel) ⟨Nat.le_of_ble_eq_true rfl, Nat.le_of_ble_eq_true rfl⟩) pu_preS rfl rfl hl.1 rfl (lv_room (Nat.le_of_ble_eq_true rfl)) dX7_load_1 ⟨Nat.zero_le _, Nat.zero_le _⟩) ?_
  refine lv_if_eq (tgt := 18) hx hb dX7_load_4 (by decide) (fun h_1 => ?_) (fun h_1 => ?_)
  · skip
    refine lv_iconst (v := 0) hx hb dX7_load_18 (by decide) ?_
    exact W.zret (v := 0) hx hb hr rfl (fun t ht hW => ⟨⟨0, (), rfl, (by simp only [sp_load, if_pos h_1]), trivial⟩, hS.F ht⟩) hS.2.2 dX7_load_19
  · skip
    refine lv_iload_n hx hb dX7_load_7 rfl (lv_at hl 2 rfl) ?_
    refine lv_iconst (v := 0) hx hb dX7_load_8 (by decide) ?_
    refine lv_sipush (v := 500) hx hb dX7_load_9 (by decide) ?_
    refine pu_call (va_runS (As := [.int a2, .int 0, .int 500]) (rest := []) ⟨hx, hb, hml, hown, hts⟩ (c_X7_isWithin l a2 0 500) (va_cwS 3 hts gX7_load_X7_isWithin rfl rfl rfl (by decide +kernel) ⟨Nat.le_of_ble_eq_true rfl, Nat.le_of_ble_eq_true rfl⟩) pu_preS rfl rfl hl.1 rfl (lv_room (Nat.le_of_ble_eq_true rfl)) dX7_load_12 ⟨Nat.zero_le _, Nat.zero_le _⟩) ?_
    refine lv_if_ne (tgt := 20) hx hb dX7_load_15 (by decide) (fun h_2 => ?_) (fun h_2 => ?_)
    · skip
      refine lv_aload_n hx hb dX7_load_20 rfl (lv_at hl 0 rfl) ?_
      refine va_get (D := (dC, dI)) (ci := 6) (v := .ref (q 8)) (C := RX7) (T := TX7) (N := 14) hx hb hts hinX7 hown hK hP 0 rfl rfl 7 (by decide) (hts (.fieldLink RX7 44 "FurPosts" "loaded" "[I") (by decide +kernel)) (fun _ h9 => h9) rfl dX7_load_21 ?_
      refine lv_iload_n hx hb dX7_load_24 rfl (lv_at hl 1 rfl) ?_
      refine lv_iload_n hx hb dX7_load_25 rfl (lv_at hl 2 rfl) ?_
      refine ia_st hx hb hKI (hP.sub (ws' := [((q 8), .inl (cI, 6, .inl zz_))]) [1] rfl) hAq hS 0 rfl (sp_vp h_1 rfl) dX7_load_26 (fun H locs hP hz hk hS => ?_)
      refine lv_iconst (v := 1) hx hb dX7_load_27 (by decide) ?_
      exact W.zret (v := 1) hx hb hr rfl (fun t ht hW => ⟨⟨1, (), rfl, (by simp only [sp_load, if_neg h_1, if_neg h_2]), trivial⟩, hS.F ht⟩) hS.2.2 dX7_load_28
    · skip
      refine lv_iconst (v := 0) hx hb dX7_load_18 (by decide) ?_
      exact W.zret (v := 0) hx hb hr rfl (fun t ht hW => ⟨⟨0, (), rfl, (by simp only [sp_load, if_neg h_1, if_pos h_2]), trivial⟩, hS.F ht⟩) hS.2.2 dX7_load_19

set_option maxHeartbeats 4000000 in
set_option maxRecDepth 100000 in
theorem c_X8_load (l : Launch) (dC : Nat → ClassId) (dI : Nat → Nat → Nat) (h0 : Nat) (q : Nat → Nat) (cI : ClassId) (A : Nat → Prop) (hAq : A (q 12)) (a1 a2 : Int32) : Met l yX8_load wsX8_load ({ frames := 2, cells := 0, slots := 0, locals := 42 }) (va_Pc [.ref h0, .int a1, .int a2] (pu_P (dC, dI) vwCl [(cI, .int)] [(h0, .inr (7, fm_O q)), ((q 12), .inl (cI, 6, .inl zz_))])) (im_Q (sp_load a1 a2) A) 0 0 A := by
  refine Met.ofW (cc := cX8_load) (maxL := 3) (ret := (some .boolean)) (by decide) rfl ?_
  intro p e s m args below meth c s₁ B hml hv
  obtain ⟨rfl, hP, hK⟩ := hv
  have hx := B.exec
  have hb := B.bytes
  have hr := B.returns
  have hts := atoms_spec (ws := wsX8_load) B.pre
  have hown : s.vm.findClass RX8 = some m.cls := findClass_of_methodNamed B.named
  have hlocks := B.notSynchronized
  have hinX8 : ∀ w ∈ u_ws RX8 TX8 37, w ∈ wsX8_load := by decide +kernel
  have hKI := hK
  have hS : va_S A s.heap s.heap [] := va_S.rf
  have hl := lv_entry ([.ref h0, .int a1, .int a2]) (n := 3) (Nat.le_of_ble_eq_true rfl)
  rw [lg_entry_eq]
  generalize (lg_sl ([.ref h0, .int a1, .int a2]) ++ List.replicate (3 - (lg_sl ([.ref h0, .int a1, .int a2])).length) Slot.unset).toArray = ls at hl ⊢
  have hl : lv_has ls 3 [(0, .ref h0), (1, .int a1), (2, .int a2)] := hl
  refine lv_iload_n hx hb dX8_load_0 rfl (lv_at hl 1 rfl) ?_
  refine pu_call (va_runS (As := [.int a1]) (rest := []) ⟨hx, hb, hml, hown, hts⟩ (c_X8_isWare l a1) (va_cwS 1 hts gX8_load_X8_isWare rfl rfl rfl (by decide +kernel) ⟨Nat.le_of_ble_eq_true rfl, Nat.le_of_ble_eq_true rfl⟩) pu_preS rfl rfl hl.1 rfl (lv_room (Nat.le_of_ble_eq_true rfl)) dX8_load_1 ⟨Nat.zero_le _, Nat.zero_le _⟩) ?_
  refine lv_if_eq (tgt := 18) hx hb dX8_load_4 (by decide) (fun h_1 => ?_) (fun h_1 => ?_)
  · skip
    refine lv_iconst (v := 0) hx hb dX8_load_18 (by decide) ?_
    exact W.zret (v := 0) hx hb hr rfl (fun t ht hW => ⟨⟨0, (), rfl, (by simp only [sp_load, if_pos h_1]), trivial⟩, hS.F ht⟩) hS.2.2 dX8_load_19
  · skip
    refine lv_iload_n hx hb dX8_load_7 rfl (lv_at hl 2 rfl) ?_
    refine lv_iconst (v := 0) hx hb dX8_load_8 (by decide) ?_
    refine lv_sipush (v := 500) hx hb dX8_load_9 (by decide) ?_
    refine pu_call (va_runS (As := [.int a2, .int 0, .int 500]) (rest := []) ⟨hx, hb, hml, hown, hts⟩ (c_X8_in l a2 0 500) (va_cwS 3 hts gX8_load_X8_in rfl rfl rfl (by decide +kernel) ⟨Nat.le_of_ble_eq_true rfl, Nat.le_of_ble_eq_true rfl⟩) pu_preS rfl rfl hl.1 rfl (lv_room (Nat.le_of_ble_eq_true rfl)) dX8_load_12 ⟨Nat.zero_le _, Nat.zero_le _⟩) ?_
    refine lv_if_ne (tgt := 20) hx hb dX8_load_15 (by decide) (fun h_2 => ?_) (fun h_2 => ?_)
    · skip
      refine lv_aload_n hx hb dX8_load_20 rfl (lv_at hl 0 rfl) ?_
      refine va_get (D := (dC, dI)) (ci := 7) (v := .ref (q 12)) (C := RX8) (T := TX8) (N := 37) hx hb hts hinX8 hown hK hP 0 rfl rfl 12 (by decide) (hts (.fieldLink RX8 37 "FurPostsModel" "loaded" "[I") (by decide +kernel)) (fun _ h9 => h9) rfl dX8_load_21 ?_
      refine lv_iload_n hx hb dX8_load_24 rfl (lv_at hl 1 rfl) ?_
      refine lv_iload_n hx hb dX8_load_25 rfl (lv_at hl 2 rfl) ?_
      refine ia_st hx hb hKI (hP.sub (ws' := [((q 12), .inl (cI, 6, .inl zz_))]) [1] rfl) hAq hS 0 rfl (sp_vp h_1 rfl) dX8_load_26 (fun H locs hP hz hk hS => ?_)
      refine lv_iconst (v := 1) hx hb dX8_load_27 (by decide) ?_
      exact W.zret (v := 1) hx hb hr rfl (fun t ht hW => ⟨⟨1, (), rfl, (by simp only [sp_load, if_neg h_1, if_neg h_2]), trivial⟩, hS.F ht⟩) hS.2.2 dX8_load_28
    · skip
      refine lv_iconst (v := 0) hx hb dX8_load_18 (by decide) ?_
      exact W.zret (v := 0) hx hb hr rfl (fun t ht hW => ⟨⟨0, (), rfl, (by simp only [sp_load, if_neg h_1, if_pos h_2]), trivial⟩, hS.F ht⟩) hS.2.2 dX8_load_19

/-- the start of a method that reads the cells ws, and the rows r -/
abbrev fw_P (D : va_G) (cl : List vw_C) (tys : List (ClassId × FieldType)) (ws : va_W) (cI : ClassId) (r : Nat → Nat) (n : Nat) : State → Prop := fun U => va_P D cl ws U.heap ∧ va_K D cl tys U ∧ ∀ i, i < 6 → va_P D cl [(r i, .inl (cI, n, .inl zz_))] U.heap
theorem fw_pre {s : State} {H : Heap} {b : Nat} {As : List Value} {D : va_G} {cl : List vw_C} {tys : List (ClassId × FieldType)} {ws : va_W} {cI : ClassId} {r : Nat → Nat} {n : Nat} {ci q0 : Nat} {q : vw_C} {fs : List Value} (hP : va_P D cl ws H) (hK : va_K D cl tys s) (hr : ∀ i, i < 6 → va_P D cl [(r i, .inl (cI, n, .inl zz_))] H) (hc : cl[ci]? = some q) (he : ws[q0]? = some (b, .inr (ci, fs))) : PreV s H q.1 b (va_Pc (.ref b :: As) (fw_P D cl tys ws cI r n)) As :=
  ⟨fun a U g mk z => by
    obtain ⟨z0, zP, zK, zr⟩ := z
    exact ⟨z0, zP, va_K.moved (u := U) (U := U.calling g mk a) (Vm.Alike.refl U.vm) zK, zr⟩, va_recv hK hP hc he, fun U hU hW => ⟨rfl, by rw [hU]; exact hP, va_K.moved hW.alike hK, by rw [hU]; exact hr⟩⟩

set_option maxHeartbeats 4000000 in
set_option maxRecDepth 100000 in
theorem c_X7_want (l : Launch) (dC : Nat → ClassId) (dI : Nat → Nat → Nat) (h0 : Nat) (q : Nat → Nat) (cA cI : ClassId) (r : Nat → Nat) (A : Nat → Prop) (hAr : ∀ i, i < 6 → A (r i)) (a1 a2 a3 : Int32) : Met l yX7_want wsX7_want ({ frames := 1, cells := 0, slots := 0, locals := 22 }) (va_Pc [.ref h0, .int a1, .int a2, .int a3] (fw_P (dC, dI) vwCl [(cA, .array .int), (cI, .int)] [(h0, .inr (6, fx_O q)), (q 6, .inl (cA, 6, .inr (.inr (.inr (.inr (rw_ r))))))] cI r 21)) (im_Q (sp_want a1 a2 a3) A) 0 0 A := by
  refine Met.ofW (cc := cX7_want) (maxL := 4) (ret := (some .boolean)) (by decide) rfl ?_
  intro p e s m args below meth c s₁ B hml hv
  obtain ⟨rfl, hP, hK, hrow⟩ := hv
  have hx := B.exec
  have hb := B.bytes
  have hr := B.returns
  have hts := atoms_spec (ws := wsX7_want) B.pre
  have hown : s.vm.findClass RX7 = some m.cls := findClass_of_methodNamed B.named
  have hlocks := B.notSynchronized
  have hinX7 : ∀ w ∈ u_ws RX7 TX7 14, w ∈ wsX7_want := by decide +kernel
  have hKI := hK.sub (tys' := [(cI, .int)]) [1] rfl
  have hS : va_S A s.heap s.heap [] := va_S.rf
  have hl := lv_entry ([.ref h0, .int a1, .int a2, .int a3]) (n := 4) (Nat.le_of_ble_eq_true rfl)
  rw [lg_entry_eq]
  generalize (lg_sl ([.ref h0, .int a1, .int a2, .int a3]) ++ List.replicate (4 - (lg_sl ([.ref h0, .int a1, .int a2, .int a3])).length) Slot.unset).toArray = ls at hl ⊢
  have hl : lv_has ls 4 [(0, .ref h0), (1, .int a1), (2, .int a2), (3, .int a3)] := hl
  refine lv_iload_n hx hb dX7_want_0 rfl (lv_at hl 1 rfl) ?_
  refine pu_call (va_runS (As := [.int a1]) (rest := []) ⟨hx, hb, hml, hown, hts⟩ (c_X7_isWare l a1) (va_cwS 1 hts gX7_want_X7_isWare rfl rfl rfl (by decide +kernel) ⟨Nat.le_of_ble_eq_true rfl, Nat.le_of_ble_eq_true rfl⟩) pu_preS rfl rfl hl.1 rfl (lv_room (Nat.le_of_ble_eq_true rfl)) dX7_want_1 ⟨Nat.zero_le _, Nat.zero_le _⟩) ?_
  refine lv_if_eq (tgt := 28) hx hb dX7_want_4 (by decide) (fun h_1 => ?_) (fun h_1 => ?_)
  · skip
    refine lv_iconst (v := 0) hx hb dX7_want_28 (by decide) ?_
    exact W.zret (v := 0) hx hb hr rfl (fun t ht hW => ⟨⟨0, (), rfl, (by simp only [sp_want, if_pos h_1]), trivial⟩, hS.F ht⟩) hS.2.2 dX7_want_29
  · skip
    refine lv_iload_n hx hb dX7_want_7 rfl (lv_at hl 2 rfl) ?_
    refine lv_iconst (v := 0) hx hb dX7_want_8 (by decide) ?_
    refine lv_bipush (v := 20) hx hb dX7_want_9 (by decide) ?_
    refine pu_call (va_runS (As := [.int a2, .int 0, .int 20]) (rest := []) ⟨hx, hb, hml, hown, hts⟩ (c_X7_isWithin l a2 0 20) (va_cwS 3 hts gX7_want_X7_isWithin rfl rfl rfl (by decide +kernel) ⟨Nat.le_of_ble_eq_true rfl, Nat.le_of_ble_eq_true rfl⟩) pu_preS rfl rfl hl.1 rfl (lv_room (Nat.le_of_ble_eq_true rfl)) dX7_want_11 ⟨Nat.zero_le _, Nat.zero_le _⟩) ?_
    refine lv_if_eq (tgt := 28) hx hb dX7_want_14 (by decide) (fun h_2 => ?_) (fun h_2 => ?_)
    · skip
      refine lv_iconst (v := 0) hx hb dX7_want_28 (by decide) ?_
      exact W.zret (v := 0) hx hb hr rfl (fun t ht hW => ⟨⟨0, (), rfl, (by simp only [sp_want, if_neg h_1, if_pos h_2]), trivial⟩, hS.F ht⟩) hS.2.2 dX7_want_29
    · skip
      refine lv_iload_n hx hb dX7_want_17 rfl (lv_at hl 3 rfl) ?_
      refine lv_iconst (v := 0) hx hb dX7_want_18 (by decide) ?_
      refine lv_sipush (v := 1000) hx hb dX7_want_19 (by decide) ?_
      refine pu_call (va_runS (As := [.int a3, .int 0, .int 1000]) (rest := []) ⟨hx, hb, hml, hown, hts⟩ (c_X7_isWithin l a3 0 1000) (va_cwS 3 hts gX7_want_X7_isWithin rfl rfl rfl (by decide +kernel) ⟨Nat.le_of_ble_eq_true rfl, Nat.le_of_ble_eq_true rfl⟩) pu_preS rfl rfl hl.1 rfl (lv_room (Nat.le_of_ble_eq_true rfl)) dX7_want_22 ⟨Nat.zero_le _, Nat.zero_le _⟩) ?_
      refine lv_if_ne (tgt := 30) hx hb dX7_want_25 (by decide) (fun h_3 => ?_) (fun h_3 => ?_)
      · skip
        refine lv_aload_n hx hb dX7_want_30 rfl (lv_at hl 0 rfl) ?_
        refine va_get (D := (dC, dI)) (ci := 6) (v := .ref (q 6)) (C := RX7) (T := TX7) (N := 14) hx hb hts hinX7 hown hK hP 0 rfl rfl 5 (by decide) (hts (.fieldLink RX7 38 "FurPosts" "wants" "[[I") (by decide +kernel)) (fun _ h9 => h9) rfl dX7_want_31 ?_
        refine lv_iload_n hx hb dX7_want_34 rfl (lv_at hl 1 rfl) ?_
        refine va_ald2 hx hb hK hP 1 0 rfl rfl (i := a1) (sp_vp h_1 rfl) (b := r (Int32.toNatClampNeg a1)) (if_pos (vp_lt (sp_vp h_1 rfl))) dX7_want_35 ?_
        refine lv_iload_n hx hb dX7_want_36 rfl (lv_at hl 2 rfl) ?_
        refine lv_iload_n hx hb dX7_want_37 rfl (lv_at hl 3 rfl) ?_
        refine ia_st hx hb hKI (hrow _ (vp_lt (sp_vp h_1 rfl))) (hAr _ (vp_lt (sp_vp h_1 rfl))) hS 0 rfl (sp_vp h_2 rfl) dX7_want_38 (fun H locs hP hz hk hS => ?_)
        refine lv_iconst (v := 1) hx hb dX7_want_39 (by decide) ?_
        exact W.zret (v := 1) hx hb hr rfl (fun t ht hW => ⟨⟨1, (), rfl, (by simp only [sp_want, if_neg h_1, if_neg h_2, if_neg h_3]), trivial⟩, hS.F ht⟩) hS.2.2 dX7_want_40
      · skip
        refine lv_iconst (v := 0) hx hb dX7_want_28 (by decide) ?_
        exact W.zret (v := 0) hx hb hr rfl (fun t ht hW => ⟨⟨0, (), rfl, (by simp only [sp_want, if_neg h_1, if_neg h_2, if_pos h_3]), trivial⟩, hS.F ht⟩) hS.2.2 dX7_want_29

set_option maxHeartbeats 4000000 in
set_option maxRecDepth 100000 in
theorem c_X8_want (l : Launch) (dC : Nat → ClassId) (dI : Nat → Nat → Nat) (h0 : Nat) (q : Nat → Nat) (cI : ClassId) (A : Nat → Prop) (hAq : A (q 33)) (a1 a2 a3 : Int32) : Met l yX8_want wsX8_want ({ frames := 2, cells := 0, slots := 0, locals := 42 }) (va_Pc [.ref h0, .int a1, .int a2, .int a3] (pu_P (dC, dI) vwCl [(cI, .int)] [(h0, .inr (7, fm_O q)), ((q 33), .inl (cI, 126, .inl zz_))])) (im_Q (sp_want a1 a2 a3) A) 0 0 A := by
  refine Met.ofW (cc := cX8_want) (maxL := 4) (ret := (some .boolean)) (by decide) rfl ?_
  intro p e s m args below meth c s₁ B hml hv
  obtain ⟨rfl, hP, hK⟩ := hv
  have hx := B.exec
  have hb := B.bytes
  have hr := B.returns
  have hts := atoms_spec (ws := wsX8_want) B.pre
  have hown : s.vm.findClass RX8 = some m.cls := findClass_of_methodNamed B.named
  have hlocks := B.notSynchronized
  have hinX8 : ∀ w ∈ u_ws RX8 TX8 37, w ∈ wsX8_want := by decide +kernel
  have hKI := hK
  have hS : va_S A s.heap s.heap [] := va_S.rf
  have hl := lv_entry ([.ref h0, .int a1, .int a2, .int a3]) (n := 4) (Nat.le_of_ble_eq_true rfl)
  rw [lg_entry_eq]
  generalize (lg_sl ([.ref h0, .int a1, .int a2, .int a3]) ++ List.replicate (4 - (lg_sl ([.ref h0, .int a1, .int a2, .int a3])).length) Slot.unset).toArray = ls at hl ⊢
  have hl : lv_has ls 4 [(0, .ref h0), (1, .int a1), (2, .int a2), (3, .int a3)] := hl
  refine lv_iload_n hx hb dX8_want_0 rfl (lv_at hl 1 rfl) ?_
  refine pu_call (va_runS (As := [.int a1]) (rest := []) ⟨hx, hb, hml, hown, hts⟩ (c_X8_isWare l a1) (va_cwS 1 hts gX8_want_X8_isWare rfl rfl rfl (by decide +kernel) ⟨Nat.le_of_ble_eq_true rfl, Nat.le_of_ble_eq_true rfl⟩) pu_preS rfl rfl hl.1 rfl (lv_room (Nat.le_of_ble_eq_true rfl)) dX8_want_1 ⟨Nat.zero_le _, Nat.zero_le _⟩) ?_
  refine lv_if_eq (tgt := 28) hx hb dX8_want_4 (by decide) (fun h_1 => ?_) (fun h_1 => ?_)
  · skip
    refine lv_iconst (v := 0) hx hb dX8_want_28 (by decide) ?_
    exact W.zret (v := 0) hx hb hr rfl (fun t ht hW => ⟨⟨0, (), rfl, (by simp only [sp_want, if_pos h_1]), trivial⟩, hS.F ht⟩) hS.2.2 dX8_want_29
  · skip
    refine lv_iload_n hx hb dX8_want_7 rfl (lv_at hl 2 rfl) ?_
    refine lv_iconst (v := 0) hx hb dX8_want_8 (by decide) ?_
    refine lv_bipush (v := 20) hx hb dX8_want_9 (by decide) ?_
    refine pu_call (va_runS (As := [.int a2, .int 0, .int 20]) (rest := []) ⟨hx, hb, hml, hown, hts⟩ (c_X8_in l a2 0 20) (va_cwS 3 hts gX8_want_X8_in rfl rfl rfl (by decide +kernel) ⟨Nat.le_of_ble_eq_true rfl, Nat.le_of_ble_eq_true rfl⟩) pu_preS rfl rfl hl.1 rfl (lv_room (Nat.le_of_ble_eq_true rfl)) dX8_want_11 ⟨Nat.zero_le _, Nat.zero_le _⟩) ?_
    refine lv_if_eq (tgt := 28) hx hb dX8_want_14 (by decide) (fun h_2 => ?_) (fun h_2 => ?_)
    · skip
      refine lv_iconst (v := 0) hx hb dX8_want_28 (by decide) ?_
      exact W.zret (v := 0) hx hb hr rfl (fun t ht hW => ⟨⟨0, (), rfl, (by simp only [sp_want, if_neg h_1, if_pos h_2]), trivial⟩, hS.F ht⟩) hS.2.2 dX8_want_29
    · skip
      refine lv_iload_n hx hb dX8_want_17 rfl (lv_at hl 3 rfl) ?_
      refine lv_iconst (v := 0) hx hb dX8_want_18 (by decide) ?_
      refine lv_sipush (v := 1000) hx hb dX8_want_19 (by decide) ?_
      refine pu_call (va_runS (As := [.int a3, .int 0, .int 1000]) (rest := []) ⟨hx, hb, hml, hown, hts⟩ (c_X8_in l a3 0 1000) (va_cwS 3 hts gX8_want_X8_in rfl rfl rfl (by decide +kernel) ⟨Nat.le_of_ble_eq_true rfl, Nat.le_of_ble_eq_true rfl⟩) pu_preS rfl rfl hl.1 rfl (lv_room (Nat.le_of_ble_eq_true rfl)) dX8_want_22 ⟨Nat.zero_le _, Nat.zero_le _⟩) ?_
      refine lv_if_ne (tgt := 30) hx hb dX8_want_25 (by decide) (fun h_3 => ?_) (fun h_3 => ?_)
      · skip
        refine lv_aload_n hx hb dX8_want_30 rfl (lv_at hl 0 rfl) ?_
        refine va_get (D := (dC, dI)) (ci := 7) (v := .ref (q 33)) (C := RX8) (T := TX8) (N := 37) hx hb hts hinX8 hown hK hP 0 rfl rfl 33 (by decide) (hts (.fieldLink RX8 95 "FurPostsModel" "parts" "[I") (by decide +kernel)) (fun _ h9 => h9) rfl dX8_want_31 ?_
        refine lv_bipush (v := 21) hx hb dX8_want_34 (by decide) ?_
        refine lv_iload_n hx hb dX8_want_36 rfl (lv_at hl 1 rfl) ?_
        refine lv_imul hx hb dX8_want_37 ?_
        refine lv_iload_n hx hb dX8_want_38 rfl (lv_at hl 2 rfl) ?_
        refine lv_iadd hx hb dX8_want_39 ?_
        refine lv_iload_n hx hb dX8_want_40 rfl (lv_at hl 3 rfl) ?_
        refine ia_st hx hb hKI (hP.sub (ws' := [((q 33), .inl (cI, 126, .inl zz_))]) [1] rfl) hAq hS 0 rfl (vp_two (a := 5) (b := 20) (m := 21) (sp_nI h_1 rfl) (sp_nI h_2 rfl) rfl (by decide) (by decide)) dX8_want_41 (fun H locs hP hz hk hS => ?_)
        refine lv_iconst (v := 1) hx hb dX8_want_42 (by decide) ?_
        exact W.zret (v := 1) hx hb hr rfl (fun t ht hW => ⟨⟨1, (), rfl, (by simp only [sp_want, if_neg h_1, if_neg h_2, if_neg h_3]), trivial⟩, hS.F ht⟩) hS.2.2 dX8_want_43
      · skip
        refine lv_iconst (v := 0) hx hb dX8_want_28 (by decide) ?_
        exact W.zret (v := 0) hx hb hr rfl (fun t ht hW => ⟨⟨0, (), rfl, (by simp only [sp_want, if_neg h_1, if_neg h_2, if_pos h_3]), trivial⟩, hS.F ht⟩) hS.2.2 dX8_want_29

set_option maxHeartbeats 4000000 in
set_option maxRecDepth 100000 in
theorem c_X8_post (l : Launch) (dC : Nat → ClassId) (dI : Nat → Nat → Nat) (h0 : Nat) (q : Nat → Nat) (A : Nat → Prop) (hA0 : A h0) : Met l yX8_post wsX8_post ({ frames := 0, cells := 0, slots := 0, locals := 0 }) (va_Pc [.ref h0] (pu_P (dC, dI) vwCl [] [(h0, .inr (7, fm_O q))])) (im_Q 0 A) 0 0 A := by
  refine Met.ofW (cc := cX8_post) (maxL := 1) (ret := (some .int)) (by decide) rfl ?_
  intro p e s m args below meth c s₁ B hml hv
  obtain ⟨rfl, hP, hK⟩ := hv
  have hx := B.exec
  have hb := B.bytes
  have hr := B.returns
  have hts := atoms_spec (ws := wsX8_post) B.pre
  have hown : s.vm.findClass RX8 = some m.cls := findClass_of_methodNamed B.named
  have hlocks := B.notSynchronized
  have hinX8 : ∀ w ∈ u_ws RX8 TX8 37, w ∈ wsX8_post := by decide +kernel
  have hD : va_D A [(h0, .inr (7, fm_O q))] := va_D1 hA0
  have hS : va_S A s.heap s.heap [] := va_S.rf
  have hl := lv_entry ([.ref h0]) (n := 1) (Nat.le_of_ble_eq_true rfl)
  rw [lg_entry_eq]
  generalize (lg_sl ([.ref h0]) ++ List.replicate (1 - (lg_sl ([.ref h0])).length) Slot.unset).toArray = ls at hl ⊢
  have hl : lv_has ls 1 [(0, .ref h0)] := hl
  refine lv_aload_n hx hb dX8_post_0 rfl (lv_at hl 0 rfl) ?_
  refine va_get (D := (dC, dI)) (ci := 7) (v := .int 0) (C := RX8) (T := TX8) (N := 37) hx hb hts hinX8 hown hK hP 0 rfl rfl 1 (by decide) (hts (.fieldLink RX8 104 "FurPostsModel" "posts" "I") (by decide +kernel)) (fun _ h9 => h9) rfl dX8_post_1 ?_
  refine lv_bipush (v := 8) hx hb dX8_post_4 (by decide) ?_
  refine lv_icmp_ne (tgt := 11) hx hb dX8_post_6 (by decide) (fun h_1 => ?_) (fun h_1 => absurd h_1 (by decide))
  refine lv_aload_n hx hb dX8_post_11 rfl (lv_at hl 0 rfl) ?_
  refine lv_dup hx hb dX8_post_12 rfl ?_
  refine va_get (D := (dC, dI)) (ci := 7) (v := .int 0) (C := RX8) (T := TX8) (N := 37) hx hb hts hinX8 hown hK hP 0 rfl rfl 1 (by decide) (hts (.fieldLink RX8 104 "FurPostsModel" "posts" "I") (by decide +kernel)) (fun _ h9 => h9) rfl dX8_post_13 ?_
  refine lv_iconst (v := 1) hx hb dX8_post_16 (by decide) ?_
  refine lv_iadd hx hb dX8_post_17 ?_
  rw [show (0 + 1 : Int32) = (1 : Int32) from by decide]
  refine va_put (D := (dC, dI)) (ci := 7) (v := .int 1) (ty := .int) (C := RX8) (T := TX8) (N := 37) hx hb hts hinX8 tyX8 tyX8_ok nmX8 hown hK hP hD hS 0 rfl rfl 1 (by decide) (hts (.fieldLink RX8 104 "FurPostsModel" "posts" "I") (by decide +kernel)) (fun _ h9 => h9) rfl (by decide +kernel) rfl rfl (Nat.le_of_ble_eq_true rfl) dX8_post_18 (fun H locs hP hD hS => ?_)
  have hP : va_P (dC, dI) vwCl [(h0, .inr (7, [.int 0, .int 1, .ref (q 2), .ref (q 3), .ref (q 4), .int 0, .ref (q 6), .ref (q 7), .ref (q 8), .ref (q 9), .ref (q 10), .ref (q 11), .ref (q 12), .int 0, .ref (q 14), .ref (q 15), .ref (q 16), .ref (q 17), .ref (q 18), .ref (q 19), .ref (q 20), .ref (q 21), .ref (q 22), .ref (q 23), .ref (q 24), .int 0, .ref (q 26), .ref (q 27), .ref (q 28), .ref (q 29), .ref (q 30), .ref (q 31), .ref (q 32), .ref (q 33), .ref (q 34), .int 0, .ref (q 36)]))] H := hP
  have hD : va_D A [(h0, .inr (7, [.int 0, .int 1, .ref (q 2), .ref (q 3), .ref (q 4), .int 0, .ref (q 6), .ref (q 7), .ref (q 8), .ref (q 9), .ref (q 10), .ref (q 11), .ref (q 12), .int 0, .ref (q 14), .ref (q 15), .ref (q 16), .ref (q 17), .ref (q 18), .ref (q 19), .ref (q 20), .ref (q 21), .ref (q 22), .ref (q 23), .ref (q 24), .int 0, .ref (q 26), .ref (q 27), .ref (q 28), .ref (q 29), .ref (q 30), .ref (q 31), .ref (q 32), .ref (q 33), .ref (q 34), .int 0, .ref (q 36)]))] := hD
  refine lv_aload_n hx hb dX8_post_21 rfl (lv_at hl 0 rfl) ?_
  refine va_get (D := (dC, dI)) (ci := 7) (v := .int 1) (C := RX8) (T := TX8) (N := 37) hx hb hts hinX8 hown hK hP 0 rfl rfl 1 (by decide) (hts (.fieldLink RX8 104 "FurPostsModel" "posts" "I") (by decide +kernel)) (fun _ h9 => h9) rfl dX8_post_22 ?_
  refine lv_iconst (v := 1) hx hb dX8_post_25 (by decide) ?_
  refine lv_isub hx hb dX8_post_26 ?_
  rw [show (1 - 1 : Int32) = (0 : Int32) from by decide]
  exact W.iret (v := 0) hx hb hr (fun t ht hW => ⟨⟨0, (), rfl, rfl, trivial⟩, hS.F ht⟩) hS.2.2 dX8_post_27

set_option maxHeartbeats 4000000 in
set_option maxRecDepth 100000 in
theorem c_X7_go (l : Launch) (dC : Nat → ClassId) (dI : Nat → Nat → Nat) (h0 : Nat) (q : Nat → Nat) (A : Nat → Prop) (hA0 : A h0) (a1 : Int32) : Met l yX7_go wsX7_go ({ frames := 1, cells := 0, slots := 0, locals := 22 }) (va_Pc [.ref h0, .int a1] (pu_P (dC, dI) vwCl [] [(h0, .inr (6, fx_O q))])) (im_Q (sp_go a1) A) 0 0 A := by
  refine Met.ofW (cc := cX7_go) (maxL := 4) (ret := (some .int)) (by decide) rfl ?_
  intro p e s m args below meth c s₁ B hml hv
  obtain ⟨rfl, hP, hK⟩ := hv
  have hx := B.exec
  have hb := B.bytes
  have hr := B.returns
  have hts := atoms_spec (ws := wsX7_go) B.pre
  have hown : s.vm.findClass RX7 = some m.cls := findClass_of_methodNamed B.named
  have hlocks := B.notSynchronized
  have hinX7 : ∀ w ∈ u_ws RX7 TX7 14, w ∈ wsX7_go := by decide +kernel
  have hS : va_S A s.heap s.heap [] := va_S.rf
  have hl := lv_entry ([.ref h0, .int a1]) (n := 4) (Nat.le_of_ble_eq_true rfl)
  rw [lg_entry_eq]
  generalize (lg_sl ([.ref h0, .int a1]) ++ List.replicate (4 - (lg_sl ([.ref h0, .int a1])).length) Slot.unset).toArray = ls at hl ⊢
  have hl : lv_has ls 4 [(0, .ref h0), (1, .int a1)] := hl
  refine lv_iload_n hx hb dX7_go_0 rfl (lv_at hl 1 rfl) ?_
  refine lv_iconst (v := 0) hx hb dX7_go_1 (by decide) ?_
  refine lv_sipush (v := 400) hx hb dX7_go_2 (by decide) ?_
  refine pu_call (va_runS (As := [.int a1, .int 0, .int 400]) (rest := []) ⟨hx, hb, hml, hown, hts⟩ (c_X7_isWithin l a1 0 400) (va_cwS 3 hts gX7_go_X7_isWithin rfl rfl rfl (by decide +kernel) ⟨Nat.le_of_ble_eq_true rfl, Nat.le_of_ble_eq_true rfl⟩) pu_preS rfl rfl hl.1 rfl (lv_room (Nat.le_of_ble_eq_true rfl)) dX7_go_5 ⟨Nat.zero_le _, Nat.zero_le _⟩) ?_
  refine lv_if_ne (tgt := 13) hx hb dX7_go_8 (by decide) (fun h_1 => ?_) (fun h_1 => ?_)
  · obtain ⟨N, hN, rfl⟩ := sp_nI h_1 (n := 400) (by decide)
    have hgo : sp_go (nI N) = nI N := if_neg h_1
    have key : ∀ (k i : Nat) (G : Heap) (locs : List Loc) (ls : Array Slot), i + k = N → va_S A s.heap G locs → va_P (dC, dI) vwCl [(h0, .inr (6, [.ref (q 1), .ref (q 2), .ref (q 3), .ref (q 4), .ref (q 5), .ref (q 6), .ref (q 7), .ref (q 8), .int (nI i), .int 0, .int 0, .int 0, .int 0, .int 0]))] G → lv_has ls 4 [(2, .int (nI i)), (0, .ref h0), (1, .int (nI N))] →
        W p l e (headSpec wsX7_go ({ frames := 1, cells := 0, slots := 0, locals := 22 })).room s m [.ref h0, .int (nI N)].toArray below meth c G locs 0 0 (MQ below (im_Q (sp_go (nI N)) A) [.ref h0, .int (nI N)].toArray s 0 0 A) (F0 m 15 ls []) := by
      intro k
      induction k with
      | zero =>
        intro i G locs ls hi hS hP hl
        have hi : i = N := by omega
        subst hi
        refine lv_iload_n hx hb dX7_go_15 rfl (lv_at hl 0 rfl) ?_
        refine lv_iload_n hx hb dX7_go_16 rfl (lv_at hl 2 rfl) ?_
        refine lv_icmp_ge (tgt := 67) hx hb dX7_go_17 (by decide) (fun _ => ?_) (fun h => absurd (nI_le (Nat.le_refl _) (by omega)) h)
        refine lv_aload_n hx hb dX7_go_67 rfl (lv_at hl 1 rfl) ?_
        refine va_get (D := (dC, dI)) (ci := 6) (v := .int (nI i)) (C := RX7) (T := TX7) (N := 14) hx hb hts hinX7 hown hK hP 0 rfl rfl 8 (by decide) (hts (.fieldLink RX7 103 "FurPosts" "now" "I") (by decide +kernel)) (fun _ h9 => h9) rfl dX7_go_68 ?_
        exact W.iret (v := nI i) hx hb hr (fun t ht hW => ⟨⟨nI i, (), rfl, hgo.symm, trivial⟩, hS.F ht⟩) hS.2.2 dX7_go_71
      | succ k ih =>
        intro i G locs ls hi hS hP hl
        have hlt : i < N := by omega
        refine lv_iload_n hx hb dX7_go_15 rfl (lv_at hl 0 rfl) ?_
        refine lv_iload_n hx hb dX7_go_16 rfl (lv_at hl 2 rfl) ?_
        refine lv_icmp_ge (tgt := 67) hx hb dX7_go_17 (by decide) (fun h => absurd h (nI_ge hlt (by omega))) (fun _ => ?_)
        refine lv_aload_n hx hb dX7_go_20 rfl (lv_at hl 1 rfl) ?_
        refine va_get (D := (dC, dI)) (ci := 6) (v := .int (nI i)) (C := RX7) (T := TX7) (N := 14) hx hb hts hinX7 hown hK hP 0 rfl rfl 8 (by decide) (hts (.fieldLink RX7 103 "FurPosts" "now" "I") (by decide +kernel)) (fun _ h9 => h9) rfl dX7_go_21 ?_
        refine lv_sipush (v := 3000) hx hb dX7_go_24 (by decide) ?_
        refine lv_icmp_ge (tgt := 67) hx hb dX7_go_27 (by decide) (fun h => absurd h (show ¬ (3000 : Int32) ≤ nI i from nI_ge (b := 3000) (by omega) (by decide))) (fun _ => ?_)
        refine lv_iconst (v := 0) hx hb dX7_go_30 (by decide) ?_
        refine lv_istore_n (lv' := [(3, .int 0), (2, .int (nI i)), (0, .ref h0), (1, .int (nI N))]) hx hb dX7_go_31 rfl hl (by decide) rfl (fun ls hl => ?_)
        refine lv_iload_n hx hb dX7_go_32 rfl (lv_at hl 0 rfl) ?_
        refine lv_aload_n hx hb dX7_go_33 rfl (lv_at hl 2 rfl) ?_
        refine va_get (D := (dC, dI)) (ci := 6) (v := .int 0) (C := RX7) (T := TX7) (N := 14) hx hb hts hinX7 hown hK hP 0 rfl rfl 11 (by decide) (hts (.fieldLink RX7 113 "FurPosts" "canoeCount" "I") (by decide +kernel)) (fun _ h9 => h9) rfl dX7_go_34 ?_
        refine lv_icmp_ge (tgt := 51) hx hb dX7_go_37 (by decide) (fun _ => ?_) (fun h => absurd (by decide) h)
        refine lv_aload_n hx hb dX7_go_51 rfl (lv_at hl 2 rfl) ?_
        refine lv_dup hx hb dX7_go_52 rfl ?_
        refine va_get (D := (dC, dI)) (ci := 6) (v := .int (nI i)) (C := RX7) (T := TX7) (N := 14) hx hb hts hinX7 hown hK hP 0 rfl rfl 8 (by decide) (hts (.fieldLink RX7 103 "FurPosts" "now" "I") (by decide +kernel)) (fun _ h9 => h9) rfl dX7_go_53 ?_
        refine lv_iconst (v := 1) hx hb dX7_go_56 (by decide) ?_
        refine lv_iadd hx hb dX7_go_57 ?_
        rw [nI_1]
        refine va_put (D := (dC, dI)) (ci := 6) (v := .int (nI (i + 1))) (ty := .int) (C := RX7) (T := TX7) (N := 14) hx hb hts hinX7 tyX7 tyX7_ok nmX7 hown hK hP (va_D1 hA0) hS 0 rfl rfl 8 (by decide) (hts (.fieldLink RX7 103 "FurPosts" "now" "I") (by decide +kernel)) (fun _ h9 => h9) rfl (by decide +kernel) rfl rfl (Nat.le_of_ble_eq_true rfl) dX7_go_58 (fun H locs hP hD hS => ?_)
        have hP : va_P (dC, dI) vwCl [(h0, .inr (6, [.ref (q 1), .ref (q 2), .ref (q 3), .ref (q 4), .ref (q 5), .ref (q 6), .ref (q 7), .ref (q 8), .int (nI (i + 1)), .int 0, .int 0, .int 0, .int 0, .int 0]))] H := hP
        refine lv_iinc (v := nI (i + 1)) (lv' := [(2, .int (nI (i + 1))), (3, .int 0), (0, .ref h0), (1, .int (nI N))]) hx hb dX7_go_61 hl (k := 1) rfl (show nI i + 1 = nI (i + 1) from nI_1 i) (by decide) rfl (fun ls hl => ?_)
        refine lv_goto (tgt := 15) hx hb dX7_go_64 (by decide) ?_
        exact ih (i + 1) H locs ls (by omega) hS hP (lv_sub hl [0, 2, 3] rfl)
    refine lv_iconst (v := 0) hx hb dX7_go_13 (by decide) ?_
    refine lv_istore_n (lv' := [(2, .int 0), (0, .ref h0), (1, .int (nI N))]) hx hb dX7_go_14 rfl hl (by decide) rfl (fun ls hl => ?_)
    exact key N 0 s.heap [] ls (by omega) hS hP hl
  · refine lv_iconst (v := (-1)) hx hb dX7_go_11 (by decide) ?_
    exact W.iret (v := (-1)) hx hb hr (fun t ht hW => ⟨⟨(-1), (), rfl, (if_pos h_1).symm, trivial⟩, hS.F ht⟩) hS.2.2 dX7_go_12

set_option maxHeartbeats 4000000 in
set_option maxRecDepth 100000 in
theorem c_X8_go (l : Launch) (dC : Nat → ClassId) (dI : Nat → Nat → Nat) (h0 : Nat) (q : Nat → Nat) (A : Nat → Prop) (hA0 : A h0) (a1 : Int32) : Met l yX8_go wsX8_go ({ frames := 1, cells := 0, slots := 0, locals := 22 }) (va_Pc [.ref h0, .int a1] (pu_P (dC, dI) vwCl [] [(h0, .inr (7, fm_O q))])) (im_Q (sp_go a1) A) 0 0 A := by
  refine Met.ofW (cc := cX8_go) (maxL := 4) (ret := (some .int)) (by decide) rfl ?_
  intro p e s m args below meth c s₁ B hml hv
  obtain ⟨rfl, hP, hK⟩ := hv
  have hx := B.exec
  have hb := B.bytes
  have hr := B.returns
  have hts := atoms_spec (ws := wsX8_go) B.pre
  have hown : s.vm.findClass RX8 = some m.cls := findClass_of_methodNamed B.named
  have hlocks := B.notSynchronized
  have hinX8 : ∀ w ∈ u_ws RX8 TX8 37, w ∈ wsX8_go := by decide +kernel
  have hS : va_S A s.heap s.heap [] := va_S.rf
  have hl := lv_entry ([.ref h0, .int a1]) (n := 4) (Nat.le_of_ble_eq_true rfl)
  rw [lg_entry_eq]
  generalize (lg_sl ([.ref h0, .int a1]) ++ List.replicate (4 - (lg_sl ([.ref h0, .int a1])).length) Slot.unset).toArray = ls at hl ⊢
  have hl : lv_has ls 4 [(0, .ref h0), (1, .int a1)] := hl
  refine lv_iload_n hx hb dX8_go_0 rfl (lv_at hl 1 rfl) ?_
  refine lv_iconst (v := 0) hx hb dX8_go_1 (by decide) ?_
  refine lv_sipush (v := 400) hx hb dX8_go_2 (by decide) ?_
  refine pu_call (va_runS (As := [.int a1, .int 0, .int 400]) (rest := []) ⟨hx, hb, hml, hown, hts⟩ (c_X8_in l a1 0 400) (va_cwS 3 hts gX8_go_X8_in rfl rfl rfl (by decide +kernel) ⟨Nat.le_of_ble_eq_true rfl, Nat.le_of_ble_eq_true rfl⟩) pu_preS rfl rfl hl.1 rfl (lv_room (Nat.le_of_ble_eq_true rfl)) dX8_go_5 ⟨Nat.zero_le _, Nat.zero_le _⟩) ?_
  refine lv_if_ne (tgt := 13) hx hb dX8_go_8 (by decide) (fun h_1 => ?_) (fun h_1 => ?_)
  · obtain ⟨N, hN, rfl⟩ := sp_nI h_1 (n := 400) (by decide)
    have hgo : sp_go (nI N) = nI N := if_neg h_1
    have key : ∀ (k i : Nat) (G : Heap) (locs : List Loc) (ls : Array Slot), i + k = N → va_S A s.heap G locs → va_P (dC, dI) vwCl [(h0, .inr (7, [.int (nI i), .int 0, .ref (q 2), .ref (q 3), .ref (q 4), .int 0, .ref (q 6), .ref (q 7), .ref (q 8), .ref (q 9), .ref (q 10), .ref (q 11), .ref (q 12), .int 0, .ref (q 14), .ref (q 15), .ref (q 16), .ref (q 17), .ref (q 18), .ref (q 19), .ref (q 20), .ref (q 21), .ref (q 22), .ref (q 23), .ref (q 24), .int 0, .ref (q 26), .ref (q 27), .ref (q 28), .ref (q 29), .ref (q 30), .ref (q 31), .ref (q 32), .ref (q 33), .ref (q 34), .int 0, .ref (q 36)]))] G → lv_has ls 4 [(2, .int (nI i)), (0, .ref h0), (1, .int (nI N))] →
        W p l e (headSpec wsX8_go ({ frames := 1, cells := 0, slots := 0, locals := 22 })).room s m [.ref h0, .int (nI N)].toArray below meth c G locs 0 0 (MQ below (im_Q (sp_go (nI N)) A) [.ref h0, .int (nI N)].toArray s 0 0 A) (F0 m 15 ls []) := by
      intro k
      induction k with
      | zero =>
        intro i G locs ls hi hS hP hl
        have hi : i = N := by omega
        subst hi
        refine lv_iload_n hx hb dX8_go_15 rfl (lv_at hl 0 rfl) ?_
        refine lv_iload_n hx hb dX8_go_16 rfl (lv_at hl 2 rfl) ?_
        refine lv_icmp_ge (tgt := 115) hx hb dX8_go_17 (by decide) (fun _ => ?_) (fun h => absurd (nI_le (Nat.le_refl _) (by omega)) h)
        refine lv_aload_n hx hb dX8_go_115 rfl (lv_at hl 1 rfl) ?_
        refine va_get (D := (dC, dI)) (ci := 7) (v := .int (nI i)) (C := RX8) (T := TX8) (N := 37) hx hb hts hinX8 hown hK hP 0 rfl rfl 0 (by decide) (hts (.fieldLink RX8 137 "FurPostsModel" "now" "I") (by decide +kernel)) (fun _ h9 => h9) rfl dX8_go_116 ?_
        exact W.iret (v := nI i) hx hb hr (fun t ht hW => ⟨⟨nI i, (), rfl, hgo.symm, trivial⟩, hS.F ht⟩) hS.2.2 dX8_go_119
      | succ k ih =>
        intro i G locs ls hi hS hP hl
        have hlt : i < N := by omega
        refine lv_iload_n hx hb dX8_go_15 rfl (lv_at hl 0 rfl) ?_
        refine lv_iload_n hx hb dX8_go_16 rfl (lv_at hl 2 rfl) ?_
        refine lv_icmp_ge (tgt := 115) hx hb dX8_go_17 (by decide) (fun h => absurd h (nI_ge hlt (by omega))) (fun _ => ?_)
        refine lv_aload_n hx hb dX8_go_20 rfl (lv_at hl 1 rfl) ?_
        refine va_get (D := (dC, dI)) (ci := 7) (v := .int (nI i)) (C := RX8) (T := TX8) (N := 37) hx hb hts hinX8 hown hK hP 0 rfl rfl 0 (by decide) (hts (.fieldLink RX8 137 "FurPostsModel" "now" "I") (by decide +kernel)) (fun _ h9 => h9) rfl dX8_go_21 ?_
        refine lv_sipush (v := 3000) hx hb dX8_go_24 (by decide) ?_
        refine lv_icmp_ge (tgt := 115) hx hb dX8_go_27 (by decide) (fun h => absurd h (show ¬ (3000 : Int32) ≤ nI i from nI_ge (b := 3000) (by omega) (by decide))) (fun _ => ?_)
        refine lv_iconst (v := 0) hx hb dX8_go_30 (by decide) ?_
        refine lv_istore_n (lv' := [(3, .int 0), (2, .int (nI i)), (0, .ref h0), (1, .int (nI N))]) hx hb dX8_go_31 rfl hl (by decide) rfl (fun ls hl => ?_)
        refine lv_iload_n hx hb dX8_go_32 rfl (lv_at hl 0 rfl) ?_
        refine lv_aload_n hx hb dX8_go_33 rfl (lv_at hl 2 rfl) ?_
        refine va_get (D := (dC, dI)) (ci := 7) (v := .int 0) (C := RX8) (T := TX8) (N := 37) hx hb hts hinX8 hown hK hP 0 rfl rfl 13 (by decide) (hts (.fieldLink RX8 112 "FurPostsModel" "canoes" "I") (by decide +kernel)) (fun _ h9 => h9) rfl dX8_go_34 ?_
        refine lv_icmp_ge (tgt := 99) hx hb dX8_go_37 (by decide) (fun _ => ?_) (fun h => absurd (by decide) h)
        refine lv_aload_n hx hb dX8_go_99 rfl (lv_at hl 2 rfl) ?_
        refine lv_dup hx hb dX8_go_100 rfl ?_
        refine va_get (D := (dC, dI)) (ci := 7) (v := .int (nI i)) (C := RX8) (T := TX8) (N := 37) hx hb hts hinX8 hown hK hP 0 rfl rfl 0 (by decide) (hts (.fieldLink RX8 137 "FurPostsModel" "now" "I") (by decide +kernel)) (fun _ h9 => h9) rfl dX8_go_101 ?_
        refine lv_iconst (v := 1) hx hb dX8_go_104 (by decide) ?_
        refine lv_iadd hx hb dX8_go_105 ?_
        rw [nI_1]
        refine va_put (D := (dC, dI)) (ci := 7) (v := .int (nI (i + 1))) (ty := .int) (C := RX8) (T := TX8) (N := 37) hx hb hts hinX8 tyX8 tyX8_ok nmX8 hown hK hP (va_D1 hA0) hS 0 rfl rfl 0 (by decide) (hts (.fieldLink RX8 137 "FurPostsModel" "now" "I") (by decide +kernel)) (fun _ h9 => h9) rfl (by decide +kernel) rfl rfl (Nat.le_of_ble_eq_true rfl) dX8_go_106 (fun H locs hP hD hS => ?_)
        have hP : va_P (dC, dI) vwCl [(h0, .inr (7, [.int (nI (i + 1)), .int 0, .ref (q 2), .ref (q 3), .ref (q 4), .int 0, .ref (q 6), .ref (q 7), .ref (q 8), .ref (q 9), .ref (q 10), .ref (q 11), .ref (q 12), .int 0, .ref (q 14), .ref (q 15), .ref (q 16), .ref (q 17), .ref (q 18), .ref (q 19), .ref (q 20), .ref (q 21), .ref (q 22), .ref (q 23), .ref (q 24), .int 0, .ref (q 26), .ref (q 27), .ref (q 28), .ref (q 29), .ref (q 30), .ref (q 31), .ref (q 32), .ref (q 33), .ref (q 34), .int 0, .ref (q 36)]))] H := hP
        refine lv_iinc (v := nI (i + 1)) (lv' := [(2, .int (nI (i + 1))), (3, .int 0), (0, .ref h0), (1, .int (nI N))]) hx hb dX8_go_109 hl (k := 1) rfl (show nI i + 1 = nI (i + 1) from nI_1 i) (by decide) rfl (fun ls hl => ?_)
        refine lv_goto (tgt := 15) hx hb dX8_go_112 (by decide) ?_
        exact ih (i + 1) H locs ls (by omega) hS hP (lv_sub hl [0, 2, 3] rfl)
    refine lv_iconst (v := 0) hx hb dX8_go_13 (by decide) ?_
    refine lv_istore_n (lv' := [(2, .int 0), (0, .ref h0), (1, .int (nI N))]) hx hb dX8_go_14 rfl hl (by decide) rfl (fun ls hl => ?_)
    exact key N 0 s.heap [] ls (by omega) hS hP hl
  · refine lv_iconst (v := (-1)) hx hb dX8_go_11 (by decide) ?_
    exact W.iret (v := (-1)) hx hb hr (fun t ht hW => ⟨⟨(-1), (), rfl, (if_pos h_1).symm, trivial⟩, hS.F ht⟩) hS.2.2 dX8_go_12

set_option maxHeartbeats 4000000 in
set_option maxRecDepth 100000 in
theorem c_X8_count (l : Launch) (dC : Nat → ClassId) (dI : Nat → Nat → Nat) (h0 : Nat) (q : Nat → Nat) (cI : ClassId) (a1 a2 : Int32) : Met l yX8_count wsX8_count ({ frames := 2, cells := 0, slots := 0, locals := 42 }) (va_Pc [.ref h0, .int a1, .int a2] (pu_P (dC, dI) vwCl (fm_T cI) (fm_W h0 q cI))) (pu_Q (.int (sp_count a1 a2))) 0 0 pu_F := by
  refine Met.ofW (cc := cX8_count) (maxL := 3) (ret := (some .int)) (by decide) rfl ?_
  intro p e s m args below meth c s₁ B hml hv
  obtain ⟨rfl, hP, hK⟩ := hv
  have hx := B.exec
  have hb := B.bytes
  have hr := B.returns
  have hts := atoms_spec (ws := wsX8_count) B.pre
  have hown : s.vm.findClass RX8 = some m.cls := findClass_of_methodNamed B.named
  have hlocks := B.notSynchronized
  have hinX8 : ∀ w ∈ u_ws RX8 TX8 37, w ∈ wsX8_count := by decide +kernel
  have hl := lv_entry ([.ref h0, .int a1, .int a2]) (n := 3) (Nat.le_of_ble_eq_true rfl)
  rw [lg_entry_eq]
  generalize (lg_sl ([.ref h0, .int a1, .int a2]) ++ List.replicate (3 - (lg_sl ([.ref h0, .int a1, .int a2])).length) Slot.unset).toArray = ls at hl ⊢
  have hl : lv_has ls 3 [(0, .ref h0), (1, .int a1), (2, .int a2)] := hl
  refine lv_iload_n hx hb dX8_count_0 rfl (lv_at hl 2 rfl) ?_
  refine lv_iconst (v := 0) hx hb dX8_count_1 (by decide) ?_
  refine lv_iconst (v := 5) hx hb dX8_count_2 (by decide) ?_
  refine pu_call (va_runS (As := [.int a2, .int 0, .int 5]) (rest := []) ⟨hx, hb, hml, hown, hts⟩ (c_X8_in l a2 0 5) (va_cwS 3 hts gX8_count_X8_in rfl rfl rfl (by decide +kernel) ⟨Nat.le_of_ble_eq_true rfl, Nat.le_of_ble_eq_true rfl⟩) pu_preS rfl rfl hl.1 rfl (lv_room (Nat.le_of_ble_eq_true rfl)) dX8_count_3 ⟨Nat.zero_le _, Nat.zero_le _⟩) ?_
  refine lv_if_ne (tgt := 11) hx hb dX8_count_6 (by decide) (fun h_1 => ?_) (fun h_1 => ?_)
  · skip
    refine lv_iload_n hx hb dX8_count_11 rfl (lv_at hl 1 rfl) ?_
    refine pu_call (va_runS (As := [.int a1]) (rest := []) ⟨hx, hb, hml, hown, hts⟩ (c_X8_isWare l a1) (va_cwS 1 hts gX8_count_X8_isWare rfl rfl rfl (by decide +kernel) ⟨Nat.le_of_ble_eq_true rfl, Nat.le_of_ble_eq_true rfl⟩) pu_preS rfl rfl hl.1 rfl (lv_room (Nat.le_of_ble_eq_true rfl)) dX8_count_12 ⟨Nat.zero_le _, Nat.zero_le _⟩) ?_
    refine lv_if_eq (tgt := 30) hx hb dX8_count_15 (by decide) (fun h_2 => ?_) (fun h_2 => ?_)
    · skip
      refine lv_iload_n hx hb dX8_count_30 rfl (lv_at hl 1 rfl) ?_
      refine lv_iconst (v := (-1)) hx hb dX8_count_31 (by decide) ?_
      refine lv_icmp_eq (tgt := 37) hx hb dX8_count_32 (by decide) (fun h_3 => ?_) (fun h_3 => ?_)
      · skip
        refine lv_iload_n hx hb dX8_count_37 rfl (lv_at hl 2 rfl) ?_
        rcases (Decidable.em (a2 = 0)) with e_4 | e_4
        · refine lv_tableIn (off := 34) (tgt := 72) hx hb dX8_count_38 (by rw [e_4]; decide) (by rw [e_4]; decide) (by rw [e_4]; rfl) (by decide) ?_
          refine lv_aload_n hx hb dX8_count_72 rfl (lv_at hl 0 rfl) ?_
          refine va_get (D := (dC, dI)) (ci := 7) (v := .int 0) (C := RX8) (T := TX8) (N := 37) hx hb hts hinX8 hown hK hP 0 rfl rfl 0 (by decide) (hts (.fieldLink RX8 137 "FurPostsModel" "now" "I") (by decide +kernel)) (fun _ h9 => h9) rfl dX8_count_73 ?_
          exact W.iret (v := 0) hx hb hr (fun t ht hW => ⟨congrArg (fun z => Outcome.returned (some (Value.int z))) (by first | (simp only [sp_count, if_neg h_1, if_pos h_2, if_pos h_3]; done) | (simp only [sp_count, if_neg h_1, if_pos h_2, if_pos h_3]; split <;> rfl)), ht⟩) (fun q h => by cases h) dX8_count_76
        rcases (Decidable.em (a2 = 1)) with e_5 | e_5
        · refine lv_tableIn (off := 39) (tgt := 77) hx hb dX8_count_38 (by rw [e_5]; decide) (by rw [e_5]; decide) (by rw [e_5]; rfl) (by decide) ?_
          refine lv_aload_n hx hb dX8_count_77 rfl (lv_at hl 0 rfl) ?_
          refine va_get (D := (dC, dI)) (ci := 7) (v := .int 0) (C := RX8) (T := TX8) (N := 37) hx hb hts hinX8 hown hK hP 0 rfl rfl 1 (by decide) (hts (.fieldLink RX8 104 "FurPostsModel" "posts" "I") (by decide +kernel)) (fun _ h9 => h9) rfl dX8_count_78 ?_
          exact W.iret (v := 0) hx hb hr (fun t ht hW => ⟨congrArg (fun z => Outcome.returned (some (Value.int z))) (by first | (simp only [sp_count, if_neg h_1, if_pos h_2, if_pos h_3]; done) | (simp only [sp_count, if_neg h_1, if_pos h_2, if_pos h_3]; split <;> rfl)), ht⟩) (fun q h => by cases h) dX8_count_81
        rcases (Decidable.em (a2 = 2)) with e_6 | e_6
        · refine lv_tableIn (off := 44) (tgt := 82) hx hb dX8_count_38 (by rw [e_6]; decide) (by rw [e_6]; decide) (by rw [e_6]; rfl) (by decide) ?_
          refine lv_aload_n hx hb dX8_count_82 rfl (lv_at hl 0 rfl) ?_
          refine va_get (D := (dC, dI)) (ci := 7) (v := .int 0) (C := RX8) (T := TX8) (N := 37) hx hb hts hinX8 hown hK hP 0 rfl rfl 5 (by decide) (hts (.fieldLink RX8 115 "FurPostsModel" "ways" "I") (by decide +kernel)) (fun _ h9 => h9) rfl dX8_count_83 ?_
          exact W.iret (v := 0) hx hb hr (fun t ht hW => ⟨congrArg (fun z => Outcome.returned (some (Value.int z))) (by first | (simp only [sp_count, if_neg h_1, if_pos h_2, if_pos h_3]; done) | (simp only [sp_count, if_neg h_1, if_pos h_2, if_pos h_3]; split <;> rfl)), ht⟩) (fun q h => by cases h) dX8_count_86
        rcases (Decidable.em (a2 = 3)) with e_7 | e_7
        · refine lv_tableIn (off := 49) (tgt := 87) hx hb dX8_count_38 (by rw [e_7]; decide) (by rw [e_7]; decide) (by rw [e_7]; rfl) (by decide) ?_
          refine lv_aload_n hx hb dX8_count_87 rfl (lv_at hl 0 rfl) ?_
          refine va_get (D := (dC, dI)) (ci := 7) (v := .int 0) (C := RX8) (T := TX8) (N := 37) hx hb hts hinX8 hown hK hP 0 rfl rfl 13 (by decide) (hts (.fieldLink RX8 112 "FurPostsModel" "canoes" "I") (by decide +kernel)) (fun _ h9 => h9) rfl dX8_count_88 ?_
          exact W.iret (v := 0) hx hb hr (fun t ht hW => ⟨congrArg (fun z => Outcome.returned (some (Value.int z))) (by first | (simp only [sp_count, if_neg h_1, if_pos h_2, if_pos h_3]; done) | (simp only [sp_count, if_neg h_1, if_pos h_2, if_pos h_3]; split <;> rfl)), ht⟩) (fun q h => by cases h) dX8_count_91
        rcases (Decidable.em (a2 = 4)) with e_8 | e_8
        · refine lv_tableIn (off := 54) (tgt := 92) hx hb dX8_count_38 (by rw [e_8]; decide) (by rw [e_8]; decide) (by rw [e_8]; rfl) (by decide) ?_
          refine lv_aload_n hx hb dX8_count_92 rfl (lv_at hl 0 rfl) ?_
          refine va_get (D := (dC, dI)) (ci := 7) (v := .int 0) (C := RX8) (T := TX8) (N := 37) hx hb hts hinX8 hown hK hP 0 rfl rfl 25 (by decide) (hts (.fieldLink RX8 144 "FurPostsModel" "letters" "I") (by decide +kernel)) (fun _ h9 => h9) rfl dX8_count_93 ?_
          exact W.iret (v := 0) hx hb hr (fun t ht hW => ⟨congrArg (fun z => Outcome.returned (some (Value.int z))) (by first | (simp only [sp_count, if_neg h_1, if_pos h_2, if_pos h_3]; done) | (simp only [sp_count, if_neg h_1, if_pos h_2, if_pos h_3]; split <;> rfl)), ht⟩) (fun q h => by cases h) dX8_count_96
        refine lv_tableOut (tgt := 97) hx hb dX8_count_38 (by have j_0 := sw_n (n := 0) (k := 0) e_4 (by decide); have j_1 := sw_n (n := 1) (k := 1) e_5 (by decide); have j_2 := sw_n (n := 2) (k := 2) e_6 (by decide); have j_3 := sw_n (n := 3) (k := 3) e_7 (by decide); have j_4 := sw_n (n := 4) (k := 4) e_8 (by decide); omega) (by decide) ?_
        refine lv_aload_n hx hb dX8_count_97 rfl (lv_at hl 0 rfl) ?_
        refine va_get (D := (dC, dI)) (ci := 7) (v := .int 0) (C := RX8) (T := TX8) (N := 37) hx hb hts hinX8 hown hK hP 0 rfl rfl 35 (by decide) (hts (.fieldLink RX8 156 "FurPostsModel" "debtsLost" "I") (by decide +kernel)) (fun _ h9 => h9) rfl dX8_count_98 ?_
        exact W.iret (v := 0) hx hb hr (fun t ht hW => ⟨congrArg (fun z => Outcome.returned (some (Value.int z))) (by first | (simp only [sp_count, if_neg h_1, if_pos h_2, if_pos h_3]; done) | (simp only [sp_count, if_neg h_1, if_pos h_2, if_pos h_3]; split <;> rfl)), ht⟩) (fun q h => by cases h) dX8_count_101
      · skip
        refine lv_iconst (v := (-1)) hx hb dX8_count_35 (by decide) ?_
        exact W.iret (v := (-1)) hx hb hr (fun t ht hW => ⟨congrArg (fun z => Outcome.returned (some (Value.int z))) (by first | (simp only [sp_count, if_neg h_1, if_pos h_2, if_neg h_3]; done) | (simp only [sp_count, if_neg h_1, if_pos h_2, if_neg h_3]; split <;> rfl)), ht⟩) (fun q h => by cases h) dX8_count_36
    · skip
      refine lv_aload_n hx hb dX8_count_18 rfl (lv_at hl 0 rfl) ?_
      refine va_get (D := (dC, dI)) (ci := 7) (v := .ref (q 34)) (C := RX8) (T := TX8) (N := 37) hx hb hts hinX8 hown hK hP 0 rfl rfl 34 (by decide) (hts (.fieldLink RX8 98 "FurPostsModel" "sums" "[I") (by decide +kernel)) (fun _ h9 => h9) rfl dX8_count_19 ?_
      refine lv_bipush (v := 6) hx hb dX8_count_22 (by decide) ?_
      refine lv_iload_n hx hb dX8_count_24 rfl (lv_at hl 2 rfl) ?_
      refine lv_imul hx hb dX8_count_25 ?_
      refine lv_iload_n hx hb dX8_count_26 rfl (lv_at hl 1 rfl) ?_
      refine lv_iadd hx hb dX8_count_27 ?_
      refine va_iald hx hb hK hP 1 0 rfl rfl (i := ((6 * a2) + a1)) (vp_two (a := 5) (b := 5) (m := 6) (sp_nI h_1 rfl) (sp_nI h_2 rfl) rfl (by decide) (by decide)) dX8_count_28 ?_
      exact W.iret (v := 0) hx hb hr (fun t ht hW => ⟨congrArg (fun z => Outcome.returned (some (Value.int z))) (by first | (simp only [sp_count, if_neg h_1, if_neg h_2]; done) | (simp only [sp_count, if_neg h_1, if_neg h_2]; split <;> rfl)), ht⟩) (fun q h => by cases h) dX8_count_29
  · skip
    refine lv_iconst (v := (-1)) hx hb dX8_count_9 (by decide) ?_
    exact W.iret (v := (-1)) hx hb hr (fun t ht hW => ⟨congrArg (fun z => Outcome.returned (some (Value.int z))) (by first | (simp only [sp_count, if_pos h_1]; done) | (simp only [sp_count, if_pos h_1]; split <;> rfl)), ht⟩) (fun q h => by cases h) dX8_count_10

set_option maxHeartbeats 4000000 in
set_option maxRecDepth 100000 in
theorem c_X7_countOfAll (l : Launch) (dC : Nat → ClassId) (dI : Nat → Nat → Nat) (h0 : Nat) (q : Nat → Nat) (cy : Nat → ClassId) (a1 : Int32) : Met l yX7_countOfAll wsX7_countOfAll ({ frames := 0, cells := 0, slots := 0, locals := 0 }) (va_Pc [.ref h0, .int a1] (pu_P (dC, dI) vwCl (fx_T cy) (fx_W h0 q cy))) (pu_Q (.int (if sp_in a1 0 5 = 0 then -1 else 0))) 0 0 pu_F := by
  refine Met.ofW (cc := cX7_countOfAll) (maxL := 2) (ret := (some .int)) (by decide) rfl ?_
  intro p e s m args below meth c s₁ B hml hv
  obtain ⟨rfl, hP, hK⟩ := hv
  have hx := B.exec
  have hb := B.bytes
  have hr := B.returns
  have hts := atoms_spec (ws := wsX7_countOfAll) B.pre
  have hown : s.vm.findClass RX7 = some m.cls := findClass_of_methodNamed B.named
  have hlocks := B.notSynchronized
  have hinX7 : ∀ w ∈ u_ws RX7 TX7 14, w ∈ wsX7_countOfAll := by decide +kernel
  have hl := lv_entry ([.ref h0, .int a1]) (n := 2) (Nat.le_of_ble_eq_true rfl)
  rw [lg_entry_eq]
  generalize (lg_sl ([.ref h0, .int a1]) ++ List.replicate (2 - (lg_sl ([.ref h0, .int a1])).length) Slot.unset).toArray = ls at hl ⊢
  have hl : lv_has ls 2 [(0, .ref h0), (1, .int a1)] := hl
  refine lv_iload_n hx hb dX7_countOfAll_0 rfl (lv_at hl 1 rfl) ?_
  rcases (Decidable.em (a1 = 0)) with e_1 | e_1
  · refine lv_tableIn (off := 39) (tgt := 40) hx hb dX7_countOfAll_1 (by rw [e_1]; decide) (by rw [e_1]; decide) (by rw [e_1]; rfl) (by decide) ?_
    refine lv_aload_n hx hb dX7_countOfAll_40 rfl (lv_at hl 0 rfl) ?_
    refine va_get (D := (dC, dI)) (ci := 6) (v := .int 0) (C := RX7) (T := TX7) (N := 14) hx hb hts hinX7 hown hK hP 0 rfl rfl 8 (by decide) (hts (.fieldLink RX7 103 "FurPosts" "now" "I") (by decide +kernel)) (fun _ h9 => h9) rfl dX7_countOfAll_41 ?_
    exact W.iret (v := 0) hx hb hr (fun t ht hW => ⟨congrArg (fun z => Outcome.returned (some (Value.int z))) (show (0 : Int32) = if sp_in a1 0 5 = 0 then -1 else 0 from (if_neg (by rw [e_1]; decide)).symm), ht⟩) (fun q h => by cases h) dX7_countOfAll_44
  rcases (Decidable.em (a1 = 1)) with e_2 | e_2
  · refine lv_tableIn (off := 44) (tgt := 45) hx hb dX7_countOfAll_1 (by rw [e_2]; decide) (by rw [e_2]; decide) (by rw [e_2]; rfl) (by decide) ?_
    refine lv_aload_n hx hb dX7_countOfAll_45 rfl (lv_at hl 0 rfl) ?_
    refine va_get (D := (dC, dI)) (ci := 6) (v := .int 0) (C := RX7) (T := TX7) (N := 14) hx hb hts hinX7 hown hK hP 0 rfl rfl 9 (by decide) (hts (.fieldLink RX7 54 "FurPosts" "postCount" "I") (by decide +kernel)) (fun _ h9 => h9) rfl dX7_countOfAll_46 ?_
    exact W.iret (v := 0) hx hb hr (fun t ht hW => ⟨congrArg (fun z => Outcome.returned (some (Value.int z))) (show (0 : Int32) = if sp_in a1 0 5 = 0 then -1 else 0 from (if_neg (by rw [e_2]; decide)).symm), ht⟩) (fun q h => by cases h) dX7_countOfAll_49
  rcases (Decidable.em (a1 = 2)) with e_3 | e_3
  · refine lv_tableIn (off := 49) (tgt := 50) hx hb dX7_countOfAll_1 (by rw [e_3]; decide) (by rw [e_3]; decide) (by rw [e_3]; rfl) (by decide) ?_
    refine lv_aload_n hx hb dX7_countOfAll_50 rfl (lv_at hl 0 rfl) ?_
    refine va_get (D := (dC, dI)) (ci := 6) (v := .int 0) (C := RX7) (T := TX7) (N := 14) hx hb hts hinX7 hown hK hP 0 rfl rfl 10 (by decide) (hts (.fieldLink RX7 63 "FurPosts" "wayCount" "I") (by decide +kernel)) (fun _ h9 => h9) rfl dX7_countOfAll_51 ?_
    exact W.iret (v := 0) hx hb hr (fun t ht hW => ⟨congrArg (fun z => Outcome.returned (some (Value.int z))) (show (0 : Int32) = if sp_in a1 0 5 = 0 then -1 else 0 from (if_neg (by rw [e_3]; decide)).symm), ht⟩) (fun q h => by cases h) dX7_countOfAll_54
  rcases (Decidable.em (a1 = 3)) with e_4 | e_4
  · refine lv_tableIn (off := 54) (tgt := 55) hx hb dX7_countOfAll_1 (by rw [e_4]; decide) (by rw [e_4]; decide) (by rw [e_4]; rfl) (by decide) ?_
    refine lv_aload_n hx hb dX7_countOfAll_55 rfl (lv_at hl 0 rfl) ?_
    refine va_get (D := (dC, dI)) (ci := 6) (v := .int 0) (C := RX7) (T := TX7) (N := 14) hx hb hts hinX7 hown hK hP 0 rfl rfl 11 (by decide) (hts (.fieldLink RX7 113 "FurPosts" "canoeCount" "I") (by decide +kernel)) (fun _ h9 => h9) rfl dX7_countOfAll_56 ?_
    exact W.iret (v := 0) hx hb hr (fun t ht hW => ⟨congrArg (fun z => Outcome.returned (some (Value.int z))) (show (0 : Int32) = if sp_in a1 0 5 = 0 then -1 else 0 from (if_neg (by rw [e_4]; decide)).symm), ht⟩) (fun q h => by cases h) dX7_countOfAll_59
  rcases (Decidable.em (a1 = 4)) with e_5 | e_5
  · refine lv_tableIn (off := 59) (tgt := 60) hx hb dX7_countOfAll_1 (by rw [e_5]; decide) (by rw [e_5]; decide) (by rw [e_5]; rfl) (by decide) ?_
    refine lv_aload_n hx hb dX7_countOfAll_60 rfl (lv_at hl 0 rfl) ?_
    refine va_get (D := (dC, dI)) (ci := 6) (v := .int 0) (C := RX7) (T := TX7) (N := 14) hx hb hts hinX7 hown hK hP 0 rfl rfl 12 (by decide) (hts (.fieldLink RX7 165 "FurPosts" "letterCount" "I") (by decide +kernel)) (fun _ h9 => h9) rfl dX7_countOfAll_61 ?_
    exact W.iret (v := 0) hx hb hr (fun t ht hW => ⟨congrArg (fun z => Outcome.returned (some (Value.int z))) (show (0 : Int32) = if sp_in a1 0 5 = 0 then -1 else 0 from (if_neg (by rw [e_5]; decide)).symm), ht⟩) (fun q h => by cases h) dX7_countOfAll_64
  rcases (Decidable.em (a1 = 5)) with e_6 | e_6
  · refine lv_tableIn (off := 64) (tgt := 65) hx hb dX7_countOfAll_1 (by rw [e_6]; decide) (by rw [e_6]; decide) (by rw [e_6]; rfl) (by decide) ?_
    refine lv_aload_n hx hb dX7_countOfAll_65 rfl (lv_at hl 0 rfl) ?_
    refine va_get (D := (dC, dI)) (ci := 6) (v := .int 0) (C := RX7) (T := TX7) (N := 14) hx hb hts hinX7 hown hK hP 0 rfl rfl 13 (by decide) (hts (.fieldLink RX7 190 "FurPosts" "debtsLost" "I") (by decide +kernel)) (fun _ h9 => h9) rfl dX7_countOfAll_66 ?_
    exact W.iret (v := 0) hx hb hr (fun t ht hW => ⟨congrArg (fun z => Outcome.returned (some (Value.int z))) (show (0 : Int32) = if sp_in a1 0 5 = 0 then -1 else 0 from (if_neg (by rw [e_6]; decide)).symm), ht⟩) (fun q h => by cases h) dX7_countOfAll_69
  refine lv_tableOut (tgt := 70) hx hb dX7_countOfAll_1 (by have j_0 := sw_n (n := 0) (k := 0) e_1 (by decide); have j_1 := sw_n (n := 1) (k := 1) e_2 (by decide); have j_2 := sw_n (n := 2) (k := 2) e_3 (by decide); have j_3 := sw_n (n := 3) (k := 3) e_4 (by decide); have j_4 := sw_n (n := 4) (k := 4) e_5 (by decide); have j_5 := sw_n (n := 5) (k := 5) e_6 (by decide); omega) (by decide) ?_
  refine lv_iconst (v := (-1)) hx hb dX7_countOfAll_70 (by decide) ?_
  exact W.iret (v := (-1)) hx hb hr (fun t ht hW => ⟨congrArg (fun z => Outcome.returned (some (Value.int z))) (show (-1 : Int32) = if sp_in a1 0 5 = 0 then -1 else 0 from (if_pos (sp_out6 e_1 e_2 e_3 e_4 e_5 e_6)).symm), ht⟩) (fun q h => by cases h) dX7_countOfAll_71
set_option maxHeartbeats 4000000 in
set_option maxRecDepth 100000 in
theorem c_X7_count (l : Launch) (dC : Nat → ClassId) (dI : Nat → Nat → Nat) (h0 : Nat) (q : Nat → Nat) (cy : Nat → ClassId) (cA cI : ClassId) (r : Nat → Nat) (a1 a2 : Int32) : Met l yX7_count wsX7_count ({ frames := 1, cells := 0, slots := 0, locals := 22 }) (va_Pc [.ref h0, .int a1, .int a2] (fw_P (dC, dI) vwCl [(cA, .array .int), (cI, .int), (cy 1, .object RX4), (cy 2, .object RX6), (cy 3, .object RX0)] [(h0, .inr (6, fx_O q)), (q 7, .inl (cA, 6, .inr (.inr (.inr (.inr (rw_ r)))))), (q 1, .inl (cy 1, 8, .inr (.inr (.inr (.inr nn_))))), (q 2, .inl (cy 2, 12, .inr (.inr (.inr (.inr nn_))))), (q 3, .inl (cy 3, 120, .inr (.inr (.inr (.inr nn_)))))] cI r 6)) (pu_Q (.int (sp_count a1 a2))) 0 0 pu_F := by
  refine Met.ofW (cc := cX7_count) (maxL := 3) (ret := (some .int)) (by decide) rfl ?_
  intro p e s m args below meth c s₁ B hml hv
  obtain ⟨rfl, hP, hK, hrow⟩ := hv
  have hx := B.exec
  have hb := B.bytes
  have hr := B.returns
  have hts := atoms_spec (ws := wsX7_count) B.pre
  have hown : s.vm.findClass RX7 = some m.cls := findClass_of_methodNamed B.named
  have hlocks := B.notSynchronized
  have hinX7 : ∀ w ∈ u_ws RX7 TX7 14, w ∈ wsX7_count := by decide +kernel
  have hKI := hK.sub (tys' := [(cI, .int)]) [1] rfl
  have hPx : va_P (dC, dI) vwCl (fx_W h0 q cy) s.heap := hP.sub [0, 2, 3, 4] rfl
  have hKx : va_K (dC, dI) vwCl (fx_T cy) s := hK.sub [2, 3, 4] rfl
  have hl := lv_entry ([.ref h0, .int a1, .int a2]) (n := 3) (Nat.le_of_ble_eq_true rfl)
  rw [lg_entry_eq]
  generalize (lg_sl ([.ref h0, .int a1, .int a2]) ++ List.replicate (3 - (lg_sl ([.ref h0, .int a1, .int a2])).length) Slot.unset).toArray = ls at hl ⊢
  have hl : lv_has ls 3 [(0, .ref h0), (1, .int a1), (2, .int a2)] := hl
  refine lv_iload_n hx hb dX7_count_0 rfl (lv_at hl 1 rfl) ?_
  refine lv_iconst (v := (-1)) hx hb dX7_count_1 (by decide) ?_
  refine lv_icmp_ne (tgt := 11) hx hb dX7_count_2 (by decide) (fun h_1 => ?_) (fun h_1 => ?_)
  · skip
    refine lv_iload_n hx hb dX7_count_11 rfl (lv_at hl 1 rfl) ?_
    refine pu_call (va_runS (As := [.int a1]) (rest := []) ⟨hx, hb, hml, hown, hts⟩ (c_X7_isWare l a1) (va_cwS 1 hts gX7_count_X7_isWare rfl rfl rfl (by decide +kernel) ⟨Nat.le_of_ble_eq_true rfl, Nat.le_of_ble_eq_true rfl⟩) pu_preS rfl rfl hl.1 rfl (lv_room (Nat.le_of_ble_eq_true rfl)) dX7_count_12 ⟨Nat.zero_le _, Nat.zero_le _⟩) ?_
    refine lv_if_eq (tgt := 38) hx hb dX7_count_15 (by decide) (fun h_2 => ?_) (fun h_2 => ?_)
    · skip
      refine lv_iconst (v := (-1)) hx hb dX7_count_38 (by decide) ?_
      exact W.iret (v := (-1)) hx hb hr (fun t ht hW => ⟨congrArg (fun z => Outcome.returned (some (Value.int z))) (by first | (simp only [sp_count, if_neg h_1, if_pos h_2]; done) | (simp only [sp_count, if_neg h_1, if_pos h_2]; split <;> rfl)), ht⟩) (fun q h => by cases h) dX7_count_39
    · skip
      refine lv_iload_n hx hb dX7_count_18 rfl (lv_at hl 2 rfl) ?_
      refine lv_iconst (v := 0) hx hb dX7_count_19 (by decide) ?_
      refine lv_iconst (v := 5) hx hb dX7_count_20 (by decide) ?_
      refine pu_call (va_runS (As := [.int a2, .int 0, .int 5]) (rest := []) ⟨hx, hb, hml, hown, hts⟩ (c_X7_isWithin l a2 0 5) (va_cwS 3 hts gX7_count_X7_isWithin rfl rfl rfl (by decide +kernel) ⟨Nat.le_of_ble_eq_true rfl, Nat.le_of_ble_eq_true rfl⟩) pu_preS rfl rfl hl.1 rfl (lv_room (Nat.le_of_ble_eq_true rfl)) dX7_count_21 ⟨Nat.zero_le _, Nat.zero_le _⟩) ?_
      refine lv_if_eq (tgt := 38) hx hb dX7_count_24 (by decide) (fun h_3 => ?_) (fun h_3 => ?_)
      · skip
        refine lv_iconst (v := (-1)) hx hb dX7_count_38 (by decide) ?_
        exact W.iret (v := (-1)) hx hb hr (fun t ht hW => ⟨congrArg (fun z => Outcome.returned (some (Value.int z))) (by first | (simp only [sp_count, if_neg h_1, if_neg h_2, if_pos h_3]; done) | (simp only [sp_count, if_neg h_1, if_neg h_2, if_pos h_3]; split <;> rfl)), ht⟩) (fun q h => by cases h) dX7_count_39
      · skip
        refine lv_aload_n hx hb dX7_count_27 rfl (lv_at hl 0 rfl) ?_
        refine va_get (D := (dC, dI)) (ci := 6) (v := .ref (q 7)) (C := RX7) (T := TX7) (N := 14) hx hb hts hinX7 hown hK hP 0 rfl rfl 6 (by decide) (hts (.fieldLink RX7 41 "FurPosts" "tallies" "[[I") (by decide +kernel)) (fun _ h9 => h9) rfl dX7_count_28 ?_
        refine lv_iload_n hx hb dX7_count_31 rfl (lv_at hl 1 rfl) ?_
        refine va_ald2 hx hb hK hP 1 0 rfl rfl (i := a1) (sp_vp h_2 rfl) (b := r (Int32.toNatClampNeg a1)) (if_pos (vp_lt (sp_vp h_2 rfl))) dX7_count_32 ?_
        refine lv_iload_n hx hb dX7_count_33 rfl (lv_at hl 2 rfl) ?_
        refine va_iald hx hb hKI (hrow _ (vp_lt (sp_vp h_2 rfl))) 0 0 rfl rfl (i := a2) (sp_vp h_3 rfl) dX7_count_34 ?_
        refine lv_goto (tgt := 39) hx hb dX7_count_35 (by decide) ?_
        exact W.iret (v := 0) hx hb hr (fun t ht hW => ⟨congrArg (fun z => Outcome.returned (some (Value.int z))) (by first | (simp only [sp_count, if_neg h_1, if_neg h_2, if_neg h_3]; done) | (simp only [sp_count, if_neg h_1, if_neg h_2, if_neg h_3]; split <;> rfl)), ht⟩) (fun q h => by cases h) dX7_count_39
  · skip
    refine lv_aload_n hx hb dX7_count_5 rfl (lv_at hl 0 rfl) ?_
    refine lv_iload_n hx hb dX7_count_6 rfl (lv_at hl 2 rfl) ?_
    refine pu_call (va_runV (As := [.int a2]) (rest := []) ⟨hx, hb, hml, hown, hts⟩ (c_X7_countOfAll l dC dI h0 q cy a2) (cwV 1 hts gX7_count_X7_countOfAll rfl rfl rfl (by decide +kernel) ⟨Nat.le_of_ble_eq_true rfl, Nat.le_of_ble_eq_true rfl⟩) (pu_pre hPx hKx (ci := 6) (q0 := 0) rfl rfl) rfl rfl hl.1 rfl (lv_room (Nat.le_of_ble_eq_true rfl)) dX7_count_7 ⟨Nat.zero_le _, Nat.zero_le _⟩) ?_
    exact W.iret (v := (if sp_in a2 0 5 = 0 then -1 else 0)) hx hb hr (fun t ht hW => ⟨congrArg (fun z => Outcome.returned (some (Value.int z))) (by first | (simp only [sp_count, if_pos h_1]; done) | (simp only [sp_count, if_pos h_1]; split <;> rfl)), ht⟩) (fun q h => by cases h) dX7_count_10
