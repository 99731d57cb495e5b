theorem va_D2 {A : Nat → Prop} {a b : Nat} {e f : va_E} (ha : A a) (hb : A b) (h : ¬ a = b) : va_D A [(a, e), (b, f)] := by
  refine ⟨fun i j p q hi hj hpq => ?_, fun k q hk => ?_⟩
  · have h1 : i < 2 := (List.getElem?_eq_some_iff.mp hi).1
    have h2 : j < 2 := (List.getElem?_eq_some_iff.mp hj).1
    rcases (show i = 0 ∨ i = 1 by omega) with rfl | rfl <;> rcases (show j = 0 ∨ j = 1 by omega) with rfl | rfl
    · rfl
    · cases hi; cases hj; exact absurd hpq h
    · cases hi; cases hj; exact absurd hpq.symm h
    · rfl
  · have h1 : k < 2 := (List.getElem?_eq_some_iff.mp hk).1
    rcases (show k = 0 ∨ k = 1 by omega) with rfl | rfl
    · cases hk; exact ha
    · cases hk; exact hb

set_option maxHeartbeats 4000000 in
set_option maxRecDepth 100000 in
theorem c_X0_init (l : Launch) (dC : Nat → ClassId) (dI : Nat → Nat → Nat) (h0 sz : Nat) (cI : ClassId) (a1 a2 a3 a4 a5 : Int32) (a6 : Nat) (g : Nat → Int32) (hne : ¬ h0 = a6) : Met l yX0_init wsX0_init ({ frames := 1, cells := 1, slots := 6, locals := 22 }) (va_Pc [.ref h0, .int a1, .int a2, .int a3, .int a4, .int a5, .ref a6] (fun U => U.heap.size = sz ∧ va_P (dC, dI) vwCl [(h0, .inr (0, [.int 0, .int 0, .int 0, .int 0, .null, .null, .int 0, .int 0, .int 0, .int 0, .int 0])), (a6, .inl (cI, 6, .inl g))] U.heap ∧ va_K (dC, dI) vwCl [(cI, .int)] U ∧ va_Nw (.castable "[I" "java/lang/Cloneable") U)) (va_Qv (fun _ : Unit => True) (fun _ t => ∃ (w : Nat), va_P (dC, dI) vwCl [(h0, .inr (0, [.int a1, .int a2, .int a3, .int a5, .ref a6, .ref w, .int 0, .int a4, .int (-1), .int 0, .int 0])), (a6, .inl (cI, 6, .inl g)), (w, .inl (cI, 6, .inl g))] t.heap ∧ va_D (fun q => q = h0 ∨ q = a6 ∨ sz ≤ q) [(h0, .inr (0, [.int a1, .int a2, .int a3, .int a5, .ref a6, .ref w, .int 0, .int a4, .int (-1), .int 0, .int 0])), (a6, .inl (cI, 6, .inl g)), (w, .inl (cI, 6, .inl g))]) (fun q => q = h0 ∨ q = a6 ∨ sz ≤ q)) 1 6 (fun q => q = h0 ∨ q = a6 ∨ sz ≤ q) := by
  refine Met.ofW (cc := cX0_init) (maxL := 7) (ret := none) (by decide) rfl ?_
  intro p e s m args below meth c s₁ B hml hv
  obtain ⟨rfl, hsz, hP, hK, hCl⟩ := hv
  have hx := B.exec
  have hb := B.bytes
  have hr := B.returns
  have hts := atoms_spec (ws := wsX0_init) B.pre
  have hown : s.vm.findClass RX0 = some m.cls := findClass_of_methodNamed B.named
  have hlocks := B.notSynchronized
  have hin : meth.name = "<init>" := (name_of_methodNamed B.named B.method).1
  have hinX0 : ∀ w ∈ u_ws RX0 TX0 11, w ∈ wsX0_init := by decide +kernel
  subst hsz
  have hD : va_D (fun q => q = h0 ∨ q = a6 ∨ s.heap.size ≤ q) [(h0, .inr (0, [.int 0, .int 0, .int 0, .int 0, .null, .null, .int 0, .int 0, .int 0, .int 0, .int 0])), (a6, .inl (cI, 6, .inl g))] := va_D2 (A := fun q => q = h0 ∨ q = a6 ∨ s.heap.size ≤ q) (Or.inl rfl) (Or.inr (Or.inl rfl)) hne
  have hA : ∀ q : Nat, s.heap.size ≤ q → (fun q => q = h0 ∨ q = a6 ∨ s.heap.size ≤ q) q := fun q h => Or.inr (Or.inr h)
  generalize hAe : (fun q => q = h0 ∨ q = a6 ∨ s.heap.size ≤ q) = A at hD hA ⊢
  have hS : va_S A s.heap s.heap [] := va_S.rf
  have hl := lv_entry ([.ref h0, .int a1, .int a2, .int a3, .int a4, .int a5, .ref a6]) (n := 7) (Nat.le_of_ble_eq_true rfl)
  rw [lg_entry_eq]
  generalize (lg_sl ([.ref h0, .int a1, .int a2, .int a3, .int a4, .int a5, .ref a6]) ++ List.replicate (7 - (lg_sl ([.ref h0, .int a1, .int a2, .int a3, .int a4, .int a5, .ref a6])).length) Slot.unset).toArray = ls at hl ⊢
  have hl : lv_has ls 7 [(0, .ref h0), (1, .int a1), (2, .int a2), (3, .int a3), (4, .int a4), (5, .int a5), (6, .ref a6)] := hl
  refine lv_aload_n hx hb dX0_init_0 rfl (lv_at hl 0 rfl) ?_
  refine W.objInit hx hb hown (hts (.methodLink RX0 3 objectInit) (by decide +kernel)) (hts (.instanceMethod objectInit) (by decide +kernel)) (hts (.code objectInit ⟨#[0xb1]⟩ 1 none) (by decide +kernel)) rfl (by rw [hml]; exact hl.1) rfl dX0_init_1 (Nat.le_of_ble_eq_true rfl) (Nat.le_of_ble_eq_true rfl) ?_
  refine W.eq (g2 := F0 m 4 ls []) rfl ?_
  refine lv_aload_n hx hb dX0_init_4 rfl (lv_at hl 0 rfl) ?_
  refine lv_iconst (v := (-1)) hx hb dX0_init_5 (by decide) ?_
  refine va_put (D := (dC, dI)) (ci := 0) (v := .int (-1)) (ty := .int) (C := RX0) (T := TX0) (N := 11) hx hb hts hinX0 tyX0 tyX0_ok nmX0 hown hK hP hD hS 0 rfl rfl 8 (by decide) (hts (.fieldLink RX0 9 "FurPosts$Canoe" "dayCame" "I") (by decide +kernel)) (fun _ h9 => h9) rfl (by decide +kernel) rfl rfl (Nat.le_of_ble_eq_true rfl) dX0_init_6 (fun H locs hP hD hS => ?_)
  have hP : va_P (dC, dI) vwCl [(h0, .inr (0, [.int 0, .int 0, .int 0, .int 0, .null, .null, .int 0, .int 0, .int (-1), .int 0, .int 0])), (a6, .inl (cI, 6, .inl g))] H := hP
  have hD : va_D A [(h0, .inr (0, [.int 0, .int 0, .int 0, .int 0, .null, .null, .int 0, .int 0, .int (-1), .int 0, .int 0])), (a6, .inl (cI, 6, .inl g))] := hD
  refine lv_aload_n hx hb dX0_init_9 rfl (lv_at hl 0 rfl) ?_
  refine lv_iconst (v := 0) hx hb dX0_init_10 (by decide) ?_
  refine va_put (D := (dC, dI)) (ci := 0) (v := .int 0) (ty := .int) (C := RX0) (T := TX0) (N := 11) hx hb hts hinX0 tyX0 tyX0_ok nmX0 hown hK hP hD hS 0 rfl rfl 9 (by decide) (hts (.fieldLink RX0 15 "FurPosts$Canoe" "state" "I") (by decide +kernel)) (fun _ h9 => h9) rfl (by decide +kernel) rfl rfl (Nat.le_of_ble_eq_true rfl) dX0_init_11 (fun H locs hP hD hS => ?_)
  have hP : va_P (dC, dI) vwCl [(h0, .inr (0, [.int 0, .int 0, .int 0, .int 0, .null, .null, .int 0, .int 0, .int (-1), .int 0, .int 0])), (a6, .inl (cI, 6, .inl g))] H := hP
  have hD : va_D A [(h0, .inr (0, [.int 0, .int 0, .int 0, .int 0, .null, .null, .int 0, .int 0, .int (-1), .int 0, .int 0])), (a6, .inl (cI, 6, .inl g))] := hD
  refine lv_aload_n hx hb dX0_init_14 rfl (lv_at hl 0 rfl) ?_
  refine lv_iload_n hx hb dX0_init_15 rfl (lv_at hl 1 rfl) ?_
  refine va_putF (D := (dC, dI)) (ci := 0) (v := .int a1) (ty := .int) (C := RX0) (T := TX0) (N := 11) hx hb hts hinX0 tyX0 tyX0_ok nmX0 hown hK hP hD hS 0 rfl rfl 0 (by decide) (hts (.fieldLink RX0 18 "FurPosts$Canoe" "from" "I") (by decide +kernel)) (fun _ h9 => h9) rfl hin rfl (by decide +kernel) rfl rfl (Nat.le_of_ble_eq_true rfl) dX0_init_16 (fun H locs hP hD hS => ?_)
  have hP : va_P (dC, dI) vwCl [(h0, .inr (0, [.int a1, .int 0, .int 0, .int 0, .null, .null, .int 0, .int 0, .int (-1), .int 0, .int 0])), (a6, .inl (cI, 6, .inl g))] H := hP
  have hD : va_D A [(h0, .inr (0, [.int a1, .int 0, .int 0, .int 0, .null, .null, .int 0, .int 0, .int (-1), .int 0, .int 0])), (a6, .inl (cI, 6, .inl g))] := hD
  refine lv_aload_n hx hb dX0_init_19 rfl (lv_at hl 0 rfl) ?_
  refine lv_iload_n hx hb dX0_init_20 rfl (lv_at hl 2 rfl) ?_
  refine va_putF (D := (dC, dI)) (ci := 0) (v := .int a2) (ty := .int) (C := RX0) (T := TX0) (N := 11) hx hb hts hinX0 tyX0 tyX0_ok nmX0 hown hK hP hD hS 0 rfl rfl 1 (by decide) (hts (.fieldLink RX0 21 "FurPosts$Canoe" "to" "I") (by decide +kernel)) (fun _ h9 => h9) rfl hin rfl (by decide +kernel) rfl rfl (Nat.le_of_ble_eq_true rfl) dX0_init_21 (fun H locs hP hD hS => ?_)
  have hP : va_P (dC, dI) vwCl [(h0, .inr (0, [.int a1, .int a2, .int 0, .int 0, .null, .null, .int 0, .int 0, .int (-1), .int 0, .int 0])), (a6, .inl (cI, 6, .inl g))] H := hP
  have hD : va_D A [(h0, .inr (0, [.int a1, .int a2, .int 0, .int 0, .null, .null, .int 0, .int 0, .int (-1), .int 0, .int 0])), (a6, .inl (cI, 6, .inl g))] := hD
  refine lv_aload_n hx hb dX0_init_24 rfl (lv_at hl 0 rfl) ?_
  refine lv_iload_n hx hb dX0_init_25 rfl (lv_at hl 3 rfl) ?_
  refine va_putF (D := (dC, dI)) (ci := 0) (v := .int a3) (ty := .int) (C := RX0) (T := TX0) (N := 11) hx hb hts hinX0 tyX0 tyX0_ok nmX0 hown hK hP hD hS 0 rfl rfl 2 (by decide) (hts (.fieldLink RX0 24 "FurPosts$Canoe" "way" "I") (by decide +kernel)) (fun _ h9 => h9) rfl hin rfl (by decide +kernel) rfl rfl (Nat.le_of_ble_eq_true rfl) dX0_init_26 (fun H locs hP hD hS => ?_)
  have hP : va_P (dC, dI) vwCl [(h0, .inr (0, [.int a1, .int a2, .int a3, .int 0, .null, .null, .int 0, .int 0, .int (-1), .int 0, .int 0])), (a6, .inl (cI, 6, .inl g))] H := hP
  have hD : va_D A [(h0, .inr (0, [.int a1, .int a2, .int a3, .int 0, .null, .null, .int 0, .int 0, .int (-1), .int 0, .int 0])), (a6, .inl (cI, 6, .inl g))] := hD
  refine lv_aload_n hx hb dX0_init_29 rfl (lv_at hl 0 rfl) ?_
  refine lv_iload hx hb dX0_init_30 (lv_at hl 4 rfl) ?_
  refine va_put (D := (dC, dI)) (ci := 0) (v := .int a4) (ty := .int) (C := RX0) (T := TX0) (N := 11) hx hb hts hinX0 tyX0 tyX0_ok nmX0 hown hK hP hD hS 0 rfl rfl 7 (by decide) (hts (.fieldLink RX0 27 "FurPosts$Canoe" "daysToGo" "I") (by decide +kernel)) (fun _ h9 => h9) rfl (by decide +kernel) rfl rfl (Nat.le_of_ble_eq_true rfl) dX0_init_32 (fun H locs hP hD hS => ?_)
  have hP : va_P (dC, dI) vwCl [(h0, .inr (0, [.int a1, .int a2, .int a3, .int 0, .null, .null, .int 0, .int a4, .int (-1), .int 0, .int 0])), (a6, .inl (cI, 6, .inl g))] H := hP
  have hD : va_D A [(h0, .inr (0, [.int a1, .int a2, .int a3, .int 0, .null, .null, .int 0, .int a4, .int (-1), .int 0, .int 0])), (a6, .inl (cI, 6, .inl g))] := hD
  refine lv_aload_n hx hb dX0_init_35 rfl (lv_at hl 0 rfl) ?_
  refine lv_iload hx hb dX0_init_36 (lv_at hl 5 rfl) ?_
  refine va_putF (D := (dC, dI)) (ci := 0) (v := .int a5) (ty := .int) (C := RX0) (T := TX0) (N := 11) hx hb hts hinX0 tyX0 tyX0_ok nmX0 hown hK hP hD hS 0 rfl rfl 3 (by decide) (hts (.fieldLink RX0 30 "FurPosts$Canoe" "daySent" "I") (by decide +kernel)) (fun _ h9 => h9) rfl hin rfl (by decide +kernel) rfl rfl (Nat.le_of_ble_eq_true rfl) dX0_init_38 (fun H locs hP hD hS => ?_)
  have hP : va_P (dC, dI) vwCl [(h0, .inr (0, [.int a1, .int a2, .int a3, .int a5, .null, .null, .int 0, .int a4, .int (-1), .int 0, .int 0])), (a6, .inl (cI, 6, .inl g))] H := hP
  have hD : va_D A [(h0, .inr (0, [.int a1, .int a2, .int a3, .int a5, .null, .null, .int 0, .int a4, .int (-1), .int 0, .int 0])), (a6, .inl (cI, 6, .inl g))] := hD
  refine lv_aload_n hx hb dX0_init_41 rfl (lv_at hl 0 rfl) ?_
  refine lv_aload hx hb dX0_init_42 (lv_at hl 6 rfl) ?_
  refine va_putF (D := (dC, dI)) (ci := 0) (v := .ref a6) (ty := .array .int) (C := RX0) (T := TX0) (N := 11) hx hb hts hinX0 tyX0 tyX0_ok nmX0 hown hK hP hD hS 0 rfl rfl 4 (by decide) (hts (.fieldLink RX0 33 "FurPosts$Canoe" "waresSent" "[I") (by decide +kernel)) (fun _ h9 => h9) rfl hin rfl (by decide +kernel) rfl rfl (Nat.le_of_ble_eq_true rfl) dX0_init_44 (fun H locs hP hD hS => ?_)
  have hP : va_P (dC, dI) vwCl [(h0, .inr (0, [.int a1, .int a2, .int a3, .int a5, .ref a6, .null, .int 0, .int a4, .int (-1), .int 0, .int 0])), (a6, .inl (cI, 6, .inl g))] H := hP
  have hD : va_D A [(h0, .inr (0, [.int a1, .int a2, .int a3, .int a5, .ref a6, .null, .int 0, .int a4, .int (-1), .int 0, .int 0])), (a6, .inl (cI, 6, .inl g))] := hD
  refine lv_aload_n hx hb dX0_init_47 rfl (lv_at hl 0 rfl) ?_
  refine lv_aload hx hb dX0_init_48 (lv_at hl 6 rfl) ?_
  refine va_clone hx hb (hml.trans hl.1.symm) hown (hts (.methodLink RX0 37 ⟨"[I", "clone", "()Ljava/lang/Object;"⟩) (by decide +kernel)) (hts (.sameMethod "[I" "java/lang/Object" "clone" "()Ljava/lang/Object;") (by decide +kernel)) (hts (.native ⟨"java/lang/Object", "clone", "()Ljava/lang/Object;"⟩) (by decide +kernel)) (hts (.instanceMethod ⟨"java/lang/Object", "clone", "()Ljava/lang/Object;"⟩) (by decide +kernel)) (hts (.selects "[I" ⟨"[I", "clone", "()Ljava/lang/Object;"⟩ ⟨"java/lang/Object", "clone", "()Ljava/lang/Object;"⟩) (by decide +kernel)) hCl hK hP hD hS hA 1 0 rfl rfl (va_nm_int (hK.2 0 _ rfl).2) (va_fit (fun _ _ => rfl)) (Nat.le_of_ble_eq_true rfl) (Nat.le_of_ble_eq_true rfl) (Nat.le_of_ble_eq_true rfl) (Nat.le_of_ble_eq_true rfl) dX0_init_50 (fun qc H _ hP hD hS => ?_)
  have hP : va_P (dC, dI) vwCl [(h0, .inr (0, [.int a1, .int a2, .int a3, .int a5, .ref a6, .null, .int 0, .int a4, .int (-1), .int 0, .int 0])), (a6, .inl (cI, 6, .inl g)), (qc, .inl (cI, 6, .inl g))] H := hP
  have hD : va_D A [(h0, .inr (0, [.int a1, .int a2, .int a3, .int a5, .ref a6, .null, .int 0, .int a4, .int (-1), .int 0, .int 0])), (a6, .inl (cI, 6, .inl g)), (qc, .inl (cI, 6, .inl g))] := hD
  refine W.widen (k := 1) (n := 6) (Nat.le_of_ble_eq_true rfl) (Nat.le_of_ble_eq_true rfl) ?_
  refine va_castA hx hb hown (hts (.classLink RX0 38 "[I") (by decide +kernel)) hP 2 rfl (va_nm_int (hK.2 0 _ rfl).2) dX0_init_53 ?_
  refine va_putF (D := (dC, dI)) (ci := 0) (v := .ref qc) (ty := .array .int) (C := RX0) (T := TX0) (N := 11) hx hb hts hinX0 tyX0 tyX0_ok nmX0 hown hK hP hD hS 0 rfl rfl 5 (by decide) (hts (.fieldLink RX0 42 "FurPosts$Canoe" "wares" "[I") (by decide +kernel)) (fun _ h9 => h9) rfl hin rfl (by decide +kernel) rfl rfl (Nat.le_of_ble_eq_true rfl) dX0_init_56 (fun H locs hP hD hS => ?_)
  have hP : va_P (dC, dI) vwCl [(h0, .inr (0, [.int a1, .int a2, .int a3, .int a5, .ref a6, .ref qc, .int 0, .int a4, .int (-1), .int 0, .int 0])), (a6, .inl (cI, 6, .inl g)), (qc, .inl (cI, 6, .inl g))] H := hP
  have hD : va_D A [(h0, .inr (0, [.int a1, .int a2, .int a3, .int a5, .ref a6, .ref qc, .int 0, .int a4, .int (-1), .int 0, .int 0])), (a6, .inl (cI, 6, .inl g)), (qc, .inl (cI, 6, .inl g))] := hD
  exact W.vret hx hb hr (fun t ht hW => ⟨⟨(), rfl, trivial, qc, by rw [ht]; exact hP, hD⟩, hS.F ht⟩) hS.2.2 dX0_init_59
theorem va_K_obj {D : va_G} {cl : List vw_C} {tys : List (ClassId × FieldType)} {s : State} {a b : ClassId} {C : String} (h : va_K D cl tys s) (i j : Nat) (hi : tys[i]? = some (a, .object C)) (hj : tys[j]? = some (b, .object C)) : a = b := by
  obtain ⟨k1, c1, -, -, -, f1⟩ := (h.2 i _ hi).2
  obtain ⟨k2, c2, -, -, -, f2⟩ := (h.2 j _ hj).2
  exact Option.some.inj (f1.symm.trans f2)
set_option maxHeartbeats 4000000 in
set_option maxRecDepth 100000 in
theorem c_X4_init2 (l : Launch) (dC : Nat → ClassId) (dI : Nat → Nat → Nat) (h0 sz : Nat) (cI c7 : ClassId) : Met l yX4_init wsX4_init ({ frames := 1, cells := 4, slots := 32, locals := 23 }) (va_Pc [.ref h0] (fun U => U.heap.size = sz ∧ va_P (dC, dI) vwCl [(h0, .inr (3, [.null, .null, .null, .null]))] U.heap ∧ va_K (dC, dI) vwCl [(cI, .int), (c7, .object RX5)] U ∧ va_AO RX5 U)) (va_Qv (fun _ : Unit => True) (fun _ t => ∃ (s1 p1 o1 r1 : Nat) (g : Nat → Int32), (∀ j, j < 6 → g j = 1) ∧ va_P (dC, dI) vwCl [(h0, .inr (3, [.ref s1, .ref p1, .ref o1, .ref r1])), (s1, .inl (cI, 6, .inl zz_)), (o1, .inl (cI, 12, .inl zz_)), (r1, .inl (c7, 8, .inr (.inr (.inr (.inr nn_))))), (p1, .inl (cI, 6, .inl g))] t.heap ∧ va_D (va_A [(h0, .inr (3, [.null, .null, .null, .null]))] sz) [(h0, .inr (3, [.ref s1, .ref p1, .ref o1, .ref r1])), (s1, .inl (cI, 6, .inl zz_)), (o1, .inl (cI, 12, .inl zz_)), (r1, .inl (c7, 8, .inr (.inr (.inr (.inr nn_))))), (p1, .inl (cI, 6, .inl zz_))]) (va_A [(h0, .inr (3, [.null, .null, .null, .null]))] sz)) 4 32 (va_A [(h0, .inr (3, [.null, .null, .null, .null]))] sz) := by
  refine Met.ofW (cc := cX4_init) (maxL := 1) (ret := none) (by decide) rfl ?_
  intro p e s m args below meth c s₁ B hml hv
  obtain ⟨rfl, hsz, hP, hK, hO_RX5⟩ := hv
  have hx := B.exec
  have hb := B.bytes
  have hr := B.returns
  have hts := atoms_spec (ws := wsX4_init) B.pre
  have hown : s.vm.findClass RX4 = some m.cls := findClass_of_methodNamed B.named
  have hlocks := B.notSynchronized
  have hin : meth.name = "<init>" := (name_of_methodNamed B.named B.method).1
  have hinX4 : ∀ w ∈ u_ws RX4 TX4 4, w ∈ wsX4_init := by decide +kernel
  subst hsz
  have hD := (va_D1 (A := fun _ => True) (a := h0) (e := .inr (3, [.null, .null, .null, .null])) trivial).self (sz := s.heap.size)
  generalize hAe : va_A [(h0, .inr (3, [.null, .null, .null, .null]))] s.heap.size = A at hD ⊢
  have hA : ∀ q : Nat, s.heap.size ≤ q → A q := fun q h => by rw [← hAe]; exact Or.inr h
  have hS : va_S A s.heap s.heap [] := va_S.rf
  have hl := lv_entry ([.ref h0]) (n := 1) (Nat.le_of_ble_eq_true rfl)
  rw [lg_entry_eq]
  generalize (lg_sl ([.ref h0]) ++ List.replicate (1 - (lg_sl ([.ref h0])).length) Slot.unset).toArray = ls at hl ⊢
  have hl : lv_has ls 1 [(0, .ref h0)] := hl
  refine lv_aload_n hx hb dX4_init_0 rfl (lv_at hl 0 rfl) ?_
  refine W.objInit hx hb hown (hts (.methodLink RX4 3 objectInit) (by decide +kernel)) (hts (.instanceMethod objectInit) (by decide +kernel)) (hts (.code objectInit ⟨#[0xb1]⟩ 1 none) (by decide +kernel)) rfl (by rw [hml]; exact hl.1) rfl dX4_init_1 (Nat.le_of_ble_eq_true rfl) (Nat.le_of_ble_eq_true rfl) ?_
  refine W.eq (g2 := F0 m 4 ls []) rfl ?_
  refine lv_aload_n hx hb dX4_init_4 rfl (lv_at hl 0 rfl) ?_
  refine lv_bipush (v := 6) hx hb dX4_init_5 (by decide) ?_
  refine ia_new hx hb (hts (.arrayClass .int) (by decide +kernel)) hK hP hD hS hA 0 rfl (by decide) (show Int32.toNatClampNeg 6 = 6 from by decide) (by decide) (Nat.le_of_ble_eq_true rfl) (Nat.le_of_ble_eq_true rfl) dX4_init_7 (fun q7 H hP hD hS => ?_)
  have hP : va_P (dC, dI) vwCl [(h0, .inr (3, [.null, .null, .null, .null])), (q7, .inl (cI, 6, .inl zz_))] H := hP
  have hD : va_D A [(h0, .inr (3, [.null, .null, .null, .null])), (q7, .inl (cI, 6, .inl zz_))] := hD
  refine W.widen (k := 1) (n := 6) (Nat.le_of_ble_eq_true rfl) (Nat.le_of_ble_eq_true rfl) ?_
  refine va_putF (D := (dC, dI)) (ci := 3) (v := .ref q7) (ty := .array .int) (C := RX4) (T := TX4) (N := 4) hx hb hts hinX4 tyX4 tyX4_ok nmX4 hown hK hP hD hS 0 rfl rfl 0 (by decide) (hts (.fieldLink RX4 9 "FurPosts$Post" "stock" "[I") (by decide +kernel)) (fun _ h9 => h9) rfl hin rfl (by decide +kernel) rfl rfl (Nat.le_of_ble_eq_true rfl) dX4_init_9 (fun H locs hP hD hS => ?_)
  have hP : va_P (dC, dI) vwCl [(h0, .inr (3, [.ref q7, .null, .null, .null])), (q7, .inl (cI, 6, .inl zz_))] H := hP
  have hD : va_D A [(h0, .inr (3, [.ref q7, .null, .null, .null])), (q7, .inl (cI, 6, .inl zz_))] := hD
  refine lv_aload_n hx hb dX4_init_12 rfl (lv_at hl 0 rfl) ?_
  refine lv_bipush (v := 6) hx hb dX4_init_13 (by decide) ?_
  refine ia_new hx hb (hts (.arrayClass .int) (by decide +kernel)) hK hP hD hS hA 0 rfl (by decide) (show Int32.toNatClampNeg 6 = 6 from by decide) (by decide) (Nat.le_of_ble_eq_true rfl) (Nat.le_of_ble_eq_true rfl) dX4_init_15 (fun q15 H hP hD hS => ?_)
  have hP : va_P (dC, dI) vwCl [(h0, .inr (3, [.ref q7, .null, .null, .null])), (q7, .inl (cI, 6, .inl zz_)), (q15, .inl (cI, 6, .inl zz_))] H := hP
  have hD : va_D A [(h0, .inr (3, [.ref q7, .null, .null, .null])), (q7, .inl (cI, 6, .inl zz_)), (q15, .inl (cI, 6, .inl zz_))] := hD
  refine W.widen (k := 2) (n := 12) (Nat.le_of_ble_eq_true rfl) (Nat.le_of_ble_eq_true rfl) ?_
  refine va_putF (D := (dC, dI)) (ci := 3) (v := .ref q15) (ty := .array .int) (C := RX4) (T := TX4) (N := 4) hx hb hts hinX4 tyX4 tyX4_ok nmX4 hown hK hP hD hS 0 rfl rfl 1 (by decide) (hts (.fieldLink RX4 15 "FurPosts$Post" "prices" "[I") (by decide +kernel)) (fun _ h9 => h9) rfl hin rfl (by decide +kernel) rfl rfl (Nat.le_of_ble_eq_true rfl) dX4_init_17 (fun H locs hP hD hS => ?_)
  have hP : va_P (dC, dI) vwCl [(h0, .inr (3, [.ref q7, .ref q15, .null, .null])), (q7, .inl (cI, 6, .inl zz_)), (q15, .inl (cI, 6, .inl zz_))] H := hP
  have hD : va_D A [(h0, .inr (3, [.ref q7, .ref q15, .null, .null])), (q7, .inl (cI, 6, .inl zz_)), (q15, .inl (cI, 6, .inl zz_))] := hD
  refine lv_aload_n hx hb dX4_init_20 rfl (lv_at hl 0 rfl) ?_
  refine lv_bipush (v := 12) hx hb dX4_init_21 (by decide) ?_
  refine ia_new hx hb (hts (.arrayClass .int) (by decide +kernel)) hK hP hD hS hA 0 rfl (by decide) (show Int32.toNatClampNeg 12 = 12 from by decide) (by decide) (Nat.le_of_ble_eq_true rfl) (Nat.le_of_ble_eq_true rfl) dX4_init_23 (fun q23 H hP hD hS => ?_)
  have hP : va_P (dC, dI) vwCl [(h0, .inr (3, [.ref q7, .ref q15, .null, .null])), (q7, .inl (cI, 6, .inl zz_)), (q15, .inl (cI, 6, .inl zz_)), (q23, .inl (cI, 12, .inl zz_))] H := hP
  have hD : va_D A [(h0, .inr (3, [.ref q7, .ref q15, .null, .null])), (q7, .inl (cI, 6, .inl zz_)), (q15, .inl (cI, 6, .inl zz_)), (q23, .inl (cI, 12, .inl zz_))] := hD
  refine W.widen (k := 3) (n := 24) (Nat.le_of_ble_eq_true rfl) (Nat.le_of_ble_eq_true rfl) ?_
  refine va_putF (D := (dC, dI)) (ci := 3) (v := .ref q23) (ty := .array .int) (C := RX4) (T := TX4) (N := 4) hx hb hts hinX4 tyX4 tyX4_ok nmX4 hown hK hP hD hS 0 rfl rfl 2 (by decide) (hts (.fieldLink RX4 18 "FurPosts$Post" "owed" "[I") (by decide +kernel)) (fun _ h9 => h9) rfl hin rfl (by decide +kernel) rfl rfl (Nat.le_of_ble_eq_true rfl) dX4_init_25 (fun H locs hP hD hS => ?_)
  have hP : va_P (dC, dI) vwCl [(h0, .inr (3, [.ref q7, .ref q15, .ref q23, .null])), (q7, .inl (cI, 6, .inl zz_)), (q15, .inl (cI, 6, .inl zz_)), (q23, .inl (cI, 12, .inl zz_))] H := hP
  have hD : va_D A [(h0, .inr (3, [.ref q7, .ref q15, .ref q23, .null])), (q7, .inl (cI, 6, .inl zz_)), (q15, .inl (cI, 6, .inl zz_)), (q23, .inl (cI, 12, .inl zz_))] := hD
  refine lv_aload_n hx hb dX4_init_28 rfl (lv_at hl 0 rfl) ?_
  refine lv_bipush (v := 8) hx hb dX4_init_29 (by decide) ?_
  refine va_newq (C := RX5) hx hb hown (hts (.classLink RX4 21 RX5) (by decide +kernel)) hO_RX5 hK hP hD hS hA (by decide) (show Int32.toNatClampNeg 8 = 8 from by decide) (by decide) (Nat.le_of_ble_eq_true rfl) (Nat.le_of_ble_eq_true rfl) dX4_init_31 (fun q31 c31 H hK hP hD hS => ?_)
  have hP : va_P (dC, dI) vwCl [(h0, .inr (3, [.ref q7, .ref q15, .ref q23, .null])), (q7, .inl (cI, 6, .inl zz_)), (q15, .inl (cI, 6, .inl zz_)), (q23, .inl (cI, 12, .inl zz_)), (q31, .inl (c31, 8, .inr (.inr (.inr (.inr nn_)))))] H := hP
  have hD : va_D A [(h0, .inr (3, [.ref q7, .ref q15, .ref q23, .null])), (q7, .inl (cI, 6, .inl zz_)), (q15, .inl (cI, 6, .inl zz_)), (q23, .inl (cI, 12, .inl zz_)), (q31, .inl (c31, 8, .inr (.inr (.inr (.inr nn_)))))] := hD
  have hK : va_K (dC, dI) vwCl [(cI, .int), (c7, .object RX5), (c31, .object RX5)] s := hK
  refine W.widen (k := 4) (n := 32) (Nat.le_of_ble_eq_true rfl) (Nat.le_of_ble_eq_true rfl) ?_
  refine va_putF (D := (dC, dI)) (ci := 3) (v := .ref q31) (ty := .array (.object "FurPosts$Report")) (C := RX4) (T := TX4) (N := 4) hx hb hts hinX4 tyX4 tyX4_ok nmX4 hown hK hP hD hS 0 rfl rfl 3 (by decide) (hts (.fieldLink RX4 23 "FurPosts$Post" "reports" "[LFurPosts$Report;") (by decide +kernel)) (fun _ h9 => h9) rfl hin rfl (by decide +kernel) rfl rfl (Nat.le_of_ble_eq_true rfl) dX4_init_34 (fun H locs hP hD hS => ?_)
  have hP : va_P (dC, dI) vwCl [(h0, .inr (3, [.ref q7, .ref q15, .ref q23, .ref q31])), (q7, .inl (cI, 6, .inl zz_)), (q15, .inl (cI, 6, .inl zz_)), (q23, .inl (cI, 12, .inl zz_)), (q31, .inl (c31, 8, .inr (.inr (.inr (.inr nn_)))))] H := hP
  have hD : va_D A [(h0, .inr (3, [.ref q7, .ref q15, .ref q23, .ref q31])), (q7, .inl (cI, 6, .inl zz_)), (q15, .inl (cI, 6, .inl zz_)), (q23, .inl (cI, 12, .inl zz_)), (q31, .inl (c31, 8, .inr (.inr (.inr (.inr nn_)))))] := hD
  refine lv_aload_n hx hb dX4_init_37 rfl (lv_at hl 0 rfl) ?_
  refine va_get (D := (dC, dI)) (ci := 3) (v := .ref q15) (C := RX4) (T := TX4) (N := 4) hx hb hts hinX4 hown hK hP 0 rfl rfl 1 (by decide) (hts (.fieldLink RX4 15 "FurPosts$Post" "prices" "[I") (by decide +kernel)) (fun _ h9 => h9) rfl dX4_init_38 ?_
  refine lv_iconst (v := 1) hx hb dX4_init_41 (by decide) ?_
  obtain rfl : c31 = c7 := va_K_obj hK 2 1 rfl rfl
  have hDs : va_D A ([(h0, .inr (3, [.ref q7, .ref q15, .ref q23, .ref q31])), (q7, .inl (cI, 6, .inl zz_)), (q23, .inl (cI, 12, .inl zz_)), (q31, .inl (c31, 8, .inr (.inr (.inr (.inr nn_)))))] ++ [(q15, .inl (cI, 6, .inl zz_))]) := hD.sub [0, 1, 3, 4, 2] (by decide) rfl
  have hP8 : va_P (dC, dI) vwCl [(h0, .inr (3, [.ref q7, .ref q15, .ref q23, .ref q31])), (q7, .inl (cI, 6, .inl zz_)), (q23, .inl (cI, 12, .inl zz_)), (q31, .inl (c31, 8, .inr (.inr (.inr (.inr nn_)))))] H := hP.sub [0, 1, 3, 4] rfl
  refine va_callv (va_runS (As := [.ref q15, .int 1]) (rest := []) ⟨hx, hb, hml, hown, hts⟩ (c_fill l dC dI q15 cI 6 (by decide) zz_ 1) (va_cwS 2 hts gX4_init_J7_fill_53178 rfl rfl rfl (by decide +kernel) ⟨Nat.le_of_ble_eq_true rfl, Nat.le_of_ble_eq_true rfl⟩) ⟨pu_blind, fun U hU hW => ⟨rfl, by rw [hU]; exact hP.sub (ws' := [(q15, .inl (cI, 6, .inl zz_))]) [2] rfl, va_K.moved hW.alike (hK.sub (tys' := [(cI, .int)]) [0] rfl)⟩⟩ rfl rfl hl.1 rfl (lv_room (Nat.le_of_ble_eq_true rfl)) dX4_init_42 ⟨Nat.le_of_ble_eq_true rfl, Nat.le_of_ble_eq_true rfl⟩) hS (fun q _ h => by rw [h]; exact hD.2 2 _ rfl) (fun q h => by rw [h]; exact hD.2 2 _ rfl) (fun g1 t H1 locs ht hvm hw hB hz1 hk1 hS => ?_)
  refine W.widen (k := 4) (n := 32) (Nat.le_of_ble_eq_true rfl) (Nat.le_of_ble_eq_true rfl) ?_
  rw [ht] at hB
  have hP9 := hP8.kept (H1 := H1) (fun k x hx => hk1 x.1 ((hP8 k x hx).lt) (keep_ne (j := 0) hDs hx rfl))
  have hP10 : va_P (dC, dI) vwCl ([(h0, .inr (3, [.ref q7, .ref q15, .ref q23, .ref q31])), (q7, .inl (cI, 6, .inl zz_)), (q23, .inl (cI, 12, .inl zz_)), (q31, .inl (c31, 8, .inr (.inr (.inr (.inr nn_)))))] ++ [(q15, .inl (cI, 6, .inl g1))]) H1 := hP9.app hB
  exact W.vret hx hb hr (fun t ht hW => ⟨⟨(), rfl, trivial, q7, q15, q23, q31, g1, hw, by rw [ht]; exact hP10, hDs⟩, hS.F ht⟩) hS.2.2 dX4_init_45
