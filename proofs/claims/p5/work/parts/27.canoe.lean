theorem va_D2 {A : Nat → Prop} {a b : Nat} {e f : va_E} (ha : A a) (hb : A b) (h : ¬ a = b) : va_D A [(a, e), (b, f)] := by
  refine ⟨fun i j p q hi hj hpq => ?_, fun k q hk => ?_⟩
  · have h1 : i < 2 := (List.getElem?_eq_some_iff.mp hi).1
    have h2 : j < 2 := (List.getElem?_eq_some_iff.mp hj).1
    rcases (show i = 0 ∨ i = 1 by omega) with rfl | rfl <;> rcases (show j = 0 ∨ j = 1 by omega) with rfl | rfl
    · rfl
    · cases hi; cases hj; exact absurd hpq h
    · cases hi; cases hj; exact absurd hpq.symm h
    · rfl
  · have h1 : k < 2 := (List.getElem?_eq_some_iff.mp hk).1
    rcases (show k = 0 ∨ k = 1 by omega) with rfl | rfl
    · cases hk; exact ha
    · cases hk; exact hb

set_option maxHeartbeats 4000000 in
set_option maxRecDepth 100000 in
theorem c_X0_init (l : Launch) (dC : Nat → ClassId) (dI : Nat → Nat → Nat) (h0 sz : Nat) (cI : ClassId) (a1 a2 a3 a4 a5 : Int32) (a6 : Nat) (g : Nat → Int32) (hne : ¬ h0 = a6) : Met l yX0_init wsX0_init ({ frames := 1, cells := 1, slots := 6, locals := 22 }) (va_Pc [.ref h0, .int a1, .int a2, .int a3, .int a4, .int a5, .ref a6] (fun U => U.heap.size = sz ∧ va_P (dC, dI) vwCl [(h0, .inr (0, [.int 0, .int 0, .int 0, .int 0, .null, .null, .int 0, .int 0, .int 0, .int 0, .int 0])), (a6, .inl (cI, 6, .inl g))] U.heap ∧ va_K (dC, dI) vwCl [(cI, .int)] U ∧ va_Nw (.castable "[I" "java/lang/Cloneable") U)) (va_Qv (fun _ : Unit => True) (fun _ t => ∃ (k : Nat → Int32) (w : Nat), va_P (dC, dI) vwCl [(h0, .inr (0, [.int (k 0), .int (k 1), .int (k 2), .int (k 3), .ref a6, .ref w, .int (k 6), .int (k 7), .int (k 8), .int (k 9), .int (k 10)])), (w, .inl (cI, 6, .inl g))] t.heap ∧ va_D (fun q => q = h0 ∨ q = a6 ∨ sz ≤ q) [(h0, .inr (0, [.int (k 0), .int (k 1), .int (k 2), .int (k 3), .ref a6, .ref w, .int (k 6), .int (k 7), .int (k 8), .int (k 9), .int (k 10)])), (w, .inl (cI, 6, .inl g))]) (fun q => q = h0 ∨ q = a6 ∨ sz ≤ q)) 1 6 (fun q => q = h0 ∨ q = a6 ∨ sz ≤ q) := by
  refine Met.ofW (cc := cX0_init) (maxL := 7) (ret := none) (by decide) rfl ?_
  intro p e s m args below meth c s₁ B hml hv
  obtain ⟨rfl, hsz, hP, hK, hCl⟩ := hv
  have hx := B.exec
  have hb := B.bytes
  have hr := B.returns
  have hts := atoms_spec (ws := wsX0_init) B.pre
  have hown : s.vm.findClass RX0 = some m.cls := findClass_of_methodNamed B.named
  have hlocks := B.notSynchronized
  have hin : meth.name = "<init>" := (name_of_methodNamed B.named B.method).1
  have hinX0 : ∀ w ∈ u_ws RX0 TX0 11, w ∈ wsX0_init := by decide +kernel
  subst hsz
  have hD : va_D (fun q => q = h0 ∨ q = a6 ∨ s.heap.size ≤ q) [(h0, .inr (0, [.int 0, .int 0, .int 0, .int 0, .null, .null, .int 0, .int 0, .int 0, .int 0, .int 0])), (a6, .inl (cI, 6, .inl g))] := va_D2 (A := fun q => q = h0 ∨ q = a6 ∨ s.heap.size ≤ q) (Or.inl rfl) (Or.inr (Or.inl rfl)) hne
  have hA : ∀ q : Nat, s.heap.size ≤ q → (fun q => q = h0 ∨ q = a6 ∨ s.heap.size ≤ q) q := fun q h => Or.inr (Or.inr h)
  generalize hAe : (fun q => q = h0 ∨ q = a6 ∨ s.heap.size ≤ q) = A at hD hA ⊢
  have hS : va_S A s.heap s.heap [] := va_S.rf
  have hl := lv_entry ([.ref h0, .int a1, .int a2, .int a3, .int a4, .int a5, .ref a6]) (n := 7) (Nat.le_of_ble_eq_true rfl)
  rw [lg_entry_eq]
  generalize (lg_sl ([.ref h0, .int a1, .int a2, .int a3, .int a4, .int a5, .ref a6]) ++ List.replicate (7 - (lg_sl ([.ref h0, .int a1, .int a2, .int a3, .int a4, .int a5, .ref a6])).length) Slot.unset).toArray = ls at hl ⊢
  have hl : lv_has ls 7 [(0, .ref h0), (1, .int a1), (2, .int a2), (3, .int a3), (4, .int a4), (5, .int a5), (6, .ref a6)] := hl
  refine lv_aload_n hx hb dX0_init_0 rfl (lv_at hl 0 rfl) ?_
  refine W.objInit hx hb hown (hts (.methodLink RX0 3 objectInit) (by decide +kernel)) (hts (.instanceMethod objectInit) (by decide +kernel)) (hts (.code objectInit ⟨#[0xb1]⟩ 1 none) (by decide +kernel)) rfl (by rw [hml]; exact hl.1) rfl dX0_init_1 (Nat.le_of_ble_eq_true rfl) (Nat.le_of_ble_eq_true rfl) ?_
  refine W.eq (g2 := F0 m 4 ls []) rfl ?_
  refine lv_aload_n hx hb dX0_init_4 rfl (lv_at hl 0 rfl) ?_
  refine lv_iconst (v := (-1)) hx hb dX0_init_5 (by decide) ?_
  refine va_put (D := (dC, dI)) (ci := 0) (v := .int (-1)) (ty := .int) (C := RX0) (T := TX0) (N := 11) hx hb hts hinX0 tyX0 tyX0_ok nmX0 hown hK hP hD hS 0 rfl rfl 8 (by decide) (hts (.fieldLink RX0 9 "FurPosts$Canoe" "dayCame" "I") (by decide +kernel)) (fun _ h9 => h9) rfl (by decide +kernel) rfl rfl (Nat.le_of_ble_eq_true rfl) dX0_init_6 (fun H locs hP hD hS => ?_)
  have hP : va_P (dC, dI) vwCl [(h0, .inr (0, [.int 0, .int 0, .int 0, .int 0, .null, .null, .int 0, .int 0, .int (-1), .int 0, .int 0])), (a6, .inl (cI, 6, .inl g))] H := hP
  have hD : va_D A [(h0, .inr (0, [.int 0, .int 0, .int 0, .int 0, .null, .null, .int 0, .int 0, .int (-1), .int 0, .int 0])), (a6, .inl (cI, 6, .inl g))] := hD
  refine lv_aload_n hx hb dX0_init_9 rfl (lv_at hl 0 rfl) ?_
  refine lv_iconst (v := 0) hx hb dX0_init_10 (by decide) ?_
  refine va_put (D := (dC, dI)) (ci := 0) (v := .int 0) (ty := .int) (C := RX0) (T := TX0) (N := 11) hx hb hts hinX0 tyX0 tyX0_ok nmX0 hown hK hP hD hS 0 rfl rfl 9 (by decide) (hts (.fieldLink RX0 15 "FurPosts$Canoe" "state" "I") (by decide +kernel)) (fun _ h9 => h9) rfl (by decide +kernel) rfl rfl (Nat.le_of_ble_eq_true rfl) dX0_init_11 (fun H locs hP hD hS => ?_)
  have hP : va_P (dC, dI) vwCl [(h0, .inr (0, [.int 0, .int 0, .int 0, .int 0, .null, .null, .int 0, .int 0, .int (-1), .int 0, .int 0])), (a6, .inl (cI, 6, .inl g))] H := hP
  have hD : va_D A [(h0, .inr (0, [.int 0, .int 0, .int 0, .int 0, .null, .null, .int 0, .int 0, .int (-1), .int 0, .int 0])), (a6, .inl (cI, 6, .inl g))] := hD
  refine lv_aload_n hx hb dX0_init_14 rfl (lv_at hl 0 rfl) ?_
  refine lv_iload_n hx hb dX0_init_15 rfl (lv_at hl 1 rfl) ?_
  refine va_putF (D := (dC, dI)) (ci := 0) (v := .int a1) (ty := .int) (C := RX0) (T := TX0) (N := 11) hx hb hts hinX0 tyX0 tyX0_ok nmX0 hown hK hP hD hS 0 rfl rfl 0 (by decide) (hts (.fieldLink RX0 18 "FurPosts$Canoe" "from" "I") (by decide +kernel)) (fun _ h9 => h9) rfl hin rfl (by decide +kernel) rfl rfl (Nat.le_of_ble_eq_true rfl) dX0_init_16 (fun H locs hP hD hS => ?_)
  have hP : va_P (dC, dI) vwCl [(h0, .inr (0, [.int a1, .int 0, .int 0, .int 0, .null, .null, .int 0, .int 0, .int (-1), .int 0, .int 0])), (a6, .inl (cI, 6, .inl g))] H := hP
  have hD : va_D A [(h0, .inr (0, [.int a1, .int 0, .int 0, .int 0, .null, .null, .int 0, .int 0, .int (-1), .int 0, .int 0])), (a6, .inl (cI, 6, .inl g))] := hD
  refine lv_aload_n hx hb dX0_init_19 rfl (lv_at hl 0 rfl) ?_
  refine lv_iload_n hx hb dX0_init_20 rfl (lv_at hl 2 rfl) ?_
  refine va_putF (D := (dC, dI)) (ci := 0) (v := .int a2) (ty := .int) (C := RX0) (T := TX0) (N := 11) hx hb hts hinX0 tyX0 tyX0_ok nmX0 hown hK hP hD hS 0 rfl rfl 1 (by decide) (hts (.fieldLink RX0 21 "FurPosts$Canoe" "to" "I") (by decide +kernel)) (fun _ h9 => h9) rfl hin rfl (by decide +kernel) rfl rfl (Nat.le_of_ble_eq_true rfl) dX0_init_21 (fun H locs hP hD hS => ?_)
  have hP : va_P (dC, dI) vwCl [(h0, .inr (0, [.int a1, .int a2, .int 0, .int 0, .null, .null, .int 0, .int 0, .int (-1), .int 0, .int 0])), (a6, .inl (cI, 6, .inl g))] H := hP
  have hD : va_D A [(h0, .inr (0, [.int a1, .int a2, .int 0, .int 0, .null, .null, .int 0, .int 0, .int (-1), .int 0, .int 0])), (a6, .inl (cI, 6, .inl g))] := hD
  refine lv_aload_n hx hb dX0_init_24 rfl (lv_at hl 0 rfl) ?_
  refine lv_iload_n hx hb dX0_init_25 rfl (lv_at hl 3 rfl) ?_
  refine va_putF (D := (dC, dI)) (ci := 0) (v := .int a3) (ty := .int) (C := RX0) (T := TX0) (N := 11) hx hb hts hinX0 tyX0 tyX0_ok nmX0 hown hK hP hD hS 0 rfl rfl 2 (by decide) (hts (.fieldLink RX0 24 "FurPosts$Canoe" "way" "I") (by decide +kernel)) (fun _ h9 => h9) rfl hin rfl (by decide +kernel) rfl rfl (Nat.le_of_ble_eq_true rfl) dX0_init_26 (fun H locs hP hD hS => ?_)
  have hP : va_P (dC, dI) vwCl [(h0, .inr (0, [.int a1, .int a2, .int a3, .int 0, .null, .null, .int 0, .int 0, .int (-1), .int 0, .int 0])), (a6, .inl (cI, 6, .inl g))] H := hP
  have hD : va_D A [(h0, .inr (0, [.int a1, .int a2, .int a3, .int 0, .null, .null, .int 0, .int 0, .int (-1), .int 0, .int 0])), (a6, .inl (cI, 6, .inl g))] := hD
  refine lv_aload_n hx hb dX0_init_29 rfl (lv_at hl 0 rfl) ?_
  refine lv_iload hx hb dX0_init_30 (lv_at hl 4 rfl) ?_
  refine va_put (D := (dC, dI)) (ci := 0) (v := .int a4) (ty := .int) (C := RX0) (T := TX0) (N := 11) hx hb hts hinX0 tyX0 tyX0_ok nmX0 hown hK hP hD hS 0 rfl rfl 7 (by decide) (hts (.fieldLink RX0 27 "FurPosts$Canoe" "daysToGo" "I") (by decide +kernel)) (fun _ h9 => h9) rfl (by decide +kernel) rfl rfl (Nat.le_of_ble_eq_true rfl) dX0_init_32 (fun H locs hP hD hS => ?_)
  have hP : va_P (dC, dI) vwCl [(h0, .inr (0, [.int a1, .int a2, .int a3, .int 0, .null, .null, .int 0, .int a4, .int (-1), .int 0, .int 0])), (a6, .inl (cI, 6, .inl g))] H := hP
  have hD : va_D A [(h0, .inr (0, [.int a1, .int a2, .int a3, .int 0, .null, .null, .int 0, .int a4, .int (-1), .int 0, .int 0])), (a6, .inl (cI, 6, .inl g))] := hD
  refine lv_aload_n hx hb dX0_init_35 rfl (lv_at hl 0 rfl) ?_
  refine lv_iload hx hb dX0_init_36 (lv_at hl 5 rfl) ?_
  refine va_putF (D := (dC, dI)) (ci := 0) (v := .int a5) (ty := .int) (C := RX0) (T := TX0) (N := 11) hx hb hts hinX0 tyX0 tyX0_ok nmX0 hown hK hP hD hS 0 rfl rfl 3 (by decide) (hts (.fieldLink RX0 30 "FurPosts$Canoe" "daySent" "I") (by decide +kernel)) (fun _ h9 => h9) rfl hin rfl (by decide +kernel) rfl rfl (Nat.le_of_ble_eq_true rfl) dX0_init_38 (fun H locs hP hD hS => ?_)
  have hP : va_P (dC, dI) vwCl [(h0, .inr (0, [.int a1, .int a2, .int a3, .int a5, .null, .null, .int 0, .int a4, .int (-1), .int 0, .int 0])), (a6, .inl (cI, 6, .inl g))] H := hP
  have hD : va_D A [(h0, .inr (0, [.int a1, .int a2, .int a3, .int a5, .null, .null, .int 0, .int a4, .int (-1), .int 0, .int 0])), (a6, .inl (cI, 6, .inl g))] := hD
  refine lv_aload_n hx hb dX0_init_41 rfl (lv_at hl 0 rfl) ?_
  refine lv_aload hx hb dX0_init_42 (lv_at hl 6 rfl) ?_
  refine va_putF (D := (dC, dI)) (ci := 0) (v := .ref a6) (ty := .array .int) (C := RX0) (T := TX0) (N := 11) hx hb hts hinX0 tyX0 tyX0_ok nmX0 hown hK hP hD hS 0 rfl rfl 4 (by decide) (hts (.fieldLink RX0 33 "FurPosts$Canoe" "waresSent" "[I") (by decide +kernel)) (fun _ h9 => h9) rfl hin rfl (by decide +kernel) rfl rfl (Nat.le_of_ble_eq_true rfl) dX0_init_44 (fun H locs hP hD hS => ?_)
  have hP : va_P (dC, dI) vwCl [(h0, .inr (0, [.int a1, .int a2, .int a3, .int a5, .ref a6, .null, .int 0, .int a4, .int (-1), .int 0, .int 0])), (a6, .inl (cI, 6, .inl g))] H := hP
  have hD : va_D A [(h0, .inr (0, [.int a1, .int a2, .int a3, .int a5, .ref a6, .null, .int 0, .int a4, .int (-1), .int 0, .int 0])), (a6, .inl (cI, 6, .inl g))] := hD
  refine lv_aload_n hx hb dX0_init_47 rfl (lv_at hl 0 rfl) ?_
  refine lv_aload hx hb dX0_init_48 (lv_at hl 6 rfl) ?_
  refine va_clone hx hb (hml.trans hl.1.symm) hown (hts (.methodLink RX0 37 ⟨"[I", "clone", "()Ljava/lang/Object;"⟩) (by decide +kernel)) (hts (.sameMethod "[I" "java/lang/Object" "clone" "()Ljava/lang/Object;") (by decide +kernel)) (hts (.native ⟨"java/lang/Object", "clone", "()Ljava/lang/Object;"⟩) (by decide +kernel)) (hts (.instanceMethod ⟨"java/lang/Object", "clone", "()Ljava/lang/Object;"⟩) (by decide +kernel)) (hts (.selects "[I" ⟨"[I", "clone", "()Ljava/lang/Object;"⟩ ⟨"java/lang/Object", "clone", "()Ljava/lang/Object;"⟩) (by decide +kernel)) hCl hK hP hD hS hA 1 0 rfl rfl (va_nm_int (hK.2 0 _ rfl).2) (va_fit (fun _ _ => rfl)) (Nat.le_of_ble_eq_true rfl) (Nat.le_of_ble_eq_true rfl) (Nat.le_of_ble_eq_true rfl) (Nat.le_of_ble_eq_true rfl) dX0_init_50 (fun qc H _ hP hD hS => ?_)
  have hP : va_P (dC, dI) vwCl [(h0, .inr (0, [.int a1, .int a2, .int a3, .int a5, .ref a6, .null, .int 0, .int a4, .int (-1), .int 0, .int 0])), (a6, .inl (cI, 6, .inl g)), (qc, .inl (cI, 6, .inl g))] H := hP
  have hD : va_D A [(h0, .inr (0, [.int a1, .int a2, .int a3, .int a5, .ref a6, .null, .int 0, .int a4, .int (-1), .int 0, .int 0])), (a6, .inl (cI, 6, .inl g)), (qc, .inl (cI, 6, .inl g))] := hD
  refine W.widen (k := 1) (n := 6) (Nat.le_of_ble_eq_true rfl) (Nat.le_of_ble_eq_true rfl) ?_
  refine va_castA hx hb hown (hts (.classLink RX0 38 "[I") (by decide +kernel)) hP 2 rfl (va_nm_int (hK.2 0 _ rfl).2) dX0_init_53 ?_
  refine va_putF (D := (dC, dI)) (ci := 0) (v := .ref qc) (ty := .array .int) (C := RX0) (T := TX0) (N := 11) hx hb hts hinX0 tyX0 tyX0_ok nmX0 hown hK hP hD hS 0 rfl rfl 5 (by decide) (hts (.fieldLink RX0 42 "FurPosts$Canoe" "wares" "[I") (by decide +kernel)) (fun _ h9 => h9) rfl hin rfl (by decide +kernel) rfl rfl (Nat.le_of_ble_eq_true rfl) dX0_init_56 (fun H locs hP hD hS => ?_)
  have hP : va_P (dC, dI) vwCl [(h0, .inr (0, [.int a1, .int a2, .int a3, .int a5, .ref a6, .ref qc, .int 0, .int a4, .int (-1), .int 0, .int 0])), (a6, .inl (cI, 6, .inl g)), (qc, .inl (cI, 6, .inl g))] H := hP
  have hD : va_D A [(h0, .inr (0, [.int a1, .int a2, .int a3, .int a5, .ref a6, .ref qc, .int 0, .int a4, .int (-1), .int 0, .int 0])), (a6, .inl (cI, 6, .inl g)), (qc, .inl (cI, 6, .inl g))] := hD
  exact W.vret hx hb hr (fun t ht hW => ⟨⟨(), rfl, trivial, fun k => [a1, a2, a3, a5, 0, 0, 0, a4, (-1), 0, 0].getD k 0, qc, by rw [ht]; exact hP.sub [0, 2] rfl, hD.sub [0, 2] (by decide) rfl⟩, hS.F ht⟩) hS.2.2 dX0_init_59
