set_option maxHeartbeats 4000000 in
set_option maxRecDepth 100000 in
theorem c_X4_init (l : Launch) (dC : Nat → ClassId) (dI : Nat → Nat → Nat) (h0 sz : Nat) (cI : ClassId) : Met l yX4_init wsX4_init ({ frames := 1, cells := 4, slots := 32, locals := 23 }) (va_Pc [.ref h0] (fun U => U.heap.size = sz ∧ va_P (dC, dI) vwCl [(h0, .inr (3, [.null, .null, .null, .null]))] U.heap ∧ va_K (dC, dI) vwCl [(cI, .int)] U ∧ va_AO RX5 U)) (va_Qv (fun _ : Unit => True) (fun _ t => ∃ fs : List Value, va_P (dC, dI) vwCl [(h0, .inr (3, fs))] t.heap) (va_A [(h0, .inr (3, [.null, .null, .null, .null]))] sz)) 4 32 (va_A [(h0, .inr (3, [.null, .null, .null, .null]))] sz) := by
  refine Met.ofW (cc := cX4_init) (maxL := 1) (ret := none) (by decide) rfl ?_
  intro p e s m args below meth c s₁ B hml hv
  obtain ⟨rfl, hsz, hP, hK, hO_RX5⟩ := hv
  have hx := B.exec
  have hb := B.bytes
  have hr := B.returns
  have hts := atoms_spec (ws := wsX4_init) B.pre
  have hown : s.vm.findClass RX4 = some m.cls := findClass_of_methodNamed B.named
  have hlocks := B.notSynchronized
  have hinX4 : ∀ w ∈ u_ws RX4 TX4 4, w ∈ wsX4_init := by decide +kernel
  have hin : meth.name = "<init>" := (name_of_methodNamed B.named B.method).1
  subst hsz
  have hD := (va_D1 (A := fun _ => True) (a := h0) (e := .inr (3, [.null, .null, .null, .null])) trivial).self (sz := s.heap.size)
  generalize hAe : va_A [(h0, .inr (3, [.null, .null, .null, .null]))] s.heap.size = A at hD ⊢
  have hA : ∀ q : Nat, s.heap.size ≤ q → A q := fun q h => by rw [← hAe]; exact Or.inr h
  have hS : va_S A s.heap s.heap [] := va_S.rf
  have hl := lv_entry ([.ref h0]) (n := 1) (Nat.le_of_ble_eq_true rfl)
  rw [lg_entry_eq]
  generalize (lg_sl ([.ref h0]) ++ List.replicate (1 - (lg_sl ([.ref h0])).length) Slot.unset).toArray = ls at hl ⊢
  have hl : lv_has ls 1 [(0, .ref h0)] := hl
  refine lv_aload_n hx hb dX4_init_0 rfl (lv_at hl 0 rfl) ?_
  refine W.objInit hx hb hown (hts (.methodLink RX4 3 objectInit) (by decide +kernel)) (hts (.instanceMethod objectInit) (by decide +kernel)) (hts (.code objectInit ⟨#[0xb1]⟩ 1 none) (by decide +kernel)) rfl (by rw [hml]; exact hl.1) rfl dX4_init_1 (Nat.le_of_ble_eq_true rfl) (Nat.le_of_ble_eq_true rfl) ?_
  refine W.eq (g2 := F0 m 4 ls []) rfl ?_
  refine lv_aload_n hx hb dX4_init_4 rfl (lv_at hl 0 rfl) ?_
  refine lv_bipush (v := 6) hx hb dX4_init_5 (by decide) ?_
  refine ia_new hx hb (hts (.arrayClass .int) (by decide +kernel)) hK hP hD hS hA 0 rfl (by decide) (show Int32.toNatClampNeg 6 = 6 from by decide) (by decide) (Nat.le_of_ble_eq_true rfl) (Nat.le_of_ble_eq_true rfl) dX4_init_7 (fun q7 H hP hD hS => ?_)
  have hP : va_P (dC, dI) vwCl [(h0, .inr (3, [.null, .null, .null, .null])), (q7, .inl (cI, 6, .inl zz_))] H := hP
  have hD : va_D A [(h0, .inr (3, [.null, .null, .null, .null])), (q7, .inl (cI, 6, .inl zz_))] := hD
  refine W.widen (k := 1) (n := 6) (Nat.le_of_ble_eq_true rfl) (Nat.le_of_ble_eq_true rfl) ?_
  refine va_putF (D := (dC, dI)) (ci := 3) (v := .ref q7) (ty := .array .int) (C := RX4) (T := TX4) (N := 4) hx hb hts hinX4 tyX4 tyX4_ok nmX4 hown hK hP hD hS 0 rfl rfl 0 (by decide) (hts (.fieldLink RX4 9 "FurPosts$Post" "stock" "[I") (by decide +kernel)) (fun _ h9 => h9) rfl hin rfl (by decide +kernel) rfl rfl (Nat.le_of_ble_eq_true rfl) dX4_init_9 (fun H locs hP hD hS => ?_)
  have hP : va_P (dC, dI) vwCl [(h0, .inr (3, [.ref q7, .null, .null, .null])), (q7, .inl (cI, 6, .inl zz_))] H := hP
  have hD : va_D A [(h0, .inr (3, [.ref q7, .null, .null, .null])), (q7, .inl (cI, 6, .inl zz_))] := hD
  refine lv_aload_n hx hb dX4_init_12 rfl (lv_at hl 0 rfl) ?_
  refine lv_bipush (v := 6) hx hb dX4_init_13 (by decide) ?_
  refine ia_new hx hb (hts (.arrayClass .int) (by decide +kernel)) hK hP hD hS hA 0 rfl (by decide) (show Int32.toNatClampNeg 6 = 6 from by decide) (by decide) (Nat.le_of_ble_eq_true rfl) (Nat.le_of_ble_eq_true rfl) dX4_init_15 (fun q15 H hP hD hS => ?_)
  have hP : va_P (dC, dI) vwCl [(h0, .inr (3, [.ref q7, .null, .null, .null])), (q7, .inl (cI, 6, .inl zz_)), (q15, .inl (cI, 6, .inl zz_))] H := hP
  have hD : va_D A [(h0, .inr (3, [.ref q7, .null, .null, .null])), (q7, .inl (cI, 6, .inl zz_)), (q15, .inl (cI, 6, .inl zz_))] := hD
  refine W.widen (k := 2) (n := 12) (Nat.le_of_ble_eq_true rfl) (Nat.le_of_ble_eq_true rfl) ?_
  refine va_putF (D := (dC, dI)) (ci := 3) (v := .ref q15) (ty := .array .int) (C := RX4) (T := TX4) (N := 4) hx hb hts hinX4 tyX4 tyX4_ok nmX4 hown hK hP hD hS 0 rfl rfl 1 (by decide) (hts (.fieldLink RX4 15 "FurPosts$Post" "prices" "[I") (by decide +kernel)) (fun _ h9 => h9) rfl hin rfl (by decide +kernel) rfl rfl (Nat.le_of_ble_eq_true rfl) dX4_init_17 (fun H locs hP hD hS => ?_)
  have hP : va_P (dC, dI) vwCl [(h0, .inr (3, [.ref q7, .ref q15, .null, .null])), (q7, .inl (cI, 6, .inl zz_)), (q15, .inl (cI, 6, .inl zz_))] H := hP
  have hD : va_D A [(h0, .inr (3, [.ref q7, .ref q15, .null, .null])), (q7, .inl (cI, 6, .inl zz_)), (q15, .inl (cI, 6, .inl zz_))] := hD
  refine lv_aload_n hx hb dX4_init_20 rfl (lv_at hl 0 rfl) ?_
  refine lv_bipush (v := 12) hx hb dX4_init_21 (by decide) ?_
  refine ia_new hx hb (hts (.arrayClass .int) (by decide +kernel)) hK hP hD hS hA 0 rfl (by decide) (show Int32.toNatClampNeg 12 = 12 from by decide) (by decide) (Nat.le_of_ble_eq_true rfl) (Nat.le_of_ble_eq_true rfl) dX4_init_23 (fun q23 H hP hD hS => ?_)
  have hP : va_P (dC, dI) vwCl [(h0, .inr (3, [.ref q7, .ref q15, .null, .null])), (q7, .inl (cI, 6, .inl zz_)), (q15, .inl (cI, 6, .inl zz_)), (q23, .inl (cI, 12, .inl zz_))] H := hP
  have hD : va_D A [(h0, .inr (3, [.ref q7, .ref q15, .null, .null])), (q7, .inl (cI, 6, .inl zz_)), (q15, .inl (cI, 6, .inl zz_)), (q23, .inl (cI, 12, .inl zz_))] := hD
  refine W.widen (k := 3) (n := 24) (Nat.le_of_ble_eq_true rfl) (Nat.le_of_ble_eq_true rfl) ?_
  refine va_putF (D := (dC, dI)) (ci := 3) (v := .ref q23) (ty := .array .int) (C := RX4) (T := TX4) (N := 4) hx hb hts hinX4 tyX4 tyX4_ok nmX4 hown hK hP hD hS 0 rfl rfl 2 (by decide) (hts (.fieldLink RX4 18 "FurPosts$Post" "owed" "[I") (by decide +kernel)) (fun _ h9 => h9) rfl hin rfl (by decide +kernel) rfl rfl (Nat.le_of_ble_eq_true rfl) dX4_init_25 (fun H locs hP hD hS => ?_)
  have hP : va_P (dC, dI) vwCl [(h0, .inr (3, [.ref q7, .ref q15, .ref q23, .null])), (q7, .inl (cI, 6, .inl zz_)), (q15, .inl (cI, 6, .inl zz_)), (q23, .inl (cI, 12, .inl zz_))] H := hP
  have hD : va_D A [(h0, .inr (3, [.ref q7, .ref q15, .ref q23, .null])), (q7, .inl (cI, 6, .inl zz_)), (q15, .inl (cI, 6, .inl zz_)), (q23, .inl (cI, 12, .inl zz_))] := hD
  refine lv_aload_n hx hb dX4_init_28 rfl (lv_at hl 0 rfl) ?_
  refine lv_bipush (v := 8) hx hb dX4_init_29 (by decide) ?_
  refine va_newq (C := RX5) hx hb hown (hts (.classLink RX4 21 RX5) (by decide +kernel)) hO_RX5 hK hP hD hS hA (by decide) (show Int32.toNatClampNeg 8 = 8 from by decide) (by decide) (Nat.le_of_ble_eq_true rfl) (Nat.le_of_ble_eq_true rfl) dX4_init_31 (fun q31 c31 H hK hP hD hS => ?_)
  have hP : va_P (dC, dI) vwCl [(h0, .inr (3, [.ref q7, .ref q15, .ref q23, .null])), (q7, .inl (cI, 6, .inl zz_)), (q15, .inl (cI, 6, .inl zz_)), (q23, .inl (cI, 12, .inl zz_)), (q31, .inl (c31, 8, .inr (.inr (.inr (.inr nn_)))))] H := hP
  have hD : va_D A [(h0, .inr (3, [.ref q7, .ref q15, .ref q23, .null])), (q7, .inl (cI, 6, .inl zz_)), (q15, .inl (cI, 6, .inl zz_)), (q23, .inl (cI, 12, .inl zz_)), (q31, .inl (c31, 8, .inr (.inr (.inr (.inr nn_)))))] := hD
  have hK : va_K (dC, dI) vwCl [(cI, .int), (c31, .object RX5)] s := hK
  refine W.widen (k := 4) (n := 32) (Nat.le_of_ble_eq_true rfl) (Nat.le_of_ble_eq_true rfl) ?_
  refine va_putF (D := (dC, dI)) (ci := 3) (v := .ref q31) (ty := .array (.object "FurPosts$Report")) (C := RX4) (T := TX4) (N := 4) hx hb hts hinX4 tyX4 tyX4_ok nmX4 hown hK hP hD hS 0 rfl rfl 3 (by decide) (hts (.fieldLink RX4 23 "FurPosts$Post" "reports" "[LFurPosts$Report;") (by decide +kernel)) (fun _ h9 => h9) rfl hin rfl (by decide +kernel) rfl rfl (Nat.le_of_ble_eq_true rfl) dX4_init_34 (fun H locs hP hD hS => ?_)
  have hP : va_P (dC, dI) vwCl [(h0, .inr (3, [.ref q7, .ref q15, .ref q23, .ref q31])), (q7, .inl (cI, 6, .inl zz_)), (q15, .inl (cI, 6, .inl zz_)), (q23, .inl (cI, 12, .inl zz_)), (q31, .inl (c31, 8, .inr (.inr (.inr (.inr nn_)))))] H := hP
  have hD : va_D A [(h0, .inr (3, [.ref q7, .ref q15, .ref q23, .ref q31])), (q7, .inl (cI, 6, .inl zz_)), (q15, .inl (cI, 6, .inl zz_)), (q23, .inl (cI, 12, .inl zz_)), (q31, .inl (c31, 8, .inr (.inr (.inr (.inr nn_)))))] := hD
  refine lv_aload_n hx hb dX4_init_37 rfl (lv_at hl 0 rfl) ?_
  refine va_get (D := (dC, dI)) (ci := 3) (v := .ref q15) (C := RX4) (T := TX4) (N := 4) hx hb hts hinX4 hown hK hP 0 rfl rfl 1 (by decide) (hts (.fieldLink RX4 15 "FurPosts$Post" "prices" "[I") (by decide +kernel)) (fun _ h9 => h9) rfl dX4_init_38 ?_
  refine lv_iconst (v := 1) hx hb dX4_init_41 (by decide) ?_
  have hne : ¬ h0 = q15 := apart_at hD 0 2 rfl rfl (by decide)
  refine va_callv (va_runS (As := [.ref q15, .int 1]) (rest := []) ⟨hx, hb, hml, hown, hts⟩ (c_fill l dC dI q15 cI 6 (by decide) zz_ 1) (va_cwS 2 hts gX4_init_J7_fill_53178 rfl rfl rfl (by decide +kernel) ⟨Nat.le_of_ble_eq_true rfl, Nat.le_of_ble_eq_true rfl⟩) ⟨pu_blind, fun U hU hW => ⟨rfl, by rw [hU]; exact hP.sub (ws' := [(q15, .inl (cI, 6, .inl zz_))]) [2] rfl, va_K.moved hW.alike (hK.sub (tys' := [(cI, .int)]) [0] rfl)⟩⟩ rfl rfl hl.1 rfl (lv_room (Nat.le_of_ble_eq_true rfl)) dX4_init_42 ⟨Nat.le_of_ble_eq_true rfl, Nat.le_of_ble_eq_true rfl⟩) hS (fun q _ h => by rw [h]; exact hD.2 2 _ rfl) (fun q h => by rw [h]; exact hD.2 2 _ rfl) (fun g1 t H1 locs ht hvm hw hB hz1 hk1 hS => ?_)
  refine W.widen (k := 4) (n := 32) (Nat.le_of_ble_eq_true rfl) (Nat.le_of_ble_eq_true rfl) ?_
  have hP8 : va_P (dC, dI) vwCl [(h0, .inr (3, [.ref q7, .ref q15, .ref q23, .ref q31]))] H := hP.sub [0] rfl
  have hP9 := hP8.kept (H1 := H1) (fun k x hx => by
    have h1 : k < 1 := (List.getElem?_eq_some_iff.mp hx).1
    rw [show k = 0 by omega] at hx
    cases hx
    exact hk1 h0 ((hP8 0 _ rfl).lt) hne)
  exact W.vret hx hb hr (fun t ht hW => ⟨⟨(), rfl, trivial, _, by rw [ht]; exact hP9⟩, hS.F ht⟩) hS.2.2 dX4_init_45

theorem va_D2 {A : Nat → Prop} {a b : Nat} {e f : va_E} (ha : A a) (hb : A b) (h : ¬ a = b) : va_D A [(a, e), (b, f)] := by
  refine ⟨fun i j p q hi hj hpq => ?_, fun k q hk => ?_⟩
  · have h1 : i < 2 := (List.getElem?_eq_some_iff.mp hi).1
    have h2 : j < 2 := (List.getElem?_eq_some_iff.mp hj).1
    rcases (show i = 0 ∨ i = 1 by omega) with rfl | rfl <;> rcases (show j = 0 ∨ j = 1 by omega) with rfl | rfl
    · rfl
    · cases hi; cases hj; exact absurd hpq h
    · cases hi; cases hj; exact absurd hpq.symm h
    · rfl
  · have h1 : k < 2 := (List.getElem?_eq_some_iff.mp hk).1
    rcases (show k = 0 ∨ k = 1 by omega) with rfl | rfl
    · cases hk; exact ha
    · cases hk; exact hb

set_option maxHeartbeats 4000000 in
set_option maxRecDepth 100000 in
theorem c_X7_post (l : Launch) (dC : Nat → ClassId) (dI : Nat → Nat → Nat) (h0 sz : Nat) (q : Nat → Nat) (c1 cI : ClassId) (A : Nat → Prop) (hA0 : A h0) (hA1 : A (q 1)) (hAs : ∀ a, sz ≤ a → A a) (hne : ¬ h0 = q 1) : Met l yX7_post wsX7_post ({ frames := 2, cells := 5, slots := 36, locals := 43 }) (va_Pc [.ref h0] (fun U => U.heap.size = sz ∧ va_P (dC, dI) vwCl [(h0, .inr (6, fx_O q)), (q 1, .inl (c1, 8, .inr (.inr (.inr (.inr nn_)))))] U.heap ∧ va_K (dC, dI) vwCl [(c1, .object RX4), (cI, .int)] U ∧ va_AO RX5 U)) (im_Q 0 A) 5 36 A := by
  refine Met.ofW (cc := cX7_post) (maxL := 1) (ret := (some .int)) (by decide) rfl ?_
  intro p e s m args below meth c s₁ B hml hv
  obtain ⟨rfl, hsz, hP, hK, hO_RX5⟩ := hv
  have hx := B.exec
  have hb := B.bytes
  have hr := B.returns
  have hts := atoms_spec (ws := wsX7_post) B.pre
  have hown : s.vm.findClass RX7 = some m.cls := findClass_of_methodNamed B.named
  have hlocks := B.notSynchronized
  have hinX7 : ∀ w ∈ u_ws RX7 TX7 14, w ∈ wsX7_post := by decide +kernel
  have hinX4 : ∀ w ∈ u_ws RX4 TX4 4, w ∈ wsX7_post := by decide +kernel
  subst hsz
  have hA : ∀ q : Nat, s.heap.size ≤ q → A q := hAs
  have hD : va_D A [(h0, .inr (6, fx_O q)), (q 1, .inl (c1, 8, .inr (.inr (.inr (.inr nn_)))))] := va_D2 hA0 hA1 hne
  have hS : va_S A s.heap s.heap [] := va_S.rf
  have hl := lv_entry ([.ref h0]) (n := 1) (Nat.le_of_ble_eq_true rfl)
  rw [lg_entry_eq]
  generalize (lg_sl ([.ref h0]) ++ List.replicate (1 - (lg_sl ([.ref h0])).length) Slot.unset).toArray = ls at hl ⊢
  have hl : lv_has ls 1 [(0, .ref h0)] := hl
  refine lv_aload_n hx hb dX7_post_0 rfl (lv_at hl 0 rfl) ?_
  refine va_get (D := (dC, dI)) (ci := 6) (v := .int 0) (C := RX7) (T := TX7) (N := 14) hx hb hts hinX7 hown hK hP 0 rfl rfl 9 (by decide) (hts (.fieldLink RX7 54 "FurPosts" "postCount" "I") (by decide +kernel)) (fun _ h9 => h9) rfl dX7_post_1 ?_
  refine lv_bipush (v := 8) hx hb dX7_post_4 (by decide) ?_
  refine lv_icmp_lt (tgt := 11) hx hb dX7_post_6 (by decide) (fun h_1 => ?_) (fun h_1 => absurd (by decide) h_1)
  refine lv_aload_n hx hb dX7_post_11 rfl (lv_at hl 0 rfl) ?_
  refine va_get (D := (dC, dI)) (ci := 6) (v := .ref (q 1)) (C := RX7) (T := TX7) (N := 14) hx hb hts hinX7 hown hK hP 0 rfl rfl 0 (by decide) (hts (.fieldLink RX7 11 "FurPosts" "posts" "[LFurPosts$Post;") (by decide +kernel)) (fun _ h9 => h9) rfl dX7_post_12 ?_
  refine lv_aload_n hx hb dX7_post_15 rfl (lv_at hl 0 rfl) ?_
  refine va_get (D := (dC, dI)) (ci := 6) (v := .int 0) (C := RX7) (T := TX7) (N := 14) hx hb hts hinX7 hown hK hP 0 rfl rfl 9 (by decide) (hts (.fieldLink RX7 54 "FurPosts" "postCount" "I") (by decide +kernel)) (fun _ h9 => h9) rfl dX7_post_16 ?_
  refine va_new (ci := 3) (fs := [.null, .null, .null, .null]) (C := RX4) (T := TX4) (N := 4) hx hb hts hinX4 tyX4 tyX4_ok hown (hts (.classLink RX7 9 RX4) (by decide +kernel)) (hts (.instantiable RX4 4) (by decide +kernel)) (hts (.initialized RX4) (by decide +kernel)) hK hP hD hS hA rfl (fun j hj => by rcases (show j = 0 ∨ j = 1 ∨ j = 2 ∨ j = 3 by omega) with rfl | rfl | rfl | rfl <;> rfl) (Nat.le_of_ble_eq_true rfl) (Nat.le_of_ble_eq_true rfl) dX7_post_19 (fun q19 H hP hD hS => ?_)
  have hP : va_P (dC, dI) vwCl [(h0, .inr (6, [.ref (q 1), .ref (q 2), .ref (q 3), .ref (q 4), .ref (q 5), .ref (q 6), .ref (q 7), .ref (q 8), .int 0, .int 0, .int 0, .int 0, .int 0, .int 0])), ((q 1), .inl (c1, 8, .inr (.inr (.inr (.inr nn_))))), (q19, .inr (3, [.null, .null, .null, .null]))] H := hP
  have hD : va_D A [(h0, .inr (6, [.ref (q 1), .ref (q 2), .ref (q 3), .ref (q 4), .ref (q 5), .ref (q 6), .ref (q 7), .ref (q 8), .int 0, .int 0, .int 0, .int 0, .int 0, .int 0])), ((q 1), .inl (c1, 8, .inr (.inr (.inr (.inr nn_))))), (q19, .inr (3, [.null, .null, .null, .null]))] := hD
  refine W.widen (k := 1) (n := 4) (Nat.le_of_ble_eq_true rfl) (Nat.le_of_ble_eq_true rfl) ?_
  refine lv_dup hx hb dX7_post_22 rfl ?_
  have hFc := va_free (wc := [(q19, .inr (3, [.null, .null, .null, .null]))]) hD hS hA [2] rfl
  refine va_callv (va_runI (As := []) (rest := [.ref q19, .int 0, .ref (q 1)]) ⟨hx, hb, hml, hown, hts⟩ (c_X4_init l dC dI q19 H.size cI) (cwI 0 hts ggX7_post_X4_init rfl rfl rfl (hts (.initialized RX4) (by decide +kernel)) (hts (.methodLink RX7 58 yX4_init) (by decide +kernel)) (hts (.instanceMethod yX4_init) (by decide +kernel)) rfl (by decide +kernel) ⟨Nat.le_of_ble_eq_true rfl, Nat.le_of_ble_eq_true rfl⟩) ⟨fun a U g mk z => by obtain ⟨z0, z1, zP, zK, zO⟩ := z; exact ⟨z0, z1, zP, va_K.moved (u := U) (U := U.calling g mk a) (Vm.Alike.refl U.vm) zK, va_AO.moved (u := U) (U := U.calling g mk a) (Vm.Alike.refl U.vm) zO⟩, fun U hU hW => ⟨rfl, by rw [hU], by rw [hU]; exact hP.sub (ws' := [(q19, .inr (3, [.null, .null, .null, .null]))]) [2] rfl, va_K.moved hW.alike (hK.sub (tys' := [(cI, .int)]) [1] rfl), va_AO.moved hW.alike hO_RX5⟩⟩ rfl rfl hl.1 rfl (lv_room (Nat.le_of_ble_eq_true rfl)) dX7_post_23 ⟨Nat.le_of_ble_eq_true rfl, Nat.le_of_ble_eq_true rfl⟩) hS (fun q _ h => hFc q h) hFc (fun u t H1 locs ht hvm hw hB hz1 hk1 hS => ?_)
  obtain ⟨fs, hP1⟩ := hB
  rw [ht] at hP1
  obtain ⟨hP, hD⟩ := va_join (wr := [(h0, .inr (6, [.ref (q 1), .ref (q 2), .ref (q 3), .ref (q 4), .ref (q 5), .ref (q 6), .ref (q 7), .ref (q 8), .int 0, .int 0, .int 0, .int 0, .int 0, .int 0])), ((q 1), .inl (c1, 8, .inr (.inr (.inr (.inr nn_)))))]) (w1 := [(q19, .inr (3, fs))]) hP hD [2] [0, 1] rfl rfl (by decide) (by decide) hk1 hFc hP1 (va_D1 (Or.inl ⟨0, _, rfl⟩))
  generalize H1 = H at hP hS ⊢
  have hP : va_P (dC, dI) vwCl [(h0, .inr (6, [.ref (q 1), .ref (q 2), .ref (q 3), .ref (q 4), .ref (q 5), .ref (q 6), .ref (q 7), .ref (q 8), .int 0, .int 0, .int 0, .int 0, .int 0, .int 0])), ((q 1), .inl (c1, 8, .inr (.inr (.inr (.inr nn_))))), (q19, .inr (3, fs))] H := hP
  have hD : va_D A [(h0, .inr (6, [.ref (q 1), .ref (q 2), .ref (q 3), .ref (q 4), .ref (q 5), .ref (q 6), .ref (q 7), .ref (q 8), .int 0, .int 0, .int 0, .int 0, .int 0, .int 0])), ((q 1), .inl (c1, 8, .inr (.inr (.inr (.inr nn_))))), (q19, .inr (3, fs))] := hD
  refine W.widen (k := 5) (n := 36) (Nat.le_of_ble_eq_true rfl) (Nat.le_of_ble_eq_true rfl) ?_
  refine va_astq (r := (RX4, TX4, 4)) hx hb hK hP hD hS 1 0 2 3 rfl rfl rfl rfl (by unfold vp_in; decide) dX7_post_26 (fun H locs hP hD hS => ?_)
  have hP : va_P (dC, dI) vwCl [(h0, .inr (6, [.ref (q 1), .ref (q 2), .ref (q 3), .ref (q 4), .ref (q 5), .ref (q 6), .ref (q 7), .ref (q 8), .int 0, .int 0, .int 0, .int 0, .int 0, .int 0]))] H := hP.sub [0] rfl
  have hD : va_D A [(h0, .inr (6, [.ref (q 1), .ref (q 2), .ref (q 3), .ref (q 4), .ref (q 5), .ref (q 6), .ref (q 7), .ref (q 8), .int 0, .int 0, .int 0, .int 0, .int 0, .int 0]))] := va_D1 hA0
  refine lv_aload_n hx hb dX7_post_27 rfl (lv_at hl 0 rfl) ?_
  refine lv_dup hx hb dX7_post_28 rfl ?_
  refine va_get (D := (dC, dI)) (ci := 6) (v := .int 0) (C := RX7) (T := TX7) (N := 14) hx hb hts hinX7 hown hK hP 0 rfl rfl 9 (by decide) (hts (.fieldLink RX7 54 "FurPosts" "postCount" "I") (by decide +kernel)) (fun _ h9 => h9) rfl dX7_post_29 ?_
  refine lv_iconst (v := 1) hx hb dX7_post_32 (by decide) ?_
  refine lv_iadd hx hb dX7_post_33 ?_
  rw [show (0 + 1 : Int32) = (1 : Int32) from by decide]
  refine va_put (D := (dC, dI)) (ci := 6) (v := .int 1) (ty := .int) (C := RX7) (T := TX7) (N := 14) hx hb hts hinX7 tyX7 tyX7_ok nmX7 hown hK hP hD hS 0 rfl rfl 9 (by decide) (hts (.fieldLink RX7 54 "FurPosts" "postCount" "I") (by decide +kernel)) (fun _ h9 => h9) rfl (by decide +kernel) rfl rfl (Nat.le_of_ble_eq_true rfl) dX7_post_34 (fun H locs hP hD hS => ?_)
  have hP : va_P (dC, dI) vwCl [(h0, .inr (6, [.ref (q 1), .ref (q 2), .ref (q 3), .ref (q 4), .ref (q 5), .ref (q 6), .ref (q 7), .ref (q 8), .int 0, .int 1, .int 0, .int 0, .int 0, .int 0]))] H := hP
  have hD : va_D A [(h0, .inr (6, [.ref (q 1), .ref (q 2), .ref (q 3), .ref (q 4), .ref (q 5), .ref (q 6), .ref (q 7), .ref (q 8), .int 0, .int 1, .int 0, .int 0, .int 0, .int 0]))] := hD
  refine lv_aload_n hx hb dX7_post_37 rfl (lv_at hl 0 rfl) ?_
  refine va_get (D := (dC, dI)) (ci := 6) (v := .int 1) (C := RX7) (T := TX7) (N := 14) hx hb hts hinX7 hown hK hP 0 rfl rfl 9 (by decide) (hts (.fieldLink RX7 54 "FurPosts" "postCount" "I") (by decide +kernel)) (fun _ h9 => h9) rfl dX7_post_38 ?_
  refine lv_iconst (v := 1) hx hb dX7_post_41 (by decide) ?_
  refine lv_isub hx hb dX7_post_42 ?_
  rw [show (1 - 1 : Int32) = (0 : Int32) from by decide]
  exact W.iret (v := 0) hx hb hr (fun t ht hW => ⟨⟨0, (), rfl, rfl, trivial⟩, hS.F ht⟩) hS.2.2 dX7_post_43
