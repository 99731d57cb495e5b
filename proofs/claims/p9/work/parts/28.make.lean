/-! what is made goes into the pool, of no kind yet; then it gets its kind -/
theorem pl_one {D : va_G} {cl : List vw_C} {X : va_W} {L : List Nat} {f : Nat → va_E} {H : Heap} {a i : Nat} {e : va_E} (hP : va_P D cl (X ++ va_pl L f) H) (hi : (X ++ va_pl L f)[i]? = some (a, f a)) (he : f a = e) : va_P D cl [(a, e)] H := fun k x hx => by
  have h1 : k < 1 := (List.getElem?_eq_some_iff.mp hx).1
  rw [show k = 0 by omega] at hx
  cases hx
  rw [← he]
  exact hP i _ hi
theorem pl_call {D : va_G} {cl : List vw_C} {X : va_W} {L : List Nat} {f : Nat → va_E} {A : Nat → Prop} {H H1 : Heap} {a i : Nat} {e : va_E} (hP : va_P D cl (X ++ va_pl L f) H) (hD : va_D A (X ++ va_pl L f)) (hm : a ∈ L) (hi : (X ++ va_pl L f)[i]? = some (a, f a)) (hk : ∀ q : Nat, q < H.size → ¬ q = a → H1[q]? = H[q]?) (hB : va_P D cl [(a, e)] H1) : va_P D cl (X ++ va_pl L (va_up f a e)) H1 := by
  rw [← va_pl_set hD hm hi]
  intro k x hx
  by_cases hki : i = k
  · subst hki
    have hlt : i < (X ++ va_pl L f).length := (List.getElem?_eq_some_iff.mp hi).1
    rw [List.getElem?_set_self hlt] at hx
    cases hx
    exact hB 0 _ rfl
  · rw [List.getElem?_set_ne hki] at hx
    exact (hP k x hx).kept (hk x.1 ((hP k x hx).lt) (fun z => hki (hD.1 i k _ _ hi hx z.symm)))
theorem pl_cell {X : va_W} {L : List Nat} {f : Nat → va_E} {A : Nat → Prop} {a i : Nat} {e : va_E} (hD : va_D A (X ++ va_pl L f)) (hm : a ∈ L) (hi : (X ++ va_pl L f)[i]? = some (a, f a)) : va_D A (X ++ va_pl L (va_up f a e)) := by
  rw [← va_pl_set hD hm hi]
  exact hD.set hi
theorem ty_0 {cI : ClassId} {cy : Nat → ClassId} {L : List Nat} {t : Nat → Nat} {f : Nat → va_E} {a : Nat} (hT : ty_ cI cy L t f) (ha : a ∉ L) : t a = 0 := Classical.byContradiction fun h => ha (hT.1 a h)
theorem ty_pend {cI : ClassId} {cy : Nat → ClassId} {L : List Nat} {t : Nat → Nat} {f : Nat → va_E} {a : Nat} {e : va_E} (hT : ty_ cI cy L t f) (ha : a ∉ L) : ty_ cI cy (L ++ [a]) t (va_up f a e) := ⟨fun x hx => List.mem_append_left _ (hT.1 x hx), fun b => by
  by_cases h : b = a
  · rw [h, va_up_self, ty_0 hT ha]; exact trivial
  · rw [va_up_ne _ _ h]; exact hT.2 b⟩
theorem ext_ {t : Nat → Nat} {a : Nat} (h0 : t a = 0) (k : Nat) : ∀ x, ¬ t x = 0 → va_up t a k x = t x := fun x hx => va_up_ne _ _ (fun z => hx (by rw [z]; exact h0))
theorem ty_type {cI : ClassId} {cy : Nat → ClassId} {L : List Nat} {t : Nat → Nat} {f : Nat → va_E} {a : Nat} {e : va_E} {k : Nat} (hT : ty_ cI cy L t f) (hm : a ∈ L) (h0 : t a = 0) (he : kd_ cI cy (va_up t a k) e k) : ty_ cI cy L (va_up t a k) (va_up f a e) := by
  have m := ext_ h0 k
  refine ⟨fun x hx => ?_, fun b => ?_⟩
  · by_cases h : x = a
    · rw [h]; exact hm
    · rw [va_up_ne _ _ h] at hx; exact hT.1 x hx
  · by_cases h : b = a
    · rw [h, va_up_self, va_up_self]; exact he
    · rw [va_up_ne _ _ h, va_up_ne _ _ h]; exact kd_mono m (hT.2 b)
/-- a cell that holds already what its kind asks -/
theorem ty_typ0 {cI : ClassId} {cy : Nat → ClassId} {L : List Nat} {t : Nat → Nat} {f : Nat → va_E} {a : Nat} {k : Nat} (hT : ty_ cI cy L t f) (hm : a ∈ L) (h0 : t a = 0) (he : kd_ cI cy (va_up t a k) (f a) k) : ty_ cI cy L (va_up t a k) f := by
  have m := ext_ h0 k
  refine ⟨fun x hx => ?_, fun b => ?_⟩
  · by_cases h : x = a
    · rw [h]; exact hm
    · rw [va_up_ne _ _ h] at hx; exact hT.1 x hx
  · by_cases h : b = a
    · rw [h, va_up_self]; exact he
    · rw [va_up_ne _ _ h]; exact kd_mono m (hT.2 b)
theorem qs_ext {q t t' : Nat → Nat} (m : ∀ x, ¬ t x = 0 → t' x = t x) (h : qs_ q t) : qs_ q t' := ⟨kd_m m h.1, kd_m m h.2.1, kd_m m h.2.2.1, kd_m m h.2.2.2.1, kd_m m h.2.2.2.2.1, kd_m m h.2.2.2.2.2.1, kd_m m h.2.2.2.2.2.2.1, kd_m m h.2.2.2.2.2.2.2⟩
theorem nI_linv2 {k B : Nat} {b : Int32} (h : nI k < b) (e : b = nI B) (hk : k < 2147483648 ∧ B < 2147483648) : k < B := by
  rw [e] at h
  exact (nI_ltI (by omega) (by omega)).mp h
theorem ca_asg {s : State} {C E : String} (h : va_Nw (.castable C E) s) : ∀ comp c0 : ClassId, s.vm.findClass E = some comp → s.vm.findClass C = some c0 → s.vm.assignable c0 comp = true := fun comp c0 h1 h2 => by
  obtain ⟨c3, t3, f1, f2, f3⟩ := Cond.castable_spec (va_Nw.use (A := #[]) rfl h)
  rw [h2] at f1
  rw [h1] at f2
  cases f1
  cases f2
  exact f3
theorem gl_any {s : State} {H : Heap} {D : va_G} {tys : List (ClassId × FieldType)} {X : va_W} {cI : ClassId} {cy : Nat → ClassId} {L : List Nat} {t : Nat → Nat} {f : Nat → va_E} {a : Nat} (hW0 : nw_ s) (hK : va_K D vwCl tys s) (hP : va_P D vwCl (X ++ va_pl L f) H) (hT : ty_ cI cy L t f) (ha : t a = 4 ∨ t a = 5 ∨ t a = 6) : va_Any RX2 s H a := by
  rcases ha with ha | ha | ha
  · obtain ⟨hm, i, g, hi, he⟩ := at_4 X hT ha
    exact va_rAny hK hP he rfl (ca_asg (nw_l3 hW0))
  · obtain ⟨hm, i, g, hi, he⟩ := at_5 X hT ha
    exact va_rAny hK hP he rfl (ca_asg (nw_l1 hW0))
  · obtain ⟨hm, i, g, z, hi, he, hz⟩ := at_6 X hT ha
    exact va_rAny hK hP he rfl (ca_asg (nw_l5 hW0))

set_option maxHeartbeats 4000000 in
set_option maxRecDepth 100000 in
theorem m_X7_putInBag (l : Launch) (dC : Nat → ClassId) (dI : Nat → Nat → Nat) (h0 : Nat) (q n : Nat → Nat) (dl : Int32) (cI : ClassId) (cy : Nat → ClassId) (L : List Nat) (t : Nat → Nat) (f : Nat → va_E) (hT : ty_ cI cy L t f) (hQ : qs_ q t) (hN : nb_ n) (A : Nat → Prop) (hD : va_D A (xo_ h0 q n dl ++ va_pl L f)) (a1 : Nat) (ka1 : (t a1 = 4 ∨ t a1 = 5 ∨ t a1 = 6)) : Met l yX7_putInBag wsX7_putInBag ({ frames := 0, cells := 0, slots := 0, locals := 0 }) (va_Pc [.ref h0, .ref a1] (pt_P (dC, dI) vwCl (tt_ cI cy) (xo_ h0 q n dl ++ va_pl L f))) (va_Qi (fun r (u : (Nat → va_E) × (Nat → Nat) × Int32) => True ∧ va_D A (xo_ h0 q u.2.1 u.2.2 ++ va_pl L u.1) ∧ ty_ cI cy L t u.1 ∧ (nb_ u.2.1 ∧ u.2.1 0 = n 0 ∧ u.2.1 1 = n 1)) (fun u s' => va_P (dC, dI) vwCl (xo_ h0 q u.2.1 u.2.2 ++ va_pl L u.1) s'.heap) A) 0 0 A := by
  refine Met.ofW (cc := cX7_putInBag) (maxL := 2) (ret := (some .int)) (by decide) rfl ?_
  intro p e s m args below meth c s₁ B hml hv
  obtain ⟨rfl, hP, hK, hW0⟩ := hv
  have hx := B.exec
  have hb := B.bytes
  have hr := B.returns
  have hts := atoms_spec (ws := wsX7_putInBag) B.pre
  have hown : s.vm.findClass RX7 = some m.cls := findClass_of_methodNamed B.named
  have hlocks := B.notSynchronized
  have hinX7 : ∀ w ∈ u_ws RX7 TX7 14, w ∈ wsX7_putInBag := by decide +kernel
  have hS : va_S A s.heap s.heap [] := va_S.rf
  have hl := lv_entry ([.ref h0, .ref a1]) (n := 2) (Nat.le_of_ble_eq_true rfl)
  rw [lg_entry_eq]
  generalize (lg_sl ([.ref h0, .ref a1]) ++ List.replicate (2 - (lg_sl ([.ref h0, .ref a1])).length) Slot.unset).toArray = ls at hl ⊢
  have hl : lv_has ls 2 [(0, .ref h0), (1, .ref a1)] := hl
  obtain ⟨H, hH, hP, hS⟩ : ∃ H, H = s.heap ∧ va_P (dC, dI) vwCl (xo_ h0 q n dl ++ va_pl L f) H ∧ va_S A s.heap H [] := ⟨_, rfl, hP, hS⟩
  rw [← hH]
  generalize ([] : List Loc) = locs at hS ⊢
  refine lv_aload_n hx hb dX7_putInBag_0 rfl (lv_at hl 0 rfl) ?_
  refine va_get (D := (dC, dI)) (ci := 6) (v := .int (nI (n 4))) (C := RX7) (T := TX7) (N := 14) hx hb hts hinX7 hown hK hP 0 rfl rfl 12 (by decide) (hts (.fieldLink RX7 165 "FurPosts" "letterCount" "I") (by decide +kernel)) (fun _ h9 => h9) rfl dX7_putInBag_1 ?_
  refine lv_sipush (v := 300) hx hb dX7_putInBag_4 (by decide) ?_
  refine lv_icmp_lt (tgt := 12) hx hb dX7_putInBag_7 (by decide) (fun h_1 => ?_) (fun h_1 => ?_)
  · skip
    refine lv_aload_n hx hb dX7_putInBag_12 rfl (lv_at hl 0 rfl) ?_
    refine va_get (D := (dC, dI)) (ci := 6) (v := .ref (q 4)) (C := RX7) (T := TX7) (N := 14) hx hb hts hinX7 hown hK hP 0 rfl rfl 3 (by decide) (hts (.fieldLink RX7 29 "FurPosts" "letters" "[LFurPosts$Letter;") (by decide +kernel)) (fun _ h9 => h9) rfl dX7_putInBag_13 ?_
    refine lv_aload_n hx hb dX7_putInBag_16 rfl (lv_at hl 0 rfl) ?_
    refine va_get (D := (dC, dI)) (ci := 6) (v := .int (nI (n 4))) (C := RX7) (T := TX7) (N := 14) hx hb hts hinX7 hown hK hP 0 rfl rfl 12 (by decide) (hts (.fieldLink RX7 165 "FurPosts" "letterCount" "I") (by decide +kernel)) (fun _ h9 => h9) rfl dX7_putInBag_17 ?_
    refine lv_aload_n hx hb dX7_putInBag_20 rfl (lv_at hl 1 rfl) ?_
    obtain ⟨hm2, i2, g2, hi2, he2, k2_0⟩ := at_11 (xo_ h0 q n dl) hT hQ.2.2.2.1
    have hlt300 := h_1
    refine va_astqM (E := RX2) hx hb hK hP hD hS i2 5 he2 rfl (gl_any hW0 hK hP hT ka1) (i := (nI (n 4))) (vp_in_nI (nI_linv2 (B := 300) hlt300 rfl (by omega)) (by decide)) dX7_putInBag_21 (fun H locs hP2 hD2 hS => ?_)
    rw [va_pl_set hD hm2 hi2] at hP2 hD2
    obtain ⟨f, hP, hD, hT⟩ : ∃ f, va_P (dC, dI) vwCl (xo_ h0 q n dl ++ va_pl L f) H ∧ va_D A (xo_ h0 q n dl ++ va_pl L f) ∧ ty_ cI cy L t f := ⟨_, hP2, hD2, ty_set hT hQ.2.2.2.1 ⟨_, rfl, up_ok (P := fun b => t b = 4 ∨ t b = 5 ∨ t b = 6) k2_0 ka1⟩⟩
    refine lv_aload_n hx hb dX7_putInBag_22 rfl (lv_at hl 0 rfl) ?_
    refine lv_dup hx hb dX7_putInBag_23 rfl ?_
    refine va_get (D := (dC, dI)) (ci := 6) (v := .int (nI (n 4))) (C := RX7) (T := TX7) (N := 14) hx hb hts hinX7 hown hK hP 0 rfl rfl 12 (by decide) (hts (.fieldLink RX7 165 "FurPosts" "letterCount" "I") (by decide +kernel)) (fun _ h9 => h9) rfl dX7_putInBag_24 ?_
    refine lv_iconst (v := 1) hx hb dX7_putInBag_27 (by decide) ?_
    refine lv_iadd hx hb dX7_putInBag_28 ?_
    rw [nI_1]
    refine va_put (D := (dC, dI)) (ci := 6) (v := .int (nI ((n 4) + 1))) (ty := .int) (C := RX7) (T := TX7) (N := 14) hx hb hts hinX7 tyX7 tyX7_ok nmX7 hown hK hP hD hS 0 rfl rfl 12 (by decide) (hts (.fieldLink RX7 165 "FurPosts" "letterCount" "I") (by decide +kernel)) (fun _ h9 => h9) rfl (by decide +kernel) rfl rfl (Nat.le_of_ble_eq_true rfl) dX7_putInBag_29 (fun H locs hP2 hD2 hS => ?_)
    obtain ⟨n3, hn3, hP, hD⟩ : ∃ n3 : Nat → Nat, n3 = va_up n 4 (((n 4) + 1)) ∧ va_P (dC, dI) vwCl (xo_ h0 q n3 dl ++ va_pl L f) H ∧ va_D A (xo_ h0 q n3 dl ++ va_pl L f) := ⟨_, rfl, hP2, hD2⟩
    have hN : nb_ n3 := by rw [hn3]; exact ⟨hN.1, hN.2.1, hN.2.2.1, hN.2.2.2.1, (show ((n 4) + 1) ≤ 300 by have := nI_linv2 (B := 300) hlt300 rfl (by omega); omega)⟩
    refine lv_aload_n hx hb dX7_putInBag_32 rfl (lv_at hl 0 rfl) ?_
    refine va_get (D := (dC, dI)) (ci := 6) (v := .int (nI (n3 4))) (C := RX7) (T := TX7) (N := 14) hx hb hts hinX7 hown hK hP 0 rfl rfl 12 (by decide) (hts (.fieldLink RX7 165 "FurPosts" "letterCount" "I") (by decide +kernel)) (fun _ h9 => h9) rfl dX7_putInBag_33 ?_
    refine lv_iconst (v := 1) hx hb dX7_putInBag_36 (by decide) ?_
    refine lv_isub hx hb dX7_putInBag_37 ?_
    refine lv_topi (fun v4 _ => ?_)
    exact W.iret (v := v4) hx hb hr (fun t ht hW => ⟨⟨v4, (f, n3, dl), rfl, ⟨trivial, hD, hT, ⟨hN, by rw [hn3]; rfl, by rw [hn3]; rfl⟩⟩, by show va_P (dC, dI) vwCl _ t.heap; rw [ht]; exact hP⟩, hS.F ht⟩) hS.2.2 dX7_putInBag_38
  · skip
    refine lv_iconst (v := (-1)) hx hb dX7_putInBag_10 (by decide) ?_
    exact W.iret (v := (-1)) hx hb hr (fun t ht hW => ⟨⟨(-1), (f, n, dl), rfl, ⟨trivial, hD, hT, ⟨hN, rfl, rfl⟩⟩, by show va_P (dC, dI) vwCl _ t.heap; rw [ht]; exact hP⟩, hS.F ht⟩) hS.2.2 dX7_putInBag_11

set_option maxHeartbeats 4000000 in
set_option maxRecDepth 100000 in
theorem a_X7_order (l : Launch) (dC : Nat → ClassId) (dI : Nat → Nat → Nat) (h0 : Nat) (q n : Nat → Nat) (dl : Int32) (cI : ClassId) (cy : Nat → ClassId) (L : List Nat) (t : Nat → Nat) (f : Nat → va_E) (hT : ty_ cI cy L t f) (hQ : qs_ q t) (hN : nb_ n) (A : Nat → Prop) (hD : va_D A (xo_ h0 q n dl ++ va_pl L f)) (a1 : Int32) (a2 : Int32) (a3 : Int32) (a4 : Int32) : Met l yX7_order wsX7_order ({ frames := 3, cells := 1, slots := 6, locals := 65 }) (va_Pc [.ref h0, .int a1, .int a2, .int a3, .int a4] (fun U => pt_P (dC, dI) vwCl (tt_ cI cy) (xo_ h0 q n dl ++ va_pl L f) U ∧ ∀ a, U.heap.size ≤ a → A a)) (va_Qi (fun r (u : List Nat × (Nat → Nat) × (Nat → va_E) × (Nat → Nat) × Int32) => True ∧ va_D A (xo_ h0 q u.2.2.2.1 u.2.2.2.2 ++ va_pl u.1 u.2.2.1) ∧ ty_ cI cy u.1 u.2.1 u.2.2.1 ∧ qs_ q u.2.1 ∧ nb_ u.2.2.2.1 ∧ (u.2.2.2.1 0 = n 0 ∧ u.2.2.2.1 1 = n 1)) (fun u s' => va_P (dC, dI) vwCl (xo_ h0 q u.2.2.2.1 u.2.2.2.2 ++ va_pl u.1 u.2.2.1) s'.heap) A) 1 6 A := by
  refine Met.ofW (cc := cX7_order) (maxL := 5) (ret := (some .int)) (by decide) rfl ?_
  intro p e s m args below meth c s₁ B hml hv
  obtain ⟨rfl, ⟨hP, hK, hW0⟩, hA⟩ := hv
  have hx := B.exec
  have hb := B.bytes
  have hr := B.returns
  have hts := atoms_spec (ws := wsX7_order) B.pre
  have hown : s.vm.findClass RX7 = some m.cls := findClass_of_methodNamed B.named
  have hlocks := B.notSynchronized
  have hinX3 : ∀ w ∈ u_ws RX3 TX3 6, w ∈ wsX7_order := by decide +kernel
  have hS : va_S A s.heap s.heap [] := va_S.rf
  have hl := lv_entry ([.ref h0, .int a1, .int a2, .int a3, .int a4]) (n := 5) (Nat.le_of_ble_eq_true rfl)
  rw [lg_entry_eq]
  generalize (lg_sl ([.ref h0, .int a1, .int a2, .int a3, .int a4]) ++ List.replicate (5 - (lg_sl ([.ref h0, .int a1, .int a2, .int a3, .int a4])).length) Slot.unset).toArray = ls at hl ⊢
  have hl : lv_has ls 5 [(0, .ref h0), (1, .int a1), (2, .int a2), (3, .int a3), (4, .int a4)] := hl
  obtain ⟨H, hH, hP, hS⟩ : ∃ H, H = s.heap ∧ va_P (dC, dI) vwCl (xo_ h0 q n dl ++ va_pl L f) H ∧ va_S A s.heap H [] := ⟨_, rfl, hP, hS⟩
  rw [← hH]
  generalize ([] : List Loc) = locs at hS ⊢
  refine lv_aload_n hx hb dX7_order_0 rfl (lv_at hl 0 rfl) ?_
  refine lv_iload_n hx hb dX7_order_1 rfl (lv_at hl 1 rfl) ?_
  refine lv_iload_n hx hb dX7_order_2 rfl (lv_at hl 2 rfl) ?_
  refine pg_call (va_runV (As := [.int a1, .int a2]) (rest := []) ⟨hx, hb, hml, hown, hts⟩ (k_X7_canWrite l dC dI h0 q n dl cI cy L t f hT hQ hN a1 a2) (cwV 2 hts gX7_order_X7_canWrite rfl rfl rfl (by decide +kernel) ⟨Nat.le_of_ble_eq_true rfl, Nat.le_of_ble_eq_true rfl⟩) (pt_pre hP hK hW0 (ci := 6) (q0 := 0) rfl rfl) rfl rfl hl.1 rfl (lv_room (Nat.le_of_ble_eq_true rfl)) dX7_order_3 ⟨Nat.le_of_ble_eq_true rfl, Nat.le_of_ble_eq_true rfl⟩) (fun w1 hw1 => ?_)
  obtain ⟨r1, rfl, hg1⟩ := hw1
  refine lv_if_eq (tgt := 27) hx hb dX7_order_6 (by decide) (fun h_2 => ?_) (fun h_2 => ?_)
  · skip
    refine lv_iconst (v := (-1)) hx hb dX7_order_27 (by decide) ?_
    refine W.widen (k := 1) (n := 6) (Nat.le_of_ble_eq_true rfl) (Nat.le_of_ble_eq_true rfl) ?_
    exact W.iret (v := (-1)) hx hb hr (fun t9 ht hW => ⟨⟨(-1), (L, t, f, n, dl), rfl, ⟨trivial, hD, hT, hQ, hN, ⟨rfl, rfl⟩⟩, by show va_P (dC, dI) vwCl _ t9.heap; rw [ht]; exact hP⟩, hS.F ht⟩) hS.2.2 dX7_order_28
  · skip
    refine lv_iload_n hx hb dX7_order_9 rfl (lv_at hl 3 rfl) ?_
    refine pu_call (va_runS (As := [.int a3]) (rest := []) ⟨hx, hb, hml, hown, hts⟩ (c_X7_isWare l a3) (va_cwS 1 hts gX7_order_X7_isWare rfl rfl rfl (by decide +kernel) ⟨Nat.le_of_ble_eq_true rfl, Nat.le_of_ble_eq_true rfl⟩) pu_preS rfl rfl hl.1 rfl (lv_room (Nat.le_of_ble_eq_true rfl)) dX7_order_10 ⟨Nat.le_of_ble_eq_true rfl, Nat.le_of_ble_eq_true rfl⟩) ?_
    refine lv_if_eq (tgt := 27) hx hb dX7_order_13 (by decide) (fun h_3 => ?_) (fun h_3 => ?_)
    · skip
      refine lv_iconst (v := (-1)) hx hb dX7_order_27 (by decide) ?_
      refine W.widen (k := 1) (n := 6) (Nat.le_of_ble_eq_true rfl) (Nat.le_of_ble_eq_true rfl) ?_
      exact W.iret (v := (-1)) hx hb hr (fun t9 ht hW => ⟨⟨(-1), (L, t, f, n, dl), rfl, ⟨trivial, hD, hT, hQ, hN, ⟨rfl, rfl⟩⟩, by show va_P (dC, dI) vwCl _ t9.heap; rw [ht]; exact hP⟩, hS.F ht⟩) hS.2.2 dX7_order_28
    · skip
      refine lv_iload hx hb dX7_order_16 (lv_at hl 4 rfl) ?_
      refine lv_iconst (v := 1) hx hb dX7_order_18 (by decide) ?_
      refine lv_bipush (v := 100) hx hb dX7_order_19 (by decide) ?_
      refine pu_call (va_runS (As := [.int a4, .int 1, .int 100]) (rest := []) ⟨hx, hb, hml, hown, hts⟩ (c_X7_isWithin l a4 1 100) (va_cwS 3 hts gX7_order_X7_isWithin rfl rfl rfl (by decide +kernel) ⟨Nat.le_of_ble_eq_true rfl, Nat.le_of_ble_eq_true rfl⟩) pu_preS rfl rfl hl.1 rfl (lv_room (Nat.le_of_ble_eq_true rfl)) dX7_order_21 ⟨Nat.le_of_ble_eq_true rfl, Nat.le_of_ble_eq_true rfl⟩) ?_
      refine lv_if_ne (tgt := 29) hx hb dX7_order_24 (by decide) (fun h_4 => ?_) (fun h_4 => ?_)
      · skip
        refine lv_aload_n hx hb dX7_order_29 rfl (lv_at hl 0 rfl) ?_
        refine va_new (ci := 2) (fs := [.int 0, .int 0, .int 0, .int 0, .int 0, .int 0]) (C := RX3) (T := TX3) (N := 6) hx hb hts hinX3 tyX3 tyX3_ok hown (hts (.classLink RX7 227 RX3) (by decide +kernel)) (hts (.instantiable RX3 6) (by decide +kernel)) (hts (.initialized RX3) (by decide +kernel)) hK hP hD hS hA rfl (fun j hj => by
            match j, hj with
            | 0, _ => rfl
            | 1, _ => rfl
            | 2, _ => rfl
            | 3, _ => rfl
            | 4, _ => rfl
            | 5, _ => rfl
            | k + 6, h => omega) (Nat.le_of_ble_eq_true rfl) (Nat.le_of_ble_eq_true rfl) dX7_order_30 (fun a_30 H hP2 hD2 hS => ?_)
        have hf30 := va_pl_fresh2 hD2
        rw [pl_push hf30] at hP2 hD2
        obtain ⟨L, f, hP, hD, hT, hma_30, hfa_30, hta_30⟩ : ∃ (L2 : List Nat) (f2 : Nat → va_E), va_P (dC, dI) vwCl (xo_ h0 q n dl ++ va_pl L2 f2) H ∧ va_D A (xo_ h0 q n dl ++ va_pl L2 f2) ∧ ty_ cI cy L2 t f2 ∧ a_30 ∈ L2 ∧ f2 a_30 = .inr (2, [.int 0, .int 0, .int 0, .int 0, .int 0, .int 0]) ∧ t a_30 = 0 := ⟨_, _, hP2, hD2, ty_pend hT hf30, List.mem_append_right _ (List.mem_singleton.mpr rfl), va_up_self _ _ _, ty_0 hT hf30⟩
        refine W.widen (k := 1) (n := 6) (Nat.le_of_ble_eq_true rfl) (Nat.le_of_ble_eq_true rfl) ?_
        refine lv_dup hx hb dX7_order_33 rfl ?_
        refine lv_iload_n hx hb dX7_order_34 rfl (lv_at hl 1 rfl) ?_
        refine lv_iload_n hx hb dX7_order_35 rfl (lv_at hl 2 rfl) ?_
        refine lv_iload_n hx hb dX7_order_36 rfl (lv_at hl 3 rfl) ?_
        refine lv_iload hx hb dX7_order_37 (lv_at hl 4 rfl) ?_
        obtain ⟨i5, hi5⟩ := va_pl_get (X := xo_ h0 q n dl) (f := f) hma_30
        have hs5 := pl_one hP hi5 hfa_30
        have hAa5 : A a_30 := hD.2 i5 _ hi5
        refine va_callv (va_runI (As := [.int a1, .int a2, .int a3, .int a4]) (rest := [.ref a_30, .ref h0]) ⟨hx, hb, hml, hown, hts⟩ (c_X3_init l dC dI a_30 a1 a2 a3 a4) (cwI 4 hts gX7_order_X3_init rfl rfl rfl (hts (.initialized RX3) (by decide +kernel)) (hts (.methodLink RX7 229 yX3_init) (by decide +kernel)) (hts (.instanceMethod yX3_init) (by decide +kernel)) rfl (by decide +kernel) ⟨Nat.le_of_ble_eq_true rfl, Nat.le_of_ble_eq_true rfl⟩) ⟨pu_blind, fun U hU hW => ⟨rfl, by rw [hU]; exact hs5, va_K.moved hW.alike (hK.sub [] rfl)⟩⟩ rfl rfl hl.1 rfl (lv_room (Nat.le_of_ble_eq_true rfl)) dX7_order_39 ⟨Nat.le_of_ble_eq_true rfl, Nat.le_of_ble_eq_true rfl⟩) hS (fun x _ h => by rw [h]; exact hAa5) (fun x h => by rw [h]; exact hAa5) (fun u st H1 locs ht hvm hw hB hz hk hS => ?_)
        obtain ⟨g5, hB⟩ := hB
        rw [ht] at hB
        have hP3 := pl_call hP hD hma_30 hi5 hk hB
        have hT3 := hT
        generalize H1 = H at hP3 hS ⊢
        have x3 := ext_ hta_30 4
        obtain ⟨t, f, hP, hD, hT, hQ, ky6_0⟩ : ∃ (t2 : Nat → Nat) (f2 : Nat → va_E), va_P (dC, dI) vwCl (xo_ h0 q n dl ++ va_pl L f2) H ∧ va_D A (xo_ h0 q n dl ++ va_pl L f2) ∧ ty_ cI cy L t2 f2 ∧ qs_ q t2 ∧ t2 a_30 = 4 := ⟨va_up t a_30 4, _, hP3, pl_cell hD hma_30 hi5, ty_type hT hma_30 hta_30 ⟨g5, rfl⟩, qs_ext x3 hQ, va_up_self _ _ _⟩
        refine W.widen (k := 1) (n := 6) (Nat.le_of_ble_eq_true rfl) (Nat.le_of_ble_eq_true rfl) ?_
        refine va_calli (va_runV (As := [.ref a_30]) (rest := []) ⟨hx, hb, hml, hown, hts⟩ (m_X7_putInBag l dC dI h0 q n dl cI cy L t f hT hQ hN A hD a_30 (Or.inl ky6_0)) (cwV 1 hts gX7_order_X7_putInBag rfl rfl rfl (by decide +kernel) ⟨Nat.le_of_ble_eq_true rfl, Nat.le_of_ble_eq_true rfl⟩) (pt_pre hP hK hW0 (ci := 6) (q0 := 0) rfl rfl) rfl rfl hl.1 rfl (lv_room (Nat.le_of_ble_eq_true rfl)) dX7_order_42 ⟨Nat.le_of_ble_eq_true rfl, Nat.le_of_ble_eq_true rfl⟩) hS (fun _ _ h => h) (fun _ h => h) (fun r7 u7 st7 H1 locs ht7 hvm7 hw7 hB7 hz7 hk7 hS => ?_)
        obtain ⟨f7, n7, d7⟩ := u7
        obtain ⟨-, hD7, hT7, hn7⟩ := hw7
        obtain ⟨f, dl, hP, hD, hT, hN, hrel⟩ : ∃ (f : Nat → va_E) (dl : Int32), va_P (dC, dI) vwCl (xo_ h0 q n7 dl ++ va_pl L f) H1 ∧ va_D A (xo_ h0 q n7 dl ++ va_pl L f) ∧ ty_ cI cy L t f ∧ nb_ n7 ∧ (n7 0 = n 0 ∧ n7 1 = n 1) := ⟨f7, d7, by rw [← ht7]; exact hB7, hD7, hT7, hn7.1, hn7.2⟩
        refine W.widen (k := 1) (n := 6) (Nat.le_of_ble_eq_true rfl) (Nat.le_of_ble_eq_true rfl) ?_
        refine W.widen (k := 1) (n := 6) (Nat.le_of_ble_eq_true rfl) (Nat.le_of_ble_eq_true rfl) ?_
        exact W.iret (v := r7) hx hb hr (fun t9 ht hW => ⟨⟨r7, (L, t, f, n7, dl), rfl, ⟨trivial, hD, hT, hQ, hN, hrel⟩, by show va_P (dC, dI) vwCl _ t9.heap; rw [ht]; exact hP⟩, hS.F ht⟩) hS.2.2 dX7_order_45
      · skip
        refine lv_iconst (v := (-1)) hx hb dX7_order_27 (by decide) ?_
        refine W.widen (k := 1) (n := 6) (Nat.le_of_ble_eq_true rfl) (Nat.le_of_ble_eq_true rfl) ?_
        exact W.iret (v := (-1)) hx hb hr (fun t9 ht hW => ⟨⟨(-1), (L, t, f, n, dl), rfl, ⟨trivial, hD, hT, hQ, hN, ⟨rfl, rfl⟩⟩, by show va_P (dC, dI) vwCl _ t9.heap; rw [ht]; exact hP⟩, hS.F ht⟩) hS.2.2 dX7_order_28

set_option maxHeartbeats 4000000 in
set_option maxRecDepth 100000 in
theorem a_X7_debt (l : Launch) (dC : Nat → ClassId) (dI : Nat → Nat → Nat) (h0 : Nat) (q n : Nat → Nat) (dl : Int32) (cI : ClassId) (cy : Nat → ClassId) (L : List Nat) (t : Nat → Nat) (f : Nat → va_E) (hT : ty_ cI cy L t f) (hQ : qs_ q t) (hN : nb_ n) (A : Nat → Prop) (hD : va_D A (xo_ h0 q n dl ++ va_pl L f)) (a1 : Int32) (a2 : Int32) (a3 : Int32) : Met l yX7_debt wsX7_debt ({ frames := 3, cells := 1, slots := 6, locals := 65 }) (va_Pc [.ref h0, .int a1, .int a2, .int a3] (fun U => pt_P (dC, dI) vwCl (tt_ cI cy) (xo_ h0 q n dl ++ va_pl L f) U ∧ ∀ a, U.heap.size ≤ a → A a)) (va_Qi (fun r (u : List Nat × (Nat → Nat) × (Nat → va_E) × (Nat → Nat) × Int32) => True ∧ va_D A (xo_ h0 q u.2.2.2.1 u.2.2.2.2 ++ va_pl u.1 u.2.2.1) ∧ ty_ cI cy u.1 u.2.1 u.2.2.1 ∧ qs_ q u.2.1 ∧ nb_ u.2.2.2.1 ∧ (u.2.2.2.1 0 = n 0 ∧ u.2.2.2.1 1 = n 1)) (fun u s' => va_P (dC, dI) vwCl (xo_ h0 q u.2.2.2.1 u.2.2.2.2 ++ va_pl u.1 u.2.2.1) s'.heap) A) 1 6 A := by
  refine Met.ofW (cc := cX7_debt) (maxL := 6) (ret := (some .int)) (by decide) rfl ?_
  intro p e s m args below meth c s₁ B hml hv
  obtain ⟨rfl, ⟨hP, hK, hW0⟩, hA⟩ := hv
  have hx := B.exec
  have hb := B.bytes
  have hr := B.returns
  have hts := atoms_spec (ws := wsX7_debt) B.pre
  have hown : s.vm.findClass RX7 = some m.cls := findClass_of_methodNamed B.named
  have hlocks := B.notSynchronized
  have hinX1 : ∀ w ∈ u_ws RX1 TX1 6, w ∈ wsX7_debt := by decide +kernel
  have hinX4 : ∀ w ∈ u_ws RX4 TX4 4, w ∈ wsX7_debt := by decide +kernel
  have hS : va_S A s.heap s.heap [] := va_S.rf
  have hl := lv_entry ([.ref h0, .int a1, .int a2, .int a3]) (n := 6) (Nat.le_of_ble_eq_true rfl)
  rw [lg_entry_eq]
  generalize (lg_sl ([.ref h0, .int a1, .int a2, .int a3]) ++ List.replicate (6 - (lg_sl ([.ref h0, .int a1, .int a2, .int a3])).length) Slot.unset).toArray = ls at hl ⊢
  have hl : lv_has ls 6 [(0, .ref h0), (1, .int a1), (2, .int a2), (3, .int a3)] := hl
  obtain ⟨H, hH, hP, hS⟩ : ∃ H, H = s.heap ∧ va_P (dC, dI) vwCl (xo_ h0 q n dl ++ va_pl L f) H ∧ va_S A s.heap H [] := ⟨_, rfl, hP, hS⟩
  rw [← hH]
  generalize ([] : List Loc) = locs at hS ⊢
  refine lv_aload_n hx hb dX7_debt_0 rfl (lv_at hl 0 rfl) ?_
  refine lv_iload_n hx hb dX7_debt_1 rfl (lv_at hl 1 rfl) ?_
  refine pg_call (va_runV (As := [.int a1]) (rest := []) ⟨hx, hb, hml, hown, hts⟩ (k_X7_postAt l dC dI h0 q n dl cI cy L t f hT hQ hN a1) (cwV 1 hts gX7_debt_X7_postAt rfl rfl rfl (by decide +kernel) ⟨Nat.le_of_ble_eq_true rfl, Nat.le_of_ble_eq_true rfl⟩) (pt_pre hP hK hW0 (ci := 6) (q0 := 0) rfl rfl) rfl rfl hl.1 rfl (lv_room (Nat.le_of_ble_eq_true rfl)) dX7_debt_2 ⟨Nat.le_of_ble_eq_true rfl, Nat.le_of_ble_eq_true rfl⟩) (fun w1 hw1 => ?_)
  obtain ⟨o1, rfl, hg1⟩ := hw1
  cases o1 with
  | none =>
    refine lv_astoreN (lv' := [(4, .null), (0, .ref h0), (1, .int a1), (2, .int a2), (3, .int a3)]) hx hb dX7_debt_5 hl (by decide) rfl (fun ls hl => ?_)
    refine lv_aloadN hx hb dX7_debt_7 (lv_at hl 0 rfl) ?_
    refine lv_ifnullN (tgt := 38) hx hb dX7_debt_9 (by decide) ?_
    refine lv_iconst (v := (-1)) hx hb dX7_debt_38 (by decide) ?_
    refine W.widen (k := 1) (n := 6) (Nat.le_of_ble_eq_true rfl) (Nat.le_of_ble_eq_true rfl) ?_
    exact W.iret (v := (-1)) hx hb hr (fun t9 ht hW => ⟨⟨(-1), (L, t, f, n, dl), rfl, ⟨trivial, hD, hT, hQ, hN, ⟨rfl, rfl⟩⟩, by show va_P (dC, dI) vwCl _ t9.heap; rw [ht]; exact hP⟩, hS.F ht⟩) hS.2.2 dX7_debt_39
  | some b1 =>
    have hk1 := hg1 b1 rfl
    refine lv_astore (lv' := [(4, .ref b1), (0, .ref h0), (1, .int a1), (2, .int a2), (3, .int a3)]) hx hb dX7_debt_5 hl (by decide) rfl (fun ls hl => ?_)
    refine lv_aload hx hb dX7_debt_7 (lv_at hl 0 rfl) ?_
    refine lv_ifnull hx hb dX7_debt_9 ?_
    refine lv_aload_n hx hb dX7_debt_12 rfl (lv_at hl 1 rfl) ?_
    refine lv_iload_n hx hb dX7_debt_13 rfl (lv_at hl 2 rfl) ?_
    refine lv_iload_n hx hb dX7_debt_14 rfl (lv_at hl 3 rfl) ?_
    refine pg_call (va_runV (As := [.int a1, .int a2]) (rest := []) ⟨hx, hb, hml, hown, hts⟩ (k_X7_canWrite l dC dI h0 q n dl cI cy L t f hT hQ hN a1 a2) (cwV 2 hts gX7_debt_X7_canWrite rfl rfl rfl (by decide +kernel) ⟨Nat.le_of_ble_eq_true rfl, Nat.le_of_ble_eq_true rfl⟩) (pt_pre hP hK hW0 (ci := 6) (q0 := 0) rfl rfl) rfl rfl hl.1 rfl (lv_room (Nat.le_of_ble_eq_true rfl)) dX7_debt_15 ⟨Nat.le_of_ble_eq_true rfl, Nat.le_of_ble_eq_true rfl⟩) (fun w2 hw2 => ?_)
    obtain ⟨r2, rfl, hg2⟩ := hw2
    refine lv_if_eq (tgt := 38) hx hb dX7_debt_18 (by decide) (fun h_3 => ?_) (fun h_3 => ?_)
    · skip
      refine lv_iconst (v := (-1)) hx hb dX7_debt_38 (by decide) ?_
      refine W.widen (k := 1) (n := 6) (Nat.le_of_ble_eq_true rfl) (Nat.le_of_ble_eq_true rfl) ?_
      exact W.iret (v := (-1)) hx hb hr (fun t9 ht hW => ⟨⟨(-1), (L, t, f, n, dl), rfl, ⟨trivial, hD, hT, hQ, hN, ⟨rfl, rfl⟩⟩, by show va_P (dC, dI) vwCl _ t9.heap; rw [ht]; exact hP⟩, hS.F ht⟩) hS.2.2 dX7_debt_39
    · skip
      refine lv_iload_n hx hb dX7_debt_21 rfl (lv_at hl 4 rfl) ?_
      refine pu_call (va_runS (As := [.int a3]) (rest := []) ⟨hx, hb, hml, hown, hts⟩ (c_X7_isHunter l a3) (va_cwS 1 hts gX7_debt_X7_isHunter rfl rfl rfl (by decide +kernel) ⟨Nat.le_of_ble_eq_true rfl, Nat.le_of_ble_eq_true rfl⟩) pu_preS rfl rfl hl.1 rfl (lv_room (Nat.le_of_ble_eq_true rfl)) dX7_debt_22 ⟨Nat.le_of_ble_eq_true rfl, Nat.le_of_ble_eq_true rfl⟩) ?_
      refine lv_if_eq (tgt := 38) hx hb dX7_debt_25 (by decide) (fun h_4 => ?_) (fun h_4 => ?_)
      · skip
        refine lv_iconst (v := (-1)) hx hb dX7_debt_38 (by decide) ?_
        refine W.widen (k := 1) (n := 6) (Nat.le_of_ble_eq_true rfl) (Nat.le_of_ble_eq_true rfl) ?_
        exact W.iret (v := (-1)) hx hb hr (fun t9 ht hW => ⟨⟨(-1), (L, t, f, n, dl), rfl, ⟨trivial, hD, hT, hQ, hN, ⟨rfl, rfl⟩⟩, by show va_P (dC, dI) vwCl _ t9.heap; rw [ht]; exact hP⟩, hS.F ht⟩) hS.2.2 dX7_debt_39
      · skip
        refine lv_aload hx hb dX7_debt_28 (lv_at hl 0 rfl) ?_
        obtain ⟨hm5, i5, s5, p5, o5, r5, hi5, he5, k5_0, k5_1, k5_2, k5_3⟩ := at_1 (xo_ h0 q n dl) hT hk1.1
        refine va_get (D := (dC, dI)) (ci := 3) (v := .ref o5) (C := RX4) (T := TX4) (N := 4) hx hb hts hinX4 hown hK hP i5 he5 rfl 2 (by decide) (hts (.fieldLink RX7 214 "FurPosts$Post" "owed" "[I") (by decide +kernel)) (fun _ h9 => h9) rfl dX7_debt_30 ?_
        refine lv_iload_n hx hb dX7_debt_33 rfl (lv_at hl 4 rfl) ?_
        obtain ⟨hm6, i6, g6, hi6, he6⟩ := at_17 (xo_ h0 q n dl) hT k5_2
        refine va_iald hx hb hK hP i6 0 he6 rfl (i := a3) (sp_vp h_4 rfl) dX7_debt_34 ?_
        refine lv_topi (fun v7 _ => ?_)
        refine lv_if_ne (tgt := 40) hx hb dX7_debt_35 (by decide) (fun h_8 => ?_) (fun h_8 => ?_)
        · skip
          refine lv_aload hx hb dX7_debt_40 (lv_at hl 0 rfl) ?_
          refine va_get (D := (dC, dI)) (ci := 3) (v := .ref o5) (C := RX4) (T := TX4) (N := 4) hx hb hts hinX4 hown hK hP i5 he5 rfl 2 (by decide) (hts (.fieldLink RX7 214 "FurPosts$Post" "owed" "[I") (by decide +kernel)) (fun _ h9 => h9) rfl dX7_debt_42 ?_
          refine lv_iload_n hx hb dX7_debt_45 rfl (lv_at hl 4 rfl) ?_
          refine va_iald hx hb hK hP i6 0 he6 rfl (i := a3) (sp_vp h_4 rfl) dX7_debt_46 ?_
          refine lv_topi (fun v9 _ => ?_)
          refine lv_istore (lv' := [(5, .int v9), (4, .ref b1), (0, .ref h0), (1, .int a1), (2, .int a2), (3, .int a3)]) hx hb dX7_debt_47 hl (by decide) rfl (fun ls hl => ?_)
          refine lv_aload hx hb dX7_debt_49 (lv_at hl 1 rfl) ?_
          refine va_get (D := (dC, dI)) (ci := 3) (v := .ref o5) (C := RX4) (T := TX4) (N := 4) hx hb hts hinX4 hown hK hP i5 he5 rfl 2 (by decide) (hts (.fieldLink RX7 214 "FurPosts$Post" "owed" "[I") (by decide +kernel)) (fun _ h9 => h9) rfl dX7_debt_51 ?_
          refine lv_iload_n hx hb dX7_debt_54 rfl (lv_at hl 5 rfl) ?_
          refine lv_iconst (v := 0) hx hb dX7_debt_55 (by decide) ?_
          refine va_iast hx hb hK hP hD hS i6 0 he6 rfl (i := a3) (sp_vp h_4 rfl) dX7_debt_56 (fun H locs hP2 hD2 hS => ?_)
          rw [va_pl_set hD hm6 hi6] at hP2 hD2
          obtain ⟨f, hP, hD, hT⟩ : ∃ f, va_P (dC, dI) vwCl (xo_ h0 q n dl ++ va_pl L f) H ∧ va_D A (xo_ h0 q n dl ++ va_pl L f) ∧ ty_ cI cy L t f := ⟨_, hP2, hD2, ty_set hT k5_2 ⟨_, rfl⟩⟩
          refine lv_aload_n hx hb dX7_debt_57 rfl (lv_at hl 2 rfl) ?_
          refine va_new (ci := 1) (fs := [.int 0, .int 0, .int 0, .int 0, .int 0, .int 0]) (C := RX1) (T := TX1) (N := 6) hx hb hts hinX1 tyX1 tyX1_ok hown (hts (.classLink RX7 188 RX1) (by decide +kernel)) (hts (.instantiable RX1 6) (by decide +kernel)) (hts (.initialized RX1) (by decide +kernel)) hK hP hD hS hA rfl (fun j hj => by
              match j, hj with
              | 0, _ => rfl
              | 1, _ => rfl
              | 2, _ => rfl
              | 3, _ => rfl
              | 4, _ => rfl
              | 5, _ => rfl
              | k + 6, h => omega) (Nat.le_of_ble_eq_true rfl) (Nat.le_of_ble_eq_true rfl) dX7_debt_58 (fun a_58 H hP2 hD2 hS => ?_)
          have hf58 := va_pl_fresh2 hD2
          rw [pl_push hf58] at hP2 hD2
          obtain ⟨L, f, hP, hD, hT, hma_58, hfa_58, hta_58⟩ : ∃ (L2 : List Nat) (f2 : Nat → va_E), va_P (dC, dI) vwCl (xo_ h0 q n dl ++ va_pl L2 f2) H ∧ va_D A (xo_ h0 q n dl ++ va_pl L2 f2) ∧ ty_ cI cy L2 t f2 ∧ a_58 ∈ L2 ∧ f2 a_58 = .inr (1, [.int 0, .int 0, .int 0, .int 0, .int 0, .int 0]) ∧ t a_58 = 0 := ⟨_, _, hP2, hD2, ty_pend hT hf58, List.mem_append_right _ (List.mem_singleton.mpr rfl), va_up_self _ _ _, ty_0 hT hf58⟩
          refine W.widen (k := 1) (n := 6) (Nat.le_of_ble_eq_true rfl) (Nat.le_of_ble_eq_true rfl) ?_
          refine lv_dup hx hb dX7_debt_61 rfl ?_
          refine lv_iload_n hx hb dX7_debt_62 rfl (lv_at hl 3 rfl) ?_
          refine lv_iload_n hx hb dX7_debt_63 rfl (lv_at hl 4 rfl) ?_
          refine lv_iload_n hx hb dX7_debt_64 rfl (lv_at hl 5 rfl) ?_
          refine lv_iload hx hb dX7_debt_65 (lv_at hl 0 rfl) ?_
          obtain ⟨i10, hi10⟩ := va_pl_get (X := xo_ h0 q n dl) (f := f) hma_58
          have hs10 := pl_one hP hi10 hfa_58
          have hAa10 : A a_58 := hD.2 i10 _ hi10
          refine va_callv (va_runI (As := [.int a1, .int a2, .int a3, .int v9]) (rest := [.ref a_58, .ref h0]) ⟨hx, hb, hml, hown, hts⟩ (c_X1_init l dC dI a_58 a1 a2 a3 v9) (cwI 4 hts gX7_debt_X1_init rfl rfl rfl (hts (.initialized RX1) (by decide +kernel)) (hts (.methodLink RX7 236 yX1_init) (by decide +kernel)) (hts (.instanceMethod yX1_init) (by decide +kernel)) rfl (by decide +kernel) ⟨Nat.le_of_ble_eq_true rfl, Nat.le_of_ble_eq_true rfl⟩) ⟨pu_blind, fun U hU hW => ⟨rfl, by rw [hU]; exact hs10, va_K.moved hW.alike (hK.sub [] rfl)⟩⟩ rfl rfl hl.1 rfl (lv_room (Nat.le_of_ble_eq_true rfl)) dX7_debt_67 ⟨Nat.le_of_ble_eq_true rfl, Nat.le_of_ble_eq_true rfl⟩) hS (fun x _ h => by rw [h]; exact hAa10) (fun x h => by rw [h]; exact hAa10) (fun u st H1 locs ht hvm hw hB hz hk hS => ?_)
          obtain ⟨g10, hB⟩ := hB
          rw [ht] at hB
          have hP3 := pl_call hP hD hma_58 hi10 hk hB
          have hT3 := hT
          generalize H1 = H at hP3 hS ⊢
          have x3 := ext_ hta_58 5
          obtain ⟨t, f, hP, hD, hT, hQ, ky11_0, ky11_1⟩ : ∃ (t2 : Nat → Nat) (f2 : Nat → va_E), va_P (dC, dI) vwCl (xo_ h0 q n dl ++ va_pl L f2) H ∧ va_D A (xo_ h0 q n dl ++ va_pl L f2) ∧ ty_ cI cy L t2 f2 ∧ qs_ q t2 ∧ t2 a_58 = 5 ∧ t2 b1 = 1 := ⟨va_up t a_58 5, _, hP3, pl_cell hD hma_58 hi10, ty_type hT hma_58 hta_58 ⟨g10, rfl⟩, qs_ext x3 hQ, va_up_self _ _ _, kd_m x3 hk1.1⟩
          refine W.widen (k := 1) (n := 6) (Nat.le_of_ble_eq_true rfl) (Nat.le_of_ble_eq_true rfl) ?_
          refine va_calli (va_runV (As := [.ref a_58]) (rest := []) ⟨hx, hb, hml, hown, hts⟩ (m_X7_putInBag l dC dI h0 q n dl cI cy L t f hT hQ hN A hD a_58 (Or.inr (Or.inl ky11_0))) (cwV 1 hts gX7_debt_X7_putInBag rfl rfl rfl (by decide +kernel) ⟨Nat.le_of_ble_eq_true rfl, Nat.le_of_ble_eq_true rfl⟩) (pt_pre hP hK hW0 (ci := 6) (q0 := 0) rfl rfl) rfl rfl hl.1 rfl (lv_room (Nat.le_of_ble_eq_true rfl)) dX7_debt_70 ⟨Nat.le_of_ble_eq_true rfl, Nat.le_of_ble_eq_true rfl⟩) hS (fun _ _ h => h) (fun _ h => h) (fun r12 u12 st12 H1 locs ht12 hvm12 hw12 hB12 hz12 hk12 hS => ?_)
          obtain ⟨f12, n12, d12⟩ := u12
          obtain ⟨-, hD12, hT12, hn12⟩ := hw12
          obtain ⟨f, dl, hP, hD, hT, hN, hrel⟩ : ∃ (f : Nat → va_E) (dl : Int32), va_P (dC, dI) vwCl (xo_ h0 q n12 dl ++ va_pl L f) H1 ∧ va_D A (xo_ h0 q n12 dl ++ va_pl L f) ∧ ty_ cI cy L t f ∧ nb_ n12 ∧ (n12 0 = n 0 ∧ n12 1 = n 1) := ⟨f12, d12, by rw [← ht12]; exact hB12, hD12, hT12, hn12.1, hn12.2⟩
          refine W.widen (k := 1) (n := 6) (Nat.le_of_ble_eq_true rfl) (Nat.le_of_ble_eq_true rfl) ?_
          refine lv_pop hx hb dX7_debt_73 rfl ?_
          refine lv_iload hx hb dX7_debt_74 (lv_at hl 0 rfl) ?_
          refine W.widen (k := 1) (n := 6) (Nat.le_of_ble_eq_true rfl) (Nat.le_of_ble_eq_true rfl) ?_
          exact W.iret (v := v9) hx hb hr (fun t9 ht hW => ⟨⟨v9, (L, t, f, n12, dl), rfl, ⟨trivial, hD, hT, hQ, hN, hrel⟩, by show va_P (dC, dI) vwCl _ t9.heap; rw [ht]; exact hP⟩, hS.F ht⟩) hS.2.2 dX7_debt_76
        · skip
          refine lv_iconst (v := (-1)) hx hb dX7_debt_38 (by decide) ?_
          refine W.widen (k := 1) (n := 6) (Nat.le_of_ble_eq_true rfl) (Nat.le_of_ble_eq_true rfl) ?_
          exact W.iret (v := (-1)) hx hb hr (fun t9 ht hW => ⟨⟨(-1), (L, t, f, n, dl), rfl, ⟨trivial, hD, hT, hQ, hN, ⟨rfl, rfl⟩⟩, by show va_P (dC, dI) vwCl _ t9.heap; rw [ht]; exact hP⟩, hS.F ht⟩) hS.2.2 dX7_debt_39

set_option maxHeartbeats 4000000 in
set_option maxRecDepth 100000 in
theorem a_X7_report (l : Launch) (dC : Nat → ClassId) (dI : Nat → Nat → Nat) (h0 : Nat) (q n : Nat → Nat) (dl : Int32) (cI : ClassId) (cy : Nat → ClassId) (L : List Nat) (t : Nat → Nat) (f : Nat → va_E) (hT : ty_ cI cy L t f) (hQ : qs_ q t) (hN : nb_ n) (A : Nat → Prop) (hD : va_D A (xo_ h0 q n dl ++ va_pl L f)) (a1 : Int32) (a2 : Int32) : Met l yX7_report wsX7_report ({ frames := 3, cells := 2, slots := 12, locals := 65 }) (va_Pc [.ref h0, .int a1, .int a2] (fun U => pt_P (dC, dI) vwCl (tt_ cI cy) (xo_ h0 q n dl ++ va_pl L f) U ∧ ∀ a, U.heap.size ≤ a → A a)) (va_Qi (fun r (u : List Nat × (Nat → Nat) × (Nat → va_E) × (Nat → Nat) × Int32) => True ∧ va_D A (xo_ h0 q u.2.2.2.1 u.2.2.2.2 ++ va_pl u.1 u.2.2.1) ∧ ty_ cI cy u.1 u.2.1 u.2.2.1 ∧ qs_ q u.2.1 ∧ nb_ u.2.2.2.1 ∧ (u.2.2.2.1 0 = n 0 ∧ u.2.2.2.1 1 = n 1)) (fun u s' => va_P (dC, dI) vwCl (xo_ h0 q u.2.2.2.1 u.2.2.2.2 ++ va_pl u.1 u.2.2.1) s'.heap) A) 2 12 A := by
  refine Met.ofW (cc := cX7_report) (maxL := 4) (ret := (some .int)) (by decide) rfl ?_
  intro p e s m args below meth c s₁ B hml hv
  obtain ⟨rfl, ⟨hP, hK, hW0⟩, hA⟩ := hv
  have hx := B.exec
  have hb := B.bytes
  have hr := B.returns
  have hts := atoms_spec (ws := wsX7_report) B.pre
  have hown : s.vm.findClass RX7 = some m.cls := findClass_of_methodNamed B.named
  have hlocks := B.notSynchronized
  have hinX4 : ∀ w ∈ u_ws RX4 TX4 4, w ∈ wsX7_report := by decide +kernel
  have hinX5 : ∀ w ∈ u_ws RX5 TX5 6, w ∈ wsX7_report := by decide +kernel
  have hinX7 : ∀ w ∈ u_ws RX7 TX7 14, w ∈ wsX7_report := by decide +kernel
  have hS : va_S A s.heap s.heap [] := va_S.rf
  have hl := lv_entry ([.ref h0, .int a1, .int a2]) (n := 4) (Nat.le_of_ble_eq_true rfl)
  rw [lg_entry_eq]
  generalize (lg_sl ([.ref h0, .int a1, .int a2]) ++ List.replicate (4 - (lg_sl ([.ref h0, .int a1, .int a2])).length) Slot.unset).toArray = ls at hl ⊢
  have hl : lv_has ls 4 [(0, .ref h0), (1, .int a1), (2, .int a2)] := hl
  obtain ⟨H, hH, hP, hS⟩ : ∃ H, H = s.heap ∧ va_P (dC, dI) vwCl (xo_ h0 q n dl ++ va_pl L f) H ∧ va_S A s.heap H [] := ⟨_, rfl, hP, hS⟩
  rw [← hH]
  generalize ([] : List Loc) = locs at hS ⊢
  refine lv_aload_n hx hb dX7_report_0 rfl (lv_at hl 0 rfl) ?_
  refine lv_iload_n hx hb dX7_report_1 rfl (lv_at hl 1 rfl) ?_
  refine pg_call (va_runV (As := [.int a1]) (rest := []) ⟨hx, hb, hml, hown, hts⟩ (k_X7_postAt l dC dI h0 q n dl cI cy L t f hT hQ hN a1) (cwV 1 hts gX7_report_X7_postAt rfl rfl rfl (by decide +kernel) ⟨Nat.le_of_ble_eq_true rfl, Nat.le_of_ble_eq_true rfl⟩) (pt_pre hP hK hW0 (ci := 6) (q0 := 0) rfl rfl) rfl rfl hl.1 rfl (lv_room (Nat.le_of_ble_eq_true rfl)) dX7_report_2 ⟨Nat.le_of_ble_eq_true rfl, Nat.le_of_ble_eq_true rfl⟩) (fun w1 hw1 => ?_)
  obtain ⟨o1, rfl, hg1⟩ := hw1
  cases o1 with
  | none =>
    refine lv_astore_nN (lv' := [(3, .null), (0, .ref h0), (1, .int a1), (2, .int a2)]) hx hb dX7_report_5 rfl hl (by decide) rfl (fun ls hl => ?_)
    refine lv_aload_nN hx hb dX7_report_6 rfl (lv_at hl 0 rfl) ?_
    refine lv_ifnullN (tgt := 19) hx hb dX7_report_7 (by decide) ?_
    refine lv_iconst (v := (-1)) hx hb dX7_report_19 (by decide) ?_
    refine W.widen (k := 2) (n := 12) (Nat.le_of_ble_eq_true rfl) (Nat.le_of_ble_eq_true rfl) ?_
    exact W.iret (v := (-1)) hx hb hr (fun t9 ht hW => ⟨⟨(-1), (L, t, f, n, dl), rfl, ⟨trivial, hD, hT, hQ, hN, ⟨rfl, rfl⟩⟩, by show va_P (dC, dI) vwCl _ t9.heap; rw [ht]; exact hP⟩, hS.F ht⟩) hS.2.2 dX7_report_20
  | some b1 =>
    have hk1 := hg1 b1 rfl
    refine lv_astore_n (lv' := [(3, .ref b1), (0, .ref h0), (1, .int a1), (2, .int a2)]) hx hb dX7_report_5 rfl hl (by decide) rfl (fun ls hl => ?_)
    refine lv_aload_n hx hb dX7_report_6 rfl (lv_at hl 0 rfl) ?_
    refine lv_ifnull hx hb dX7_report_7 ?_
    refine lv_aload_n hx hb dX7_report_10 rfl (lv_at hl 1 rfl) ?_
    refine lv_iload_n hx hb dX7_report_11 rfl (lv_at hl 2 rfl) ?_
    refine lv_iload_n hx hb dX7_report_12 rfl (lv_at hl 3 rfl) ?_
    refine pg_call (va_runV (As := [.int a1, .int a2]) (rest := []) ⟨hx, hb, hml, hown, hts⟩ (k_X7_canWrite l dC dI h0 q n dl cI cy L t f hT hQ hN a1 a2) (cwV 2 hts gX7_report_X7_canWrite rfl rfl rfl (by decide +kernel) ⟨Nat.le_of_ble_eq_true rfl, Nat.le_of_ble_eq_true rfl⟩) (pt_pre hP hK hW0 (ci := 6) (q0 := 0) rfl rfl) rfl rfl hl.1 rfl (lv_room (Nat.le_of_ble_eq_true rfl)) dX7_report_13 ⟨Nat.le_of_ble_eq_true rfl, Nat.le_of_ble_eq_true rfl⟩) (fun w2 hw2 => ?_)
    obtain ⟨r2, rfl, hg2⟩ := hw2
    refine lv_if_ne (tgt := 21) hx hb dX7_report_16 (by decide) (fun h_3 => ?_) (fun h_3 => ?_)
    · skip
      refine lv_aload_n hx hb dX7_report_21 rfl (lv_at hl 1 rfl) ?_
      refine va_new (ci := 4) (fs := [.int 0, .int 0, .int 0, .int 0, .int 0, .null]) (C := RX5) (T := TX5) (N := 6) hx hb hts hinX5 tyX5 tyX5_ok hown (hts (.classLink RX7 237 RX5) (by decide +kernel)) (hts (.instantiable RX5 6) (by decide +kernel)) (hts (.initialized RX5) (by decide +kernel)) hK hP hD hS hA rfl (fun j hj => by
          match j, hj with
          | 0, _ => rfl
          | 1, _ => rfl
          | 2, _ => rfl
          | 3, _ => rfl
          | 4, _ => rfl
          | 5, _ => rfl
          | k + 6, h => omega) (Nat.le_of_ble_eq_true rfl) (Nat.le_of_ble_eq_true rfl) dX7_report_22 (fun a_22 H hP2 hD2 hS => ?_)
      have hf22 := va_pl_fresh2 hD2
      rw [pl_push hf22] at hP2 hD2
      obtain ⟨L, f, hP, hD, hT, hma_22, hfa_22, hta_22⟩ : ∃ (L2 : List Nat) (f2 : Nat → va_E), va_P (dC, dI) vwCl (xo_ h0 q n dl ++ va_pl L2 f2) H ∧ va_D A (xo_ h0 q n dl ++ va_pl L2 f2) ∧ ty_ cI cy L2 t f2 ∧ a_22 ∈ L2 ∧ f2 a_22 = .inr (4, [.int 0, .int 0, .int 0, .int 0, .int 0, .null]) ∧ t a_22 = 0 := ⟨_, _, hP2, hD2, ty_pend hT hf22, List.mem_append_right _ (List.mem_singleton.mpr rfl), va_up_self _ _ _, ty_0 hT hf22⟩
      refine W.widen (k := 1) (n := 6) (Nat.le_of_ble_eq_true rfl) (Nat.le_of_ble_eq_true rfl) ?_
      refine lv_dup hx hb dX7_report_25 rfl ?_
      refine lv_iload_n hx hb dX7_report_26 rfl (lv_at hl 2 rfl) ?_
      refine lv_iload_n hx hb dX7_report_27 rfl (lv_at hl 3 rfl) ?_
      refine lv_aload_n hx hb dX7_report_28 rfl (lv_at hl 1 rfl) ?_
      refine va_get (D := (dC, dI)) (ci := 6) (v := .int (nI (n 0))) (C := RX7) (T := TX7) (N := 14) hx hb hts hinX7 hown hK hP 0 rfl rfl 8 (by decide) (hts (.fieldLink RX7 103 "FurPosts" "now" "I") (by decide +kernel)) (fun _ h9 => h9) rfl dX7_report_29 ?_
      refine lv_aload_n hx hb dX7_report_32 rfl (lv_at hl 0 rfl) ?_
      obtain ⟨hm4, i4, s4, p4, o4, r4, hi4, he4, k4_0, k4_1, k4_2, k4_3⟩ := at_1 (xo_ h0 q n dl) hT hk1.1
      refine va_get (D := (dC, dI)) (ci := 3) (v := .ref s4) (C := RX4) (T := TX4) (N := 4) hx hb hts hinX4 hown hK hP i4 he4 rfl 0 (by decide) (hts (.fieldLink RX7 92 "FurPosts$Post" "stock" "[I") (by decide +kernel)) (fun _ h9 => h9) rfl dX7_report_33 ?_
      obtain ⟨hm5, i5, g5, hi5, he5⟩ := at_15 (xo_ h0 q n dl) hT k4_0
      refine va_clone hx hb (hml.trans hl.1.symm) hown (hts (.methodLink RX7 123 ⟨"[I", "clone", "()Ljava/lang/Object;"⟩) (by decide +kernel)) (hts (.sameMethod "[I" "java/lang/Object" "clone" "()Ljava/lang/Object;") (by decide +kernel)) (hts (.native ⟨"java/lang/Object", "clone", "()Ljava/lang/Object;"⟩) (by decide +kernel)) (hts (.instanceMethod ⟨"java/lang/Object", "clone", "()Ljava/lang/Object;"⟩) (by decide +kernel)) (hts (.selects "[I" ⟨"[I", "clone", "()Ljava/lang/Object;"⟩ ⟨"java/lang/Object", "clone", "()Ljava/lang/Object;"⟩) (by decide +kernel)) (nw_cl hW0) hK hP hD hS hA i5 0 he5 rfl (va_nm_int (hK.2 0 _ rfl).2) (va_fit (fun _ _ => rfl)) (Nat.le_of_ble_eq_true rfl) (Nat.le_of_ble_eq_true rfl) (Nat.le_of_ble_eq_true rfl) (Nat.le_of_ble_eq_true rfl) dX7_report_36 (fun z_36 H _ hP2 hD2 hS => ?_)
      have hf36 := va_pl_fresh2 hD2
      rw [pl_push hf36] at hP2 hD2
      have hne36 : ¬ a_22 = z_36 := fun z => hf36 (by rw [← z]; exact hma_22)
      obtain ⟨L, f, hP, hD, hT, hmz_36, hfz_36, htz_36, hma_22, hfa_22⟩ : ∃ (L2 : List Nat) (f2 : Nat → va_E), va_P (dC, dI) vwCl (xo_ h0 q n dl ++ va_pl L2 f2) H ∧ va_D A (xo_ h0 q n dl ++ va_pl L2 f2) ∧ ty_ cI cy L2 t f2 ∧ z_36 ∈ L2 ∧ f2 z_36 = .inl (cI, 6, .inl g5) ∧ t z_36 = 0 ∧ a_22 ∈ L2 ∧ f2 a_22 = .inr (4, [.int 0, .int 0, .int 0, .int 0, .int 0, .null]) := ⟨_, _, hP2, hD2, ty_pend hT hf36, List.mem_append_right _ (List.mem_singleton.mpr rfl), va_up_self _ _ _, ty_0 hT hf36, List.mem_append_left _ hma_22, (va_up_ne _ _ hne36).trans hfa_22⟩
      refine W.widen (k := 2) (n := 12) (Nat.le_of_ble_eq_true rfl) (Nat.le_of_ble_eq_true rfl) ?_
      obtain ⟨i6, hi6⟩ := va_pl_get (X := xo_ h0 q n dl) (f := f) hmz_36
      refine va_castA hx hb hown (hts (.classLink RX7 124 "[I") (by decide +kernel)) hP i6 (by rw [hi6, hfz_36]) (va_nm_int (hK.2 0 _ rfl).2) dX7_report_39 ?_
      obtain ⟨i7, hi7⟩ := va_pl_get (X := xo_ h0 q n dl) (f := f) hma_22
      have hs7 := pl_one hP hi7 hfa_22
      have hAa7 : A a_22 := hD.2 i7 _ hi7
      refine va_callv (va_runI (As := [.int a1, .int a2, .int (nI (n 0)), .ref z_36]) (rest := [.ref a_22, .ref h0]) ⟨hx, hb, hml, hown, hts⟩ (c_X5_init l dC dI a_22 a1 a2 (nI (n 0)) z_36) (cwI 4 hts gX7_report_X5_init rfl rfl rfl (hts (.initialized RX5) (by decide +kernel)) (hts (.methodLink RX7 239 yX5_init) (by decide +kernel)) (hts (.instanceMethod yX5_init) (by decide +kernel)) rfl (by decide +kernel) ⟨Nat.le_of_ble_eq_true rfl, Nat.le_of_ble_eq_true rfl⟩) ⟨pu_blind, fun U hU hW => ⟨rfl, by rw [hU]; exact hs7, va_K.moved hW.alike (hK.sub [] rfl)⟩⟩ rfl rfl hl.1 rfl (lv_room (Nat.le_of_ble_eq_true rfl)) dX7_report_42 ⟨Nat.le_of_ble_eq_true rfl, Nat.le_of_ble_eq_true rfl⟩) hS (fun x _ h => by rw [h]; exact hAa7) (fun x h => by rw [h]; exact hAa7) (fun u st H1 locs ht hvm hw hB hz hk hS => ?_)
      obtain ⟨g7, hB⟩ := hB
      rw [ht] at hB
      have hP3 := pl_call hP hD hma_22 hi7 hk hB
      have hT3 := hT
      generalize H1 = H at hP3 hS ⊢
      have x1 := ext_ htz_36 15
      have hta2 : va_up t z_36 15 a_22 = 0 := (va_up_ne _ _ hne36).trans hta_22
      have x2 := ext_ hta2 6
      have x3 : ∀ x, ¬ t x = 0 → va_up (va_up t z_36 15) a_22 6 x = t x := fun x hx9 => (x2 x (by rw [x1 x hx9]; exact hx9)).trans (x1 x hx9)
      have hz2 : va_up (va_up t z_36 15) a_22 6 z_36 = 15 := (va_up_ne _ _ (fun z => hne36 z.symm)).trans (va_up_self _ _ _)
      have hT1 := ty_typ0 hT hmz_36 htz_36 (k := 15) ⟨g5, hfz_36⟩
      obtain ⟨t, f, hP, hD, hT, hQ, ky8_0, ky8_1⟩ : ∃ (t2 : Nat → Nat) (f2 : Nat → va_E), va_P (dC, dI) vwCl (xo_ h0 q n dl ++ va_pl L f2) H ∧ va_D A (xo_ h0 q n dl ++ va_pl L f2) ∧ ty_ cI cy L t2 f2 ∧ qs_ q t2 ∧ t2 a_22 = 6 ∧ t2 b1 = 1 := ⟨va_up (va_up t z_36 15) a_22 6, _, hP3, pl_cell hD hma_22 hi7, ty_type hT1 hma_22 hta2 ⟨g7, z_36, rfl, hz2⟩, qs_ext x3 hQ, va_up_self _ _ _, kd_m x3 hk1.1⟩
      refine W.widen (k := 2) (n := 12) (Nat.le_of_ble_eq_true rfl) (Nat.le_of_ble_eq_true rfl) ?_
      refine va_calli (va_runV (As := [.ref a_22]) (rest := []) ⟨hx, hb, hml, hown, hts⟩ (m_X7_putInBag l dC dI h0 q n dl cI cy L t f hT hQ hN A hD a_22 (Or.inr (Or.inr ky8_0))) (cwV 1 hts gX7_report_X7_putInBag rfl rfl rfl (by decide +kernel) ⟨Nat.le_of_ble_eq_true rfl, Nat.le_of_ble_eq_true rfl⟩) (pt_pre hP hK hW0 (ci := 6) (q0 := 0) rfl rfl) rfl rfl hl.1 rfl (lv_room (Nat.le_of_ble_eq_true rfl)) dX7_report_45 ⟨Nat.le_of_ble_eq_true rfl, Nat.le_of_ble_eq_true rfl⟩) hS (fun _ _ h => h) (fun _ h => h) (fun r9 u9 st9 H1 locs ht9 hvm9 hw9 hB9 hz9 hk9 hS => ?_)
      obtain ⟨f9, n9, d9⟩ := u9
      obtain ⟨-, hD9, hT9, hn9⟩ := hw9
      obtain ⟨f, dl, hP, hD, hT, hN, hrel⟩ : ∃ (f : Nat → va_E) (dl : Int32), va_P (dC, dI) vwCl (xo_ h0 q n9 dl ++ va_pl L f) H1 ∧ va_D A (xo_ h0 q n9 dl ++ va_pl L f) ∧ ty_ cI cy L t f ∧ nb_ n9 ∧ (n9 0 = n 0 ∧ n9 1 = n 1) := ⟨f9, d9, by rw [← ht9]; exact hB9, hD9, hT9, hn9.1, hn9.2⟩
      refine W.widen (k := 2) (n := 12) (Nat.le_of_ble_eq_true rfl) (Nat.le_of_ble_eq_true rfl) ?_
      refine W.widen (k := 2) (n := 12) (Nat.le_of_ble_eq_true rfl) (Nat.le_of_ble_eq_true rfl) ?_
      exact W.iret (v := r9) hx hb hr (fun t9 ht hW => ⟨⟨r9, (L, t, f, n9, dl), rfl, ⟨trivial, hD, hT, hQ, hN, hrel⟩, by show va_P (dC, dI) vwCl _ t9.heap; rw [ht]; exact hP⟩, hS.F ht⟩) hS.2.2 dX7_report_48
    · skip
      refine lv_iconst (v := (-1)) hx hb dX7_report_19 (by decide) ?_
      refine W.widen (k := 2) (n := 12) (Nat.le_of_ble_eq_true rfl) (Nat.le_of_ble_eq_true rfl) ?_
      exact W.iret (v := (-1)) hx hb hr (fun t9 ht hW => ⟨⟨(-1), (L, t, f, n, dl), rfl, ⟨trivial, hD, hT, hQ, hN, ⟨rfl, rfl⟩⟩, by show va_P (dC, dI) vwCl _ t9.heap; rw [ht]; exact hP⟩, hS.F ht⟩) hS.2.2 dX7_report_20
