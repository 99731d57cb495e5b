set_option maxHeartbeats 8000000 in
set_option maxRecDepth 100000 in
theorem b_order (l : Launch) (dC : Nat → ClassId) (dI : Nat → Nat → Nat) (h0 : Nat) (q : Nat → Nat) (cI : ClassId) (cy : Nat → ClassId) (A : Nat → Prop) (ad : Nat → Nat → Nat) (rl : Nat → Nat × Nat) (L : List Nat) (n : Nat → Nat) (G : Nat → Nat → Int32) (hN : nb_ n) (a : Nat) (v0 v1 v2 v3 v4 v5 : Int32) (G' : Nat → Nat → Int32) (hn4 : n 4 < 300) (hG : ∀ s x, (¬ ow_ x s = (4, n 4) ∧ ¬ ow_ x s = (11, n 4)) → G' s x = G s x) (ek : G' 26 (n 4) = 0) (e0 : G' 40 (n 4) = v0) (e1 : G' 27 (n 4) = v1) (e2 : G' 41 (n 4) = v2) (e3 : G' 42 (n 4) = v3) (e4 : G' 29 (n 4) = v4) (e5 : G' 30 (n 4) = v5) : Met l yX7_putInBag wsX7_putInBag ({ frames := 0, cells := 0, slots := 0, locals := 0 }) (va_Pc [.ref h0, .ref a] (cr_P (dC, dI) cI cy h0 q A ad rl L n G [(a, .inr (2, [.int v0, .int v1, .int v2, .int v3, .int v4, .int v5]))])) (va_Qi (fun r (_ : Unit) => r = nI (n 4)) (fun _ s' => cp_ (dC, dI) cI cy h0 q A (ad1 ad 4 (n 4) a) (va_up rl a (4, n 4)) L (va_up n 4 (n 4 + 1)) G' s'.heap) A) 0 0 A := by
  refine Met.ofW (cc := cX7_putInBag) (maxL := 2) (ret := (some .int)) (by decide) rfl ?_
  intro p e s m args below meth c s₁ B hml hv
  obtain ⟨rfl, hQ, hK, hW0⟩ := hv
  have hx := B.exec
  have hb := B.bytes
  have hr := B.returns
  have hts := atoms_spec (ws := wsX7_putInBag) B.pre
  have hown : s.vm.findClass RX7 = some m.cls := findClass_of_methodNamed B.named
  have hlocks := B.notSynchronized
  have hinX7 : ∀ w ∈ u_ws RX7 TX7 14, w ∈ wsX7_putInBag := by decide +kernel
  have hS : va_S A s.heap s.heap [] := va_S.rf
  have hl := lv_entry ([.ref h0, .ref a]) (n := 2) (Nat.le_of_ble_eq_true rfl)
  rw [lg_entry_eq]
  generalize (lg_sl ([.ref h0, .ref a]) ++ List.replicate (2 - (lg_sl ([.ref h0, .ref a])).length) Slot.unset).toArray = ls at hl ⊢
  have hl : lv_has ls 2 [(0, .ref h0), (1, .ref a)] := hl
  have hC := hQ.toC
  refine lv_aload_n hx hb dX7_putInBag_0 rfl (lv_at hl 0 rfl) ?_
  refine cx_get hx hb hts hinX7 hown hK hC 12 (by decide) (v := .int (nI (n 4))) rfl (hts (.fieldLink RX7 165 "FurPosts" "letterCount" "I") (by decide +kernel)) dX7_putInBag_1 ?_
  refine lv_sipush (v := 300) hx hb dX7_putInBag_4 (by decide) ?_
  refine lv_icmp_lt (tgt := 12) hx hb dX7_putInBag_7 (by decide) (fun h_1 => ?_) (fun h_1 => absurd (nI_lt hn4 (by decide)) h_1)
  refine lv_aload_n hx hb dX7_putInBag_12 rfl (lv_at hl 0 rfl) ?_
  refine cx_get hx hb hts hinX7 hown hK hC 3 (by decide) (v := .ref (q 4)) rfl (hts (.fieldLink RX7 29 "FurPosts" "letters" "[LFurPosts$Letter;") (by decide +kernel)) dX7_putInBag_13 ?_
  refine lv_aload_n hx hb dX7_putInBag_16 rfl (lv_at hl 0 rfl) ?_
  refine cx_get hx hb hts hinX7 hown hK hC 12 (by decide) (v := .int (nI (n 4))) rfl (hts (.fieldLink RX7 165 "FurPosts" "letterCount" "I") (by decide +kernel)) dX7_putInBag_17 ?_
  refine lv_aload_n hx hb dX7_putInBag_20 rfl (lv_at hl 1 rfl) ?_
  refine cz_ast4 hx hb hW0 hK hQ hS (List.mem_cons_self) (ci := 2) rfl (Or.inl rfl) hn4 dX7_putInBag_21 (fun H locs hZ hS => ?_)
  refine lv_aload_n hx hb dX7_putInBag_22 rfl (lv_at hl 0 rfl) ?_
  refine lv_dup hx hb dX7_putInBag_23 rfl ?_
  refine cz_get4 hx hb hts hinX7 hown hK hZ (hts (.fieldLink RX7 165 "FurPosts" "letterCount" "I") (by decide +kernel)) dX7_putInBag_24 ?_
  refine lv_iconst (v := 1) hx hb dX7_putInBag_27 (by decide) ?_
  refine lv_iadd hx hb dX7_putInBag_28 ?_
  rw [nI_1]
  refine cz_put4 hx hb hts hinX7 hown hK hZ hS (hts (.fieldLink RX7 165 "FurPosts" "letterCount" "I") (by decide +kernel)) dX7_putInBag_29 (fun H locs f hP hD hL hp hS => ?_)
  have hC := cl_order (G' := G') hN hP hD hL hp hG ek e0 e1 e2 e3 e4 e5
  refine lv_aload_n hx hb dX7_putInBag_32 rfl (lv_at hl 0 rfl) ?_
  refine cx_get hx hb hts hinX7 hown hK hC 12 (by decide) (v := .int (nI (n 4 + 1))) rfl (hts (.fieldLink RX7 165 "FurPosts" "letterCount" "I") (by decide +kernel)) dX7_putInBag_33 ?_
  refine lv_iconst (v := 1) hx hb dX7_putInBag_36 (by decide) ?_
  refine lv_isub hx hb dX7_putInBag_37 ?_
  rw [nI_pred]
  exact W.iret (v := nI (n 4)) hx hb hr (fun t9 ht hW => ⟨⟨nI (n 4), (), rfl, rfl, by show cp_ _ _ _ _ _ _ _ _ _ _ _ t9.heap; rw [ht]; exact hC⟩, hS.F ht⟩) hS.2.2 dX7_putInBag_38

set_option maxHeartbeats 8000000 in
set_option maxRecDepth 100000 in
theorem b_debt (l : Launch) (dC : Nat → ClassId) (dI : Nat → Nat → Nat) (h0 : Nat) (q : Nat → Nat) (cI : ClassId) (cy : Nat → ClassId) (A : Nat → Prop) (ad : Nat → Nat → Nat) (rl : Nat → Nat × Nat) (L : List Nat) (n : Nat → Nat) (G : Nat → Nat → Int32) (hN : nb_ n) (a : Nat) (v0 v1 v2 v3 v4 v5 : Int32) (G' : Nat → Nat → Int32) (hn4 : n 4 < 300) (hG : ∀ s x, (¬ ow_ x s = (4, n 4) ∧ ¬ ow_ x s = (11, n 4)) → G' s x = G s x) (ek : G' 26 (n 4) = 1) (e0 : G' 40 (n 4) = v0) (e1 : G' 27 (n 4) = v1) (e2 : G' 41 (n 4) = v2) (e3 : G' 42 (n 4) = v3) (e4 : G' 29 (n 4) = v4) (e5 : G' 30 (n 4) = v5) : Met l yX7_putInBag wsX7_putInBag ({ frames := 0, cells := 0, slots := 0, locals := 0 }) (va_Pc [.ref h0, .ref a] (cr_P (dC, dI) cI cy h0 q A ad rl L n G [(a, .inr (1, [.int v0, .int v1, .int v2, .int v3, .int v4, .int v5]))])) (va_Qi (fun r (_ : Unit) => r = nI (n 4)) (fun _ s' => cp_ (dC, dI) cI cy h0 q A (ad1 ad 4 (n 4) a) (va_up rl a (4, n 4)) L (va_up n 4 (n 4 + 1)) G' s'.heap) A) 0 0 A := by
  refine Met.ofW (cc := cX7_putInBag) (maxL := 2) (ret := (some .int)) (by decide) rfl ?_
  intro p e s m args below meth c s₁ B hml hv
  obtain ⟨rfl, hQ, hK, hW0⟩ := hv
  have hx := B.exec
  have hb := B.bytes
  have hr := B.returns
  have hts := atoms_spec (ws := wsX7_putInBag) B.pre
  have hown : s.vm.findClass RX7 = some m.cls := findClass_of_methodNamed B.named
  have hlocks := B.notSynchronized
  have hinX7 : ∀ w ∈ u_ws RX7 TX7 14, w ∈ wsX7_putInBag := by decide +kernel
  have hS : va_S A s.heap s.heap [] := va_S.rf
  have hl := lv_entry ([.ref h0, .ref a]) (n := 2) (Nat.le_of_ble_eq_true rfl)
  rw [lg_entry_eq]
  generalize (lg_sl ([.ref h0, .ref a]) ++ List.replicate (2 - (lg_sl ([.ref h0, .ref a])).length) Slot.unset).toArray = ls at hl ⊢
  have hl : lv_has ls 2 [(0, .ref h0), (1, .ref a)] := hl
  have hC := hQ.toC
  refine lv_aload_n hx hb dX7_putInBag_0 rfl (lv_at hl 0 rfl) ?_
  refine cx_get hx hb hts hinX7 hown hK hC 12 (by decide) (v := .int (nI (n 4))) rfl (hts (.fieldLink RX7 165 "FurPosts" "letterCount" "I") (by decide +kernel)) dX7_putInBag_1 ?_
  refine lv_sipush (v := 300) hx hb dX7_putInBag_4 (by decide) ?_
  refine lv_icmp_lt (tgt := 12) hx hb dX7_putInBag_7 (by decide) (fun h_1 => ?_) (fun h_1 => absurd (nI_lt hn4 (by decide)) h_1)
  refine lv_aload_n hx hb dX7_putInBag_12 rfl (lv_at hl 0 rfl) ?_
  refine cx_get hx hb hts hinX7 hown hK hC 3 (by decide) (v := .ref (q 4)) rfl (hts (.fieldLink RX7 29 "FurPosts" "letters" "[LFurPosts$Letter;") (by decide +kernel)) dX7_putInBag_13 ?_
  refine lv_aload_n hx hb dX7_putInBag_16 rfl (lv_at hl 0 rfl) ?_
  refine cx_get hx hb hts hinX7 hown hK hC 12 (by decide) (v := .int (nI (n 4))) rfl (hts (.fieldLink RX7 165 "FurPosts" "letterCount" "I") (by decide +kernel)) dX7_putInBag_17 ?_
  refine lv_aload_n hx hb dX7_putInBag_20 rfl (lv_at hl 1 rfl) ?_
  refine cz_ast4 hx hb hW0 hK hQ hS (List.mem_cons_self) (ci := 1) rfl (Or.inr (Or.inl rfl)) hn4 dX7_putInBag_21 (fun H locs hZ hS => ?_)
  refine lv_aload_n hx hb dX7_putInBag_22 rfl (lv_at hl 0 rfl) ?_
  refine lv_dup hx hb dX7_putInBag_23 rfl ?_
  refine cz_get4 hx hb hts hinX7 hown hK hZ (hts (.fieldLink RX7 165 "FurPosts" "letterCount" "I") (by decide +kernel)) dX7_putInBag_24 ?_
  refine lv_iconst (v := 1) hx hb dX7_putInBag_27 (by decide) ?_
  refine lv_iadd hx hb dX7_putInBag_28 ?_
  rw [nI_1]
  refine cz_put4 hx hb hts hinX7 hown hK hZ hS (hts (.fieldLink RX7 165 "FurPosts" "letterCount" "I") (by decide +kernel)) dX7_putInBag_29 (fun H locs f hP hD hL hp hS => ?_)
  have hC := cl_debt (G' := G') hN hP hD hL hp hG ek e0 e1 e2 e3 e4 e5
  refine lv_aload_n hx hb dX7_putInBag_32 rfl (lv_at hl 0 rfl) ?_
  refine cx_get hx hb hts hinX7 hown hK hC 12 (by decide) (v := .int (nI (n 4 + 1))) rfl (hts (.fieldLink RX7 165 "FurPosts" "letterCount" "I") (by decide +kernel)) dX7_putInBag_33 ?_
  refine lv_iconst (v := 1) hx hb dX7_putInBag_36 (by decide) ?_
  refine lv_isub hx hb dX7_putInBag_37 ?_
  rw [nI_pred]
  exact W.iret (v := nI (n 4)) hx hb hr (fun t9 ht hW => ⟨⟨nI (n 4), (), rfl, rfl, by show cp_ _ _ _ _ _ _ _ _ _ _ _ t9.heap; rw [ht]; exact hC⟩, hS.F ht⟩) hS.2.2 dX7_putInBag_38

set_option maxHeartbeats 8000000 in
set_option maxRecDepth 100000 in
theorem b_report (l : Launch) (dC : Nat → ClassId) (dI : Nat → Nat → Nat) (h0 : Nat) (q : Nat → Nat) (cI : ClassId) (cy : Nat → ClassId) (A : Nat → Prop) (ad : Nat → Nat → Nat) (rl : Nat → Nat × Nat) (L : List Nat) (n : Nat → Nat) (G : Nat → Nat → Int32) (hN : nb_ n) (a : Nat) (z : Nat) (g : Nat → Int32) (h_z_a : ¬ z = a) (v0 v1 v2 v3 v4 : Int32) (G' : Nat → Nat → Int32) (hn4 : n 4 < 300) (hG : ∀ s x, (¬ ow_ x s = (11, n 4) ∧ ¬ ow_ x s = (4, n 4)) → G' s x = G s x) (ek : ¬ G' 26 (n 4) = 0) (ek1 : ¬ G' 26 (n 4) = 1) (e0 : G' 40 (n 4) = v0) (e1 : G' 27 (n 4) = v1) (e2 : G' 41 (n 4) = v2) (e3 : G' 42 (n 4) = v3) (e4 : G' 30 (n 4) = v4) (es : ∀ x, x < 6 → g x = G' 31 (6 * n 4 + x)) : Met l yX7_putInBag wsX7_putInBag ({ frames := 0, cells := 0, slots := 0, locals := 0 }) (va_Pc [.ref h0, .ref a] (cr_P (dC, dI) cI cy h0 q A ad rl L n G [(z, .inl (cI, 6, .inl g)), (a, .inr (4, [.int v0, .int v1, .int v2, .int v3, .int v4, .ref z]))])) (va_Qi (fun r (_ : Unit) => r = nI (n 4)) (fun _ s' => cp_ (dC, dI) cI cy h0 q A (ad1 (ad1 ad 11 (n 4) z) 4 (n 4) a) (va_up (va_up rl z (11, n 4)) a (4, n 4)) L (va_up n 4 (n 4 + 1)) G' s'.heap) A) 0 0 A := by
  refine Met.ofW (cc := cX7_putInBag) (maxL := 2) (ret := (some .int)) (by decide) rfl ?_
  intro p e s m args below meth c s₁ B hml hv
  obtain ⟨rfl, hQ, hK, hW0⟩ := hv
  have hx := B.exec
  have hb := B.bytes
  have hr := B.returns
  have hts := atoms_spec (ws := wsX7_putInBag) B.pre
  have hown : s.vm.findClass RX7 = some m.cls := findClass_of_methodNamed B.named
  have hlocks := B.notSynchronized
  have hinX7 : ∀ w ∈ u_ws RX7 TX7 14, w ∈ wsX7_putInBag := by decide +kernel
  have hS : va_S A s.heap s.heap [] := va_S.rf
  have hl := lv_entry ([.ref h0, .ref a]) (n := 2) (Nat.le_of_ble_eq_true rfl)
  rw [lg_entry_eq]
  generalize (lg_sl ([.ref h0, .ref a]) ++ List.replicate (2 - (lg_sl ([.ref h0, .ref a])).length) Slot.unset).toArray = ls at hl ⊢
  have hl : lv_has ls 2 [(0, .ref h0), (1, .ref a)] := hl
  have hC := hQ.toC
  refine lv_aload_n hx hb dX7_putInBag_0 rfl (lv_at hl 0 rfl) ?_
  refine cx_get hx hb hts hinX7 hown hK hC 12 (by decide) (v := .int (nI (n 4))) rfl (hts (.fieldLink RX7 165 "FurPosts" "letterCount" "I") (by decide +kernel)) dX7_putInBag_1 ?_
  refine lv_sipush (v := 300) hx hb dX7_putInBag_4 (by decide) ?_
  refine lv_icmp_lt (tgt := 12) hx hb dX7_putInBag_7 (by decide) (fun h_1 => ?_) (fun h_1 => absurd (nI_lt hn4 (by decide)) h_1)
  refine lv_aload_n hx hb dX7_putInBag_12 rfl (lv_at hl 0 rfl) ?_
  refine cx_get hx hb hts hinX7 hown hK hC 3 (by decide) (v := .ref (q 4)) rfl (hts (.fieldLink RX7 29 "FurPosts" "letters" "[LFurPosts$Letter;") (by decide +kernel)) dX7_putInBag_13 ?_
  refine lv_aload_n hx hb dX7_putInBag_16 rfl (lv_at hl 0 rfl) ?_
  refine cx_get hx hb hts hinX7 hown hK hC 12 (by decide) (v := .int (nI (n 4))) rfl (hts (.fieldLink RX7 165 "FurPosts" "letterCount" "I") (by decide +kernel)) dX7_putInBag_17 ?_
  refine lv_aload_n hx hb dX7_putInBag_20 rfl (lv_at hl 1 rfl) ?_
  refine cz_ast4 hx hb hW0 hK hQ hS (List.mem_cons_of_mem _ (List.mem_cons_self)) (ci := 4) rfl (Or.inr (Or.inr rfl)) hn4 dX7_putInBag_21 (fun H locs hZ hS => ?_)
  refine lv_aload_n hx hb dX7_putInBag_22 rfl (lv_at hl 0 rfl) ?_
  refine lv_dup hx hb dX7_putInBag_23 rfl ?_
  refine cz_get4 hx hb hts hinX7 hown hK hZ (hts (.fieldLink RX7 165 "FurPosts" "letterCount" "I") (by decide +kernel)) dX7_putInBag_24 ?_
  refine lv_iconst (v := 1) hx hb dX7_putInBag_27 (by decide) ?_
  refine lv_iadd hx hb dX7_putInBag_28 ?_
  rw [nI_1]
  refine cz_put4 hx hb hts hinX7 hown hK hZ hS (hts (.fieldLink RX7 165 "FurPosts" "letterCount" "I") (by decide +kernel)) dX7_putInBag_29 (fun H locs f hP hD hL hp hS => ?_)
  have hC := cl_report (G' := G') hN hP hD hL hp h_z_a hG ek ek1 e0 e1 e2 e3 e4 es
  refine lv_aload_n hx hb dX7_putInBag_32 rfl (lv_at hl 0 rfl) ?_
  refine cx_get hx hb hts hinX7 hown hK hC 12 (by decide) (v := .int (nI (n 4 + 1))) rfl (hts (.fieldLink RX7 165 "FurPosts" "letterCount" "I") (by decide +kernel)) dX7_putInBag_33 ?_
  refine lv_iconst (v := 1) hx hb dX7_putInBag_36 (by decide) ?_
  refine lv_isub hx hb dX7_putInBag_37 ?_
  rw [nI_pred]
  exact W.iret (v := nI (n 4)) hx hb hr (fun t9 ht hW => ⟨⟨nI (n 4), (), rfl, rfl, by show cp_ _ _ _ _ _ _ _ _ _ _ _ t9.heap; rw [ht]; exact hC⟩, hS.F ht⟩) hS.2.2 dX7_putInBag_38

set_option maxHeartbeats 8000000 in
set_option maxRecDepth 100000 in
theorem a_X7_way (l : Launch) (dC : Nat → ClassId) (dI : Nat → Nat → Nat) (h0 : Nat) (q : Nat → Nat) (cI : ClassId) (cy : Nat → ClassId) (A : Nat → Prop) (ad : Nat → Nat → Nat) (rl : Nat → Nat × Nat) (L : List Nat) (n : Nat → Nat) (G : Nat → Nat → Int32) (hN : nb_ n) (a1 : Int32) (a2 : Int32) (a3 : Int32) (a4 : Int32) : Met l yX7_way wsX7_way ({ frames := 2, cells := 1, slots := 6, locals := 47 }) (va_Pc [.ref h0, .int a1, .int a2, .int a3, .int a4] (fun U => ct_P (dC, dI) cI cy h0 q A ad rl L n G U ∧ ∀ a, U.heap.size ≤ a → A a)) (va_Qi (fun r (u : List Nat × (Nat → Nat → Nat) × (Nat → Nat × Nat) × (Nat → Nat) × (Nat → Nat → Int32)) => (r, u.2.2.2) = sX_way n G a1 a2 a3 a4 ∧ nb_ u.2.2.2.1) (fun u s' => cp_ (dC, dI) cI cy h0 q A u.2.1 u.2.2.1 u.1 u.2.2.2.1 u.2.2.2.2 s'.heap) A) 1 6 A := by
  refine Met.ofW (cc := cX7_way) (maxL := 8) (ret := (some .int)) (by decide) rfl ?_
  intro p e s m args below meth c s₁ B hml hv
  obtain ⟨rfl, ⟨hC, hK, hW0⟩, hA⟩ := hv
  have hx := B.exec
  have hb := B.bytes
  have hr := B.returns
  have hts := atoms_spec (ws := wsX7_way) B.pre
  have hown : s.vm.findClass RX7 = some m.cls := findClass_of_methodNamed B.named
  have hlocks := B.notSynchronized
  have hinX6 : ∀ w ∈ u_ws RX6 TX6 6, w ∈ wsX7_way := by decide +kernel
  have hinX7 : ∀ w ∈ u_ws RX7 TX7 14, w ∈ wsX7_way := by decide +kernel
  have hS : va_S A s.heap s.heap [] := va_S.rf
  have hl := lv_entry ([.ref h0, .int a1, .int a2, .int a3, .int a4]) (n := 8) (Nat.le_of_ble_eq_true rfl)
  rw [lg_entry_eq]
  generalize (lg_sl ([.ref h0, .int a1, .int a2, .int a3, .int a4]) ++ List.replicate (8 - (lg_sl ([.ref h0, .int a1, .int a2, .int a3, .int a4])).length) Slot.unset).toArray = ls at hl ⊢
  have hl : lv_has ls 8 [(0, .ref h0), (1, .int a1), (2, .int a2), (3, .int a3), (4, .int a4)] := hl
  obtain ⟨H, hH, hC, hS⟩ : ∃ H, H = s.heap ∧ cp_ (dC, dI) cI cy h0 q A ad rl L n G H ∧ va_S A s.heap H [] := ⟨_, rfl, hC, hS⟩
  rw [← hH]
  generalize ([] : List Loc) = locs at hS ⊢
  refine lv_aload_n hx hb dX7_way_0 rfl (lv_at hl 0 rfl) ?_
  refine lv_iload_n hx hb dX7_way_1 rfl (lv_at hl 1 rfl) ?_
  refine lv_iload_n hx hb dX7_way_2 rfl (lv_at hl 2 rfl) ?_
  refine pu_call (va_runV (As := [.int a1, .int a2]) (rest := []) ⟨hx, hb, hml, hown, hts⟩ (k_X7_areTwoPosts l dC dI h0 q cI cy A ad rl L n G hN a1 a2) (cwV 2 hts gX7_way_X7_areTwoPosts rfl rfl rfl (by decide +kernel) ⟨Nat.le_of_ble_eq_true rfl, Nat.le_of_ble_eq_true rfl⟩) (ct_pre hC hK hW0) rfl rfl hl.1 rfl (lv_room (Nat.le_of_ble_eq_true rfl)) dX7_way_3 ⟨Nat.le_of_ble_eq_true rfl, Nat.le_of_ble_eq_true rfl⟩) ?_
  refine lv_topi (fun r1 (e1 : r1 = sX_areTwoPosts n G a1 a2) => ?_)
  have hg1 : ¬ r1 = 0 → vp_in a1 8 ∧ vp_in a2 8 := by rw [e1]; exact sX_areTwoPosts_b hN
  refine lv_if_eq (tgt := 30) hx hb dX7_way_6 (by decide) (fun h_2 => ?_) (fun h_2 => ?_)
  · skip
    refine lv_iconst (v := (-1)) hx hb dX7_way_30 (by decide) ?_
    have hq3 : sX_way n G a1 a2 a3 a4 = ((-1), n, G) := by subst e1; exact (if_pos h_2)
    refine W.widen (k := 1) (n := 6) (Nat.le_of_ble_eq_true rfl) (Nat.le_of_ble_eq_true rfl) ?_
    exact W.iret (v := (-1)) hx hb hr (fun t9 ht hW => ⟨⟨(-1), (L, ad, rl, n, G), rfl, ⟨hq3.symm, hN⟩, by show cp_ (dC, dI) cI cy h0 q A ad rl L n G t9.heap; rw [ht]; exact hC⟩, hS.F ht⟩) hS.2.2 dX7_way_31
  · skip
    refine lv_aload_n hx hb dX7_way_9 rfl (lv_at hl 0 rfl) ?_
    refine cx_get hx hb hts hinX7 hown hK hC 4 (by decide) (v := .ref (q 5)) rfl (hts (.fieldLink RX7 35 "FurPosts" "distances" "[[I") (by decide +kernel)) dX7_way_10 ?_
    refine lv_iload_n hx hb dX7_way_13 rfl (lv_at hl 1 rfl) ?_
    refine cr_ald25 hx hb hK hC (w := a1) ((hg1 h_2).1) dX7_way_14 ?_
    refine lv_iload_n hx hb dX7_way_15 rfl (lv_at hl 2 rfl) ?_
    refine ci_ald 12 a1.toNatClampNeg hx hb hK hC (vp_lt ((hg1 h_2).1)) (by decide) (w := a2) ((hg1 h_2).2) dX7_way_16 ?_
    refine lv_topi (fun v4 (e4 : v4 = G 43 (8 * a1.toNatClampNeg + a2.toNatClampNeg)) => ?_)
    refine lv_iconst (v := 1) hx hb dX7_way_17 (by decide) ?_
    refine lv_icmp_eq (tgt := 30) hx hb dX7_way_18 (by decide) (fun h_5 => ?_) (fun h_5 => ?_)
    · skip
      refine lv_iconst (v := (-1)) hx hb dX7_way_30 (by decide) ?_
      have hq6 : sX_way n G a1 a2 a3 a4 = ((-1), n, G) := by subst e4 e1; exact (if_neg h_2).trans (if_pos h_5)
      refine W.widen (k := 1) (n := 6) (Nat.le_of_ble_eq_true rfl) (Nat.le_of_ble_eq_true rfl) ?_
      exact W.iret (v := (-1)) hx hb hr (fun t9 ht hW => ⟨⟨(-1), (L, ad, rl, n, G), rfl, ⟨hq6.symm, hN⟩, by show cp_ (dC, dI) cI cy h0 q A ad rl L n G t9.heap; rw [ht]; exact hC⟩, hS.F ht⟩) hS.2.2 dX7_way_31
    · skip
      refine lv_aload_n hx hb dX7_way_21 rfl (lv_at hl 0 rfl) ?_
      refine cx_get hx hb hts hinX7 hown hK hC 10 (by decide) (v := .int (nI (n 2))) rfl (hts (.fieldLink RX7 63 "FurPosts" "wayCount" "I") (by decide +kernel)) dX7_way_22 ?_
      refine lv_bipush (v := 12) hx hb dX7_way_25 (by decide) ?_
      refine lv_icmp_lt (tgt := 32) hx hb dX7_way_27 (by decide) (fun h_7 => ?_) (fun h_7 => ?_)
      · skip
        refine lv_iload_n hx hb dX7_way_32 rfl (lv_at hl 3 rfl) ?_
        refine lv_if_lt (tgt := 48) hx hb dX7_way_33 (by decide) (fun h_8 => ?_) (fun h_8 => ?_)
        · skip
          refine lv_iconst (v := (-1)) hx hb dX7_way_48 (by decide) ?_
          have hq9 : sX_way n G a1 a2 a3 a4 = ((-1), n, G) := by subst e4 e1; exact (if_neg h_2).trans ((if_neg h_5).trans ((if_pos h_7).trans (if_pos h_8)))
          refine W.widen (k := 1) (n := 6) (Nat.le_of_ble_eq_true rfl) (Nat.le_of_ble_eq_true rfl) ?_
          exact W.iret (v := (-1)) hx hb hr (fun t9 ht hW => ⟨⟨(-1), (L, ad, rl, n, G), rfl, ⟨hq9.symm, hN⟩, by show cp_ (dC, dI) cI cy h0 q A ad rl L n G t9.heap; rw [ht]; exact hC⟩, hS.F ht⟩) hS.2.2 dX7_way_49
        · skip
          refine lv_iload hx hb dX7_way_36 (lv_at hl 4 rfl) ?_
          refine lv_iconst (v := 1) hx hb dX7_way_38 (by decide) ?_
          refine lv_sipush (v := 500) hx hb dX7_way_39 (by decide) ?_
          refine pu_call (va_runS (As := [.int a4, .int 1, .int 500]) (rest := []) ⟨hx, hb, hml, hown, hts⟩ (c_X7_isWithin l a4 1 500) (va_cwS 3 hts gX7_way_X7_isWithin rfl rfl rfl (by decide +kernel) ⟨Nat.le_of_ble_eq_true rfl, Nat.le_of_ble_eq_true rfl⟩) pu_preS rfl rfl hl.1 rfl (lv_room (Nat.le_of_ble_eq_true rfl)) dX7_way_42 ⟨Nat.le_of_ble_eq_true rfl, Nat.le_of_ble_eq_true rfl⟩) ?_
          refine lv_if_ne (tgt := 50) hx hb dX7_way_45 (by decide) (fun h_10 => ?_) (fun h_10 => ?_)
          · skip
            refine lv_iload_n hx hb dX7_way_50 rfl (lv_at hl 3 rfl) ?_
            refine lv_ldc (v := 1000000) hx hb hown (hts (.constant RX7 70 (1000000)) (by decide +kernel)) dX7_way_51 ?_
            refine lv_idiv hx hb dX7_way_53 (by decide) ?_
            refine lv_istore (lv' := [(5, .int (a3 / 1000000)), (0, .ref h0), (1, .int a1), (2, .int a2), (3, .int a3), (4, .int a4)]) hx hb dX7_way_54 hl (by decide) rfl (fun ls hl => ?_)
            refine lv_iload_n hx hb dX7_way_56 rfl (lv_at hl 4 rfl) ?_
            refine lv_sipush (v := 1000) hx hb dX7_way_57 (by decide) ?_
            refine lv_idiv hx hb dX7_way_60 (by decide) ?_
            refine lv_sipush (v := 1000) hx hb dX7_way_61 (by decide) ?_
            refine lv_irem hx hb dX7_way_64 (by decide) ?_
            refine lv_istore (lv' := [(6, .int ((a3 / 1000) - (a3 / 1000) / 1000 * 1000)), (5, .int (a3 / 1000000)), (0, .ref h0), (1, .int a1), (2, .int a2), (3, .int a3), (4, .int a4)]) hx hb dX7_way_65 hl (by decide) rfl (fun ls hl => ?_)
            refine lv_iload_n hx hb dX7_way_67 rfl (lv_at hl 5 rfl) ?_
            refine lv_sipush (v := 1000) hx hb dX7_way_68 (by decide) ?_
            refine lv_irem hx hb dX7_way_71 (by decide) ?_
            refine lv_istore (lv' := [(7, .int (a3 - a3 / 1000 * 1000)), (6, .int ((a3 / 1000) - (a3 / 1000) / 1000 * 1000)), (5, .int (a3 / 1000000)), (0, .ref h0), (1, .int a1), (2, .int a2), (3, .int a3), (4, .int a4)]) hx hb dX7_way_72 hl (by decide) rfl (fun ls hl => ?_)
            refine lv_iload hx hb dX7_way_74 (lv_at hl 2 rfl) ?_
            refine lv_iconst (v := 1) hx hb dX7_way_76 (by decide) ?_
            refine lv_bipush (v := 40) hx hb dX7_way_77 (by decide) ?_
            refine pu_call (va_runS (As := [.int (a3 / 1000000), .int 1, .int 40]) (rest := []) ⟨hx, hb, hml, hown, hts⟩ (c_X7_isWithin l (a3 / 1000000) 1 40) (va_cwS 3 hts gX7_way_X7_isWithin rfl rfl rfl (by decide +kernel) ⟨Nat.le_of_ble_eq_true rfl, Nat.le_of_ble_eq_true rfl⟩) pu_preS rfl rfl hl.1 rfl (lv_room (Nat.le_of_ble_eq_true rfl)) dX7_way_79 ⟨Nat.le_of_ble_eq_true rfl, Nat.le_of_ble_eq_true rfl⟩) ?_
            refine lv_if_eq (tgt := 100) hx hb dX7_way_82 (by decide) (fun h_11 => ?_) (fun h_11 => ?_)
            · skip
              refine lv_iconst (v := (-1)) hx hb dX7_way_100 (by decide) ?_
              have hq12 : sX_way n G a1 a2 a3 a4 = ((-1), n, G) := by subst e4 e1; exact (if_neg h_2).trans ((if_neg h_5).trans ((if_pos h_7).trans ((if_neg h_8).trans ((if_neg h_10).trans (if_pos h_11)))))
              refine W.widen (k := 1) (n := 6) (Nat.le_of_ble_eq_true rfl) (Nat.le_of_ble_eq_true rfl) ?_
              exact W.iret (v := (-1)) hx hb hr (fun t9 ht hW => ⟨⟨(-1), (L, ad, rl, n, G), rfl, ⟨hq12.symm, hN⟩, by show cp_ (dC, dI) cI cy h0 q A ad rl L n G t9.heap; rw [ht]; exact hC⟩, hS.F ht⟩) hS.2.2 dX7_way_101
            · skip
              refine lv_iload hx hb dX7_way_85 (lv_at hl 1 rfl) ?_
              refine lv_iload hx hb dX7_way_87 (lv_at hl 0 rfl) ?_
              refine lv_icmp_gt (tgt := 100) hx hb dX7_way_89 (by decide) (fun h_13 => ?_) (fun h_13 => ?_)
              · skip
                refine lv_iconst (v := (-1)) hx hb dX7_way_100 (by decide) ?_
                have hq14 : sX_way n G a1 a2 a3 a4 = ((-1), n, G) := by subst e4 e1; exact (if_neg h_2).trans ((if_neg h_5).trans ((if_pos h_7).trans ((if_neg h_8).trans ((if_neg h_10).trans ((if_neg h_11).trans (if_pos h_13))))))
                refine W.widen (k := 1) (n := 6) (Nat.le_of_ble_eq_true rfl) (Nat.le_of_ble_eq_true rfl) ?_
                exact W.iret (v := (-1)) hx hb hr (fun t9 ht hW => ⟨⟨(-1), (L, ad, rl, n, G), rfl, ⟨hq14.symm, hN⟩, by show cp_ (dC, dI) cI cy h0 q A ad rl L n G t9.heap; rw [ht]; exact hC⟩, hS.F ht⟩) hS.2.2 dX7_way_101
              · skip
                refine lv_iload hx hb dX7_way_92 (lv_at hl 0 rfl) ?_
                refine lv_sipush (v := 365) hx hb dX7_way_94 (by decide) ?_
                refine lv_icmp_lt (tgt := 102) hx hb dX7_way_97 (by decide) (fun h_15 => ?_) (fun h_15 => ?_)
                · skip
                  have hlt := nI_linv2 (B := 12) h_7 rfl (by omega)
                  refine lv_aload_n hx hb dX7_way_102 rfl (lv_at hl 3 rfl) ?_
                  refine cx_get hx hb hts hinX7 hown hK hC 1 (by decide) (v := .ref (q 2)) rfl (hts (.fieldLink RX7 17 "FurPosts" "ways" "[LFurPosts$Way;") (by decide +kernel)) dX7_way_103 ?_
                  refine lv_aload_n hx hb dX7_way_106 rfl (lv_at hl 3 rfl) ?_
                  refine cx_get hx hb hts hinX7 hown hK hC 10 (by decide) (v := .int (nI (n 2))) rfl (hts (.fieldLink RX7 63 "FurPosts" "wayCount" "I") (by decide +kernel)) dX7_way_107 ?_
                  have hQ := cp_.toQ hC
                  refine cq_new (C := RX6) (T := TX6) (N := 6) (ci := 5) (ty := tyX6) (fs := [.int 0, .int 0, .int 0, .int 0, .int 0, .int 0]) hx hb hts hinX6 tyX6_ok hown (hts (.classLink RX7 15 RX6) (by decide +kernel)) (hts (.instantiable RX6 6) (by decide +kernel)) (hts (.initialized RX6) (by decide +kernel)) hK hQ hS hA rfl (fun j hj => by
                      match j, hj with
                      | 0, _ => rfl
                      | 1, _ => rfl
                      | 2, _ => rfl
                      | 3, _ => rfl
                      | 4, _ => rfl
                      | 5, _ => rfl
                      | k + 6, h => omega) (Nat.le_of_ble_eq_true rfl) (Nat.le_of_ble_eq_true rfl) dX7_way_110 (fun a_110 H hQ hne110 hS => ?_)
                  obtain ⟨L, hQ⟩ : ∃ L2, cq_ (dC, dI) cI cy h0 q A ad rl L2 n G [(a_110, .inr (5, [.int 0, .int 0, .int 0, .int 0, .int 0, .int 0]))] H := ⟨_, hQ⟩
                  have hC := hQ.toC
                  refine W.widen (k := 1) (n := 6) (Nat.le_of_ble_eq_true rfl) (Nat.le_of_ble_eq_true rfl) ?_
                  refine lv_dup hx hb dX7_way_113 rfl ?_
                  refine lv_iload_n hx hb dX7_way_114 rfl (lv_at hl 4 rfl) ?_
                  refine lv_iload_n hx hb dX7_way_115 rfl (lv_at hl 5 rfl) ?_
                  refine lv_iload hx hb dX7_way_116 (lv_at hl 2 rfl) ?_
                  refine lv_iload hx hb dX7_way_118 (lv_at hl 1 rfl) ?_
                  refine lv_iload hx hb dX7_way_120 (lv_at hl 0 rfl) ?_
                  refine lv_iload hx hb dX7_way_122 (lv_at hl 7 rfl) ?_
                  obtain ⟨hs1, hAa, -⟩ := cq_one hQ (List.mem_cons_self)
                  refine va_callv (va_runI (As := [.int a1, .int a2, .int (a3 / 1000000), .int ((a3 / 1000) - (a3 / 1000) / 1000 * 1000), .int (a3 - a3 / 1000 * 1000), .int a4]) (rest := [.ref a_110, .int (nI (n 2)), .ref (q 2)]) ⟨hx, hb, hml, hown, hts⟩ (c_X6_init l dC dI a_110 a1 a2 (a3 / 1000000) ((a3 / 1000) - (a3 / 1000) / 1000 * 1000) (a3 - a3 / 1000 * 1000) a4) (cwI 6 hts gX7_way_X6_init rfl rfl rfl (hts (.initialized RX6) (by decide +kernel)) (hts (.methodLink RX7 71 yX6_init) (by decide +kernel)) (hts (.instanceMethod yX6_init) (by decide +kernel)) rfl (by decide +kernel) ⟨Nat.le_of_ble_eq_true rfl, Nat.le_of_ble_eq_true rfl⟩) ⟨pu_blind, fun U hU hW => ⟨rfl, by rw [hU]; exact hs1, va_K.moved hW.alike (hK.sub [] rfl)⟩⟩ rfl rfl hl.1 rfl (lv_room (Nat.le_of_ble_eq_true rfl)) dX7_way_124 ⟨Nat.le_of_ble_eq_true rfl, Nat.le_of_ble_eq_true rfl⟩) hS (fun x _ h => by rw [h]; exact hAa) (fun x h => by rw [h]; exact hAa) (fun u st H1 locs ht hvm hw hB hz hk hS => ?_)
                  rw [ht] at hB
                  have hQ := cq_set (pd' := [(a_110, .inr (5, [.int a1, .int a2, .int (a3 / 1000000), .int ((a3 / 1000) - (a3 / 1000) / 1000 * 1000), .int (a3 - a3 / 1000 * 1000), .int a4]))]) hQ (List.mem_cons_self) hk hB (fun x hx => Or.inl (List.mem_singleton.mp hx))
                  have hC := hQ.toC
                  clear ht hvm hw hB hz hk
                  generalize H1 = H at hQ hC hS ⊢
                  refine W.widen (k := 1) (n := 6) (Nat.le_of_ble_eq_true rfl) (Nat.le_of_ble_eq_true rfl) ?_
                  refine cz_ast2 hx hb hW0 hK hQ hS (List.mem_cons_self) rfl rfl (by omega) dX7_way_127 (fun H locs hZ hS => ?_)
                  refine lv_aload_n hx hb dX7_way_128 rfl (lv_at hl 3 rfl) ?_
                  refine lv_dup hx hb dX7_way_129 rfl ?_
                  refine cz_get2 hx hb hts hinX7 hown hK hZ (hts (.fieldLink RX7 63 "FurPosts" "wayCount" "I") (by decide +kernel)) dX7_way_130 ?_
                  refine lv_iconst (v := 1) hx hb dX7_way_133 (by decide) ?_
                  refine lv_iadd hx hb dX7_way_134 ?_
                  rw [nI_1]
                  refine cz_put2 hx hb hts hinX7 hown hK hZ hS (hts (.fieldLink RX7 63 "FurPosts" "wayCount" "I") (by decide +kernel)) dX7_way_135 (fun H locs f hP hD hL hp hS => ?_)
                  have hC := cl_way (G' := up2 (up2 (up2 (up2 (up2 (up2 G 6 (n 2) a1) 7 (n 2) a2) 8 (n 2) (a3 / 1000000)) 9 (n 2) ((a3 / 1000) - (a3 / 1000) / 1000 * 1000)) 10 (n 2) (a3 - a3 / 1000 * 1000)) 11 (n 2) a4) hN hP hD hL hp (fun s x h => (up2_ow h rfl).trans ((up2_ow h rfl).trans ((up2_ow h rfl).trans ((up2_ow h rfl).trans ((up2_ow h rfl).trans ((up2_ow h rfl))))))) (show upd (G 6) (n 2) a1 (n 2) = a1 from pk_us) (show upd (G 7) (n 2) a2 (n 2) = a2 from pk_us) (show upd (G 8) (n 2) (a3 / 1000000) (n 2) = (a3 / 1000000) from pk_us) (show upd (G 9) (n 2) ((a3 / 1000) - (a3 / 1000) / 1000 * 1000) (n 2) = ((a3 / 1000) - (a3 / 1000) / 1000 * 1000) from pk_us) (show upd (G 10) (n 2) (a3 - a3 / 1000 * 1000) (n 2) = (a3 - a3 / 1000 * 1000) from pk_us) (show upd (G 11) (n 2) a4 (n 2) = a4 from pk_us)
                  obtain ⟨n16, f16, G16, e16, ad, rl, hC⟩ : ∃ n2 : Nat → Nat, n2 = va_up n 2 (n 2 + 1) ∧ ∃ G2 : Nat → Nat → Int32, G2 = up2 (up2 (up2 (up2 (up2 (up2 G 6 (n 2) a1) 7 (n 2) a2) 8 (n 2) (a3 / 1000000)) 9 (n 2) ((a3 / 1000) - (a3 / 1000) / 1000 * 1000)) 10 (n 2) (a3 - a3 / 1000 * 1000)) 11 (n 2) a4 ∧ ∃ (ad2 : Nat → Nat → Nat) (rl2 : Nat → Nat × Nat), cp_ (dC, dI) cI cy h0 q A ad2 rl2 L n2 G2 H := ⟨_, rfl, _, rfl, _, _, hC⟩
                  have hN : nb_ n16 := by rw [f16]; exact ⟨hN.1, hN.2.1, (show n 2 + 1 ≤ 12 by omega), hN.2.2.2.1, hN.2.2.2.2⟩
                  refine lv_aload_n hx hb dX7_way_138 rfl (lv_at hl 3 rfl) ?_
                  refine lv_iload_n hx hb dX7_way_139 rfl (lv_at hl 4 rfl) ?_
                  refine lv_iload_n hx hb dX7_way_140 rfl (lv_at hl 5 rfl) ?_
                  refine va_callv (va_runV (As := [.int a1, .int a2]) (rest := []) ⟨hx, hb, hml, hown, hts⟩ (m_X7_shortenDistances l dC dI h0 q cI cy A ad rl L n16 G16 hN a1 a2 ((hg1 h_2).1) ((hg1 h_2).2)) (cwV 2 hts gX7_way_X7_shortenDistances rfl rfl rfl (by decide +kernel) ⟨Nat.le_of_ble_eq_true rfl, Nat.le_of_ble_eq_true rfl⟩) (ct_pre hC hK hW0) rfl rfl hl.1 rfl (lv_room (Nat.le_of_ble_eq_true rfl)) dX7_way_141 ⟨Nat.le_of_ble_eq_true rfl, Nat.le_of_ble_eq_true rfl⟩) hS (fun _ _ h => h) (fun _ h => h) (fun u17 st17 H locs ht17 hvm17 hw17 hB17 hz17 hk17 hS => ?_)
                  obtain ⟨G17, e17, hC⟩ : ∃ G17 : Nat → Nat → Int32, G17 = (sX_shortenDistances n16 G16 a1 a2) ∧ cp_ (dC, dI) cI cy h0 q A ad rl L n16 G17 H := ⟨u17, hw17, by rw [← ht17]; exact hB17⟩
                  refine lv_aload_n hx hb dX7_way_144 rfl (lv_at hl 3 rfl) ?_
                  refine cx_get hx hb hts hinX7 hown hK hC 10 (by decide) (v := .int (nI (n16 2))) rfl (hts (.fieldLink RX7 63 "FurPosts" "wayCount" "I") (by decide +kernel)) dX7_way_145 ?_
                  refine lv_iconst (v := 1) hx hb dX7_way_148 (by decide) ?_
                  refine lv_isub hx hb dX7_way_149 ?_
                  have hq18 : sX_way n G a1 a2 a3 a4 = (((nI (n16 2)) - 1), n16, G17) := by subst e17 e16 f16 e4 e1; exact (if_neg h_2).trans ((if_neg h_5).trans ((if_pos h_7).trans ((if_neg h_8).trans ((if_neg h_10).trans ((if_neg h_11).trans ((if_neg h_13).trans (if_pos h_15)))))))
                  refine W.widen (k := 1) (n := 6) (Nat.le_of_ble_eq_true rfl) (Nat.le_of_ble_eq_true rfl) ?_
                  exact W.iret (v := ((nI (n16 2)) - 1)) hx hb hr (fun t9 ht hW => ⟨⟨((nI (n16 2)) - 1), (L, ad, rl, n16, G17), rfl, ⟨hq18.symm, hN⟩, by show cp_ (dC, dI) cI cy h0 q A ad rl L n16 G17 t9.heap; rw [ht]; exact hC⟩, hS.F ht⟩) hS.2.2 dX7_way_150
                · skip
                  refine lv_iconst (v := (-1)) hx hb dX7_way_100 (by decide) ?_
                  have hq19 : sX_way n G a1 a2 a3 a4 = ((-1), n, G) := by subst e4 e1; exact (if_neg h_2).trans ((if_neg h_5).trans ((if_pos h_7).trans ((if_neg h_8).trans ((if_neg h_10).trans ((if_neg h_11).trans ((if_neg h_13).trans (if_neg h_15)))))))
                  refine W.widen (k := 1) (n := 6) (Nat.le_of_ble_eq_true rfl) (Nat.le_of_ble_eq_true rfl) ?_
                  exact W.iret (v := (-1)) hx hb hr (fun t9 ht hW => ⟨⟨(-1), (L, ad, rl, n, G), rfl, ⟨hq19.symm, hN⟩, by show cp_ (dC, dI) cI cy h0 q A ad rl L n G t9.heap; rw [ht]; exact hC⟩, hS.F ht⟩) hS.2.2 dX7_way_101
          · skip
            refine lv_iconst (v := (-1)) hx hb dX7_way_48 (by decide) ?_
            have hq20 : sX_way n G a1 a2 a3 a4 = ((-1), n, G) := by subst e4 e1; exact (if_neg h_2).trans ((if_neg h_5).trans ((if_pos h_7).trans ((if_neg h_8).trans (if_pos h_10))))
            refine W.widen (k := 1) (n := 6) (Nat.le_of_ble_eq_true rfl) (Nat.le_of_ble_eq_true rfl) ?_
            exact W.iret (v := (-1)) hx hb hr (fun t9 ht hW => ⟨⟨(-1), (L, ad, rl, n, G), rfl, ⟨hq20.symm, hN⟩, by show cp_ (dC, dI) cI cy h0 q A ad rl L n G t9.heap; rw [ht]; exact hC⟩, hS.F ht⟩) hS.2.2 dX7_way_49
      · skip
        refine lv_iconst (v := (-1)) hx hb dX7_way_30 (by decide) ?_
        have hq21 : sX_way n G a1 a2 a3 a4 = ((-1), n, G) := by subst e4 e1; exact (if_neg h_2).trans ((if_neg h_5).trans (if_neg h_7))
        refine W.widen (k := 1) (n := 6) (Nat.le_of_ble_eq_true rfl) (Nat.le_of_ble_eq_true rfl) ?_
        exact W.iret (v := (-1)) hx hb hr (fun t9 ht hW => ⟨⟨(-1), (L, ad, rl, n, G), rfl, ⟨hq21.symm, hN⟩, by show cp_ (dC, dI) cI cy h0 q A ad rl L n G t9.heap; rw [ht]; exact hC⟩, hS.F ht⟩) hS.2.2 dX7_way_31

set_option maxHeartbeats 8000000 in
set_option maxRecDepth 100000 in
theorem a_X7_order (l : Launch) (dC : Nat → ClassId) (dI : Nat → Nat → Nat) (h0 : Nat) (q : Nat → Nat) (cI : ClassId) (cy : Nat → ClassId) (A : Nat → Prop) (ad : Nat → Nat → Nat) (rl : Nat → Nat × Nat) (L : List Nat) (n : Nat → Nat) (G : Nat → Nat → Int32) (hN : nb_ n) (a1 : Int32) (a2 : Int32) (a3 : Int32) (a4 : Int32) : Met l yX7_order wsX7_order ({ frames := 3, cells := 1, slots := 6, locals := 65 }) (va_Pc [.ref h0, .int a1, .int a2, .int a3, .int a4] (fun U => ct_P (dC, dI) cI cy h0 q A ad rl L n G U ∧ ∀ a, U.heap.size ≤ a → A a)) (va_Qi (fun r (u : List Nat × (Nat → Nat → Nat) × (Nat → Nat × Nat) × (Nat → Nat) × (Nat → Nat → Int32)) => (r, u.2.2.2) = sX_order n G a1 a2 a3 a4 ∧ nb_ u.2.2.2.1) (fun u s' => cp_ (dC, dI) cI cy h0 q A u.2.1 u.2.2.1 u.1 u.2.2.2.1 u.2.2.2.2 s'.heap) A) 1 6 A := by
  refine Met.ofW (cc := cX7_order) (maxL := 5) (ret := (some .int)) (by decide) rfl ?_
  intro p e s m args below meth c s₁ B hml hv
  obtain ⟨rfl, ⟨hC, hK, hW0⟩, hA⟩ := hv
  have hx := B.exec
  have hb := B.bytes
  have hr := B.returns
  have hts := atoms_spec (ws := wsX7_order) B.pre
  have hown : s.vm.findClass RX7 = some m.cls := findClass_of_methodNamed B.named
  have hlocks := B.notSynchronized
  have hinX3 : ∀ w ∈ u_ws RX3 TX3 6, w ∈ wsX7_order := by decide +kernel
  have hS : va_S A s.heap s.heap [] := va_S.rf
  have hl := lv_entry ([.ref h0, .int a1, .int a2, .int a3, .int a4]) (n := 5) (Nat.le_of_ble_eq_true rfl)
  rw [lg_entry_eq]
  generalize (lg_sl ([.ref h0, .int a1, .int a2, .int a3, .int a4]) ++ List.replicate (5 - (lg_sl ([.ref h0, .int a1, .int a2, .int a3, .int a4])).length) Slot.unset).toArray = ls at hl ⊢
  have hl : lv_has ls 5 [(0, .ref h0), (1, .int a1), (2, .int a2), (3, .int a3), (4, .int a4)] := hl
  obtain ⟨H, hH, hC, hS⟩ : ∃ H, H = s.heap ∧ cp_ (dC, dI) cI cy h0 q A ad rl L n G H ∧ va_S A s.heap H [] := ⟨_, rfl, hC, hS⟩
  rw [← hH]
  generalize ([] : List Loc) = locs at hS ⊢
  refine lv_aload_n hx hb dX7_order_0 rfl (lv_at hl 0 rfl) ?_
  refine lv_iload_n hx hb dX7_order_1 rfl (lv_at hl 1 rfl) ?_
  refine lv_iload_n hx hb dX7_order_2 rfl (lv_at hl 2 rfl) ?_
  refine pu_call (va_runV (As := [.int a1, .int a2]) (rest := []) ⟨hx, hb, hml, hown, hts⟩ (k_X7_canWrite l dC dI h0 q cI cy A ad rl L n G hN a1 a2) (cwV 2 hts gX7_order_X7_canWrite rfl rfl rfl (by decide +kernel) ⟨Nat.le_of_ble_eq_true rfl, Nat.le_of_ble_eq_true rfl⟩) (ct_pre hC hK hW0) rfl rfl hl.1 rfl (lv_room (Nat.le_of_ble_eq_true rfl)) dX7_order_3 ⟨Nat.le_of_ble_eq_true rfl, Nat.le_of_ble_eq_true rfl⟩) ?_
  refine lv_topi (fun r1 (e1 : r1 = sX_canWrite n G a1 a2) => ?_)
  refine lv_if_eq (tgt := 27) hx hb dX7_order_6 (by decide) (fun h_2 => ?_) (fun h_2 => ?_)
  · skip
    refine lv_iconst (v := (-1)) hx hb dX7_order_27 (by decide) ?_
    have hq3 : sX_order n G a1 a2 a3 a4 = ((-1), n, G) := by subst e1; exact (if_pos h_2)
    refine W.widen (k := 1) (n := 6) (Nat.le_of_ble_eq_true rfl) (Nat.le_of_ble_eq_true rfl) ?_
    exact W.iret (v := (-1)) hx hb hr (fun t9 ht hW => ⟨⟨(-1), (L, ad, rl, n, G), rfl, ⟨hq3.symm, hN⟩, by show cp_ (dC, dI) cI cy h0 q A ad rl L n G t9.heap; rw [ht]; exact hC⟩, hS.F ht⟩) hS.2.2 dX7_order_28
  · skip
    refine lv_iload_n hx hb dX7_order_9 rfl (lv_at hl 3 rfl) ?_
    refine pu_call (va_runS (As := [.int a3]) (rest := []) ⟨hx, hb, hml, hown, hts⟩ (c_X7_isWare l a3) (va_cwS 1 hts gX7_order_X7_isWare rfl rfl rfl (by decide +kernel) ⟨Nat.le_of_ble_eq_true rfl, Nat.le_of_ble_eq_true rfl⟩) pu_preS rfl rfl hl.1 rfl (lv_room (Nat.le_of_ble_eq_true rfl)) dX7_order_10 ⟨Nat.le_of_ble_eq_true rfl, Nat.le_of_ble_eq_true rfl⟩) ?_
    refine lv_if_eq (tgt := 27) hx hb dX7_order_13 (by decide) (fun h_4 => ?_) (fun h_4 => ?_)
    · skip
      refine lv_iconst (v := (-1)) hx hb dX7_order_27 (by decide) ?_
      have hq5 : sX_order n G a1 a2 a3 a4 = ((-1), n, G) := by subst e1; exact (if_neg h_2).trans (if_pos h_4)
      refine W.widen (k := 1) (n := 6) (Nat.le_of_ble_eq_true rfl) (Nat.le_of_ble_eq_true rfl) ?_
      exact W.iret (v := (-1)) hx hb hr (fun t9 ht hW => ⟨⟨(-1), (L, ad, rl, n, G), rfl, ⟨hq5.symm, hN⟩, by show cp_ (dC, dI) cI cy h0 q A ad rl L n G t9.heap; rw [ht]; exact hC⟩, hS.F ht⟩) hS.2.2 dX7_order_28
    · skip
      refine lv_iload hx hb dX7_order_16 (lv_at hl 4 rfl) ?_
      refine lv_iconst (v := 1) hx hb dX7_order_18 (by decide) ?_
      refine lv_bipush (v := 100) hx hb dX7_order_19 (by decide) ?_
      refine pu_call (va_runS (As := [.int a4, .int 1, .int 100]) (rest := []) ⟨hx, hb, hml, hown, hts⟩ (c_X7_isWithin l a4 1 100) (va_cwS 3 hts gX7_order_X7_isWithin rfl rfl rfl (by decide +kernel) ⟨Nat.le_of_ble_eq_true rfl, Nat.le_of_ble_eq_true rfl⟩) pu_preS rfl rfl hl.1 rfl (lv_room (Nat.le_of_ble_eq_true rfl)) dX7_order_21 ⟨Nat.le_of_ble_eq_true rfl, Nat.le_of_ble_eq_true rfl⟩) ?_
      refine lv_if_ne (tgt := 29) hx hb dX7_order_24 (by decide) (fun h_6 => ?_) (fun h_6 => ?_)
      · skip
        have hlt := sX_canWrite_b hN (by have z9 := h_2; rw [e1] at z9; exact z9)
        refine lv_aload_n hx hb dX7_order_29 rfl (lv_at hl 0 rfl) ?_
        have hQ := cp_.toQ hC
        refine cq_new (C := RX3) (T := TX3) (N := 6) (ci := 2) (ty := tyX3) (fs := [.int 0, .int 0, .int 0, .int 0, .int 0, .int 0]) hx hb hts hinX3 tyX3_ok hown (hts (.classLink RX7 227 RX3) (by decide +kernel)) (hts (.instantiable RX3 6) (by decide +kernel)) (hts (.initialized RX3) (by decide +kernel)) hK hQ hS hA rfl (fun j hj => by
            match j, hj with
            | 0, _ => rfl
            | 1, _ => rfl
            | 2, _ => rfl
            | 3, _ => rfl
            | 4, _ => rfl
            | 5, _ => rfl
            | k + 6, h => omega) (Nat.le_of_ble_eq_true rfl) (Nat.le_of_ble_eq_true rfl) dX7_order_30 (fun a_30 H hQ hne30 hS => ?_)
        obtain ⟨L, hQ⟩ : ∃ L2, cq_ (dC, dI) cI cy h0 q A ad rl L2 n G [(a_30, .inr (2, [.int 0, .int 0, .int 0, .int 0, .int 0, .int 0]))] H := ⟨_, hQ⟩
        have hC := hQ.toC
        refine W.widen (k := 1) (n := 6) (Nat.le_of_ble_eq_true rfl) (Nat.le_of_ble_eq_true rfl) ?_
        refine lv_dup hx hb dX7_order_33 rfl ?_
        refine lv_iload_n hx hb dX7_order_34 rfl (lv_at hl 1 rfl) ?_
        refine lv_iload_n hx hb dX7_order_35 rfl (lv_at hl 2 rfl) ?_
        refine lv_iload_n hx hb dX7_order_36 rfl (lv_at hl 3 rfl) ?_
        refine lv_iload hx hb dX7_order_37 (lv_at hl 4 rfl) ?_
        obtain ⟨hs1, hAa, -⟩ := cq_one hQ (List.mem_cons_self)
        refine va_callv (va_runI (As := [.int a1, .int a2, .int a3, .int a4]) (rest := [.ref a_30, .ref h0]) ⟨hx, hb, hml, hown, hts⟩ (c_X3_init l dC dI a_30 a1 a2 a3 a4) (cwI 4 hts gX7_order_X3_init rfl rfl rfl (hts (.initialized RX3) (by decide +kernel)) (hts (.methodLink RX7 229 yX3_init) (by decide +kernel)) (hts (.instanceMethod yX3_init) (by decide +kernel)) rfl (by decide +kernel) ⟨Nat.le_of_ble_eq_true rfl, Nat.le_of_ble_eq_true rfl⟩) ⟨pu_blind, fun U hU hW => ⟨rfl, by rw [hU]; exact hs1, va_K.moved hW.alike (hK.sub [] rfl)⟩⟩ rfl rfl hl.1 rfl (lv_room (Nat.le_of_ble_eq_true rfl)) dX7_order_39 ⟨Nat.le_of_ble_eq_true rfl, Nat.le_of_ble_eq_true rfl⟩) hS (fun x _ h => by rw [h]; exact hAa) (fun x h => by rw [h]; exact hAa) (fun u st H1 locs ht hvm hw hB hz hk hS => ?_)
        rw [ht] at hB
        have hQ := cq_set (pd' := [(a_30, .inr (2, [.int a1, .int a2, .int a1, .int (-1), .int a3, .int a4]))]) hQ (List.mem_cons_self) hk hB (fun x hx => Or.inl (List.mem_singleton.mp hx))
        have hC := hQ.toC
        clear ht hvm hw hB hz hk
        generalize H1 = H at hQ hC hS ⊢
        refine W.widen (k := 1) (n := 6) (Nat.le_of_ble_eq_true rfl) (Nat.le_of_ble_eq_true rfl) ?_
        refine va_calli (va_runV (As := [.ref a_30]) (rest := []) ⟨hx, hb, hml, hown, hts⟩ (b_order l dC dI h0 q cI cy A ad rl L n G hN a_30 a1 a2 a1 (-1) a3 a4 (nl_ G (n 4) 0 a1 a2 a3 a4) hlt (fun s x h => nl_o h.1) (show upd (G 26) (n 4) 0 (n 4) = 0 from pk_us) (show upd (G 40) (n 4) a1 (n 4) = a1 from pk_us) (show upd (G 27) (n 4) a2 (n 4) = a2 from pk_us) (show upd (G 41) (n 4) a1 (n 4) = a1 from pk_us) (show upd (G 42) (n 4) (-1) (n 4) = (-1) from pk_us) (show upd (G 29) (n 4) a3 (n 4) = a3 from pk_us) (show upd (G 30) (n 4) a4 (n 4) = a4 from pk_us)) (cwV 1 hts gX7_order_X7_putInBag rfl rfl rfl (by decide +kernel) ⟨Nat.le_of_ble_eq_true rfl, Nat.le_of_ble_eq_true rfl⟩) (cq_pre hQ hK hW0) rfl rfl hl.1 rfl (lv_room (Nat.le_of_ble_eq_true rfl)) dX7_order_42 ⟨Nat.le_of_ble_eq_true rfl, Nat.le_of_ble_eq_true rfl⟩) hS (fun _ _ h => h) (fun _ h => h) (fun r7 u7 st7 H locs ht7 hvm7 hw7 hB7 hz7 hk7 hS => ?_)
        have g7 : r7 = nI (n 4) := hw7
        rw [ht7] at hB7
        have hC := hB7
        refine W.widen (k := 1) (n := 6) (Nat.le_of_ble_eq_true rfl) (Nat.le_of_ble_eq_true rfl) ?_
        obtain ⟨n8, f8, G8, e8, ad, rl, hC⟩ : ∃ n2 : Nat → Nat, n2 = va_up n 4 (n 4 + 1) ∧ ∃ G2 : Nat → Nat → Int32, G2 = nl_ G (n 4) 0 a1 a2 a3 a4 ∧ ∃ (ad2 : Nat → Nat → Nat) (rl2 : Nat → Nat × Nat), cp_ (dC, dI) cI cy h0 q A ad2 rl2 L n2 G2 H := ⟨_, rfl, _, rfl, _, _, hC⟩
        have hN : nb_ n8 := by rw [f8]; exact ⟨hN.1, hN.2.1, hN.2.2.1, hN.2.2.2.1, (show n 4 + 1 ≤ 300 by omega)⟩
        have hq9 : sX_order n G a1 a2 a3 a4 = (r7, n8, G8) := by subst e8 f8 g7 e1; exact (if_neg h_2).trans ((if_neg h_4).trans (if_neg h_6))
        refine W.widen (k := 1) (n := 6) (Nat.le_of_ble_eq_true rfl) (Nat.le_of_ble_eq_true rfl) ?_
        exact W.iret (v := r7) hx hb hr (fun t9 ht hW => ⟨⟨r7, (L, ad, rl, n8, G8), rfl, ⟨hq9.symm, hN⟩, by show cp_ (dC, dI) cI cy h0 q A ad rl L n8 G8 t9.heap; rw [ht]; exact hC⟩, hS.F ht⟩) hS.2.2 dX7_order_45
      · skip
        refine lv_iconst (v := (-1)) hx hb dX7_order_27 (by decide) ?_
        have hq10 : sX_order n G a1 a2 a3 a4 = ((-1), n, G) := by subst e1; exact (if_neg h_2).trans ((if_neg h_4).trans (if_pos h_6))
        refine W.widen (k := 1) (n := 6) (Nat.le_of_ble_eq_true rfl) (Nat.le_of_ble_eq_true rfl) ?_
        exact W.iret (v := (-1)) hx hb hr (fun t9 ht hW => ⟨⟨(-1), (L, ad, rl, n, G), rfl, ⟨hq10.symm, hN⟩, by show cp_ (dC, dI) cI cy h0 q A ad rl L n G t9.heap; rw [ht]; exact hC⟩, hS.F ht⟩) hS.2.2 dX7_order_28

set_option maxHeartbeats 8000000 in
set_option maxRecDepth 100000 in
theorem a_X7_debt (l : Launch) (dC : Nat → ClassId) (dI : Nat → Nat → Nat) (h0 : Nat) (q : Nat → Nat) (cI : ClassId) (cy : Nat → ClassId) (A : Nat → Prop) (ad : Nat → Nat → Nat) (rl : Nat → Nat × Nat) (L : List Nat) (n : Nat → Nat) (G : Nat → Nat → Int32) (hN : nb_ n) (a1 : Int32) (a2 : Int32) (a3 : Int32) : Met l yX7_debt wsX7_debt ({ frames := 3, cells := 1, slots := 6, locals := 65 }) (va_Pc [.ref h0, .int a1, .int a2, .int a3] (fun U => ct_P (dC, dI) cI cy h0 q A ad rl L n G U ∧ ∀ a, U.heap.size ≤ a → A a)) (va_Qi (fun r (u : List Nat × (Nat → Nat → Nat) × (Nat → Nat × Nat) × (Nat → Nat) × (Nat → Nat → Int32)) => (r, u.2.2.2) = sX_debt n G a1 a2 a3 ∧ nb_ u.2.2.2.1) (fun u s' => cp_ (dC, dI) cI cy h0 q A u.2.1 u.2.2.1 u.1 u.2.2.2.1 u.2.2.2.2 s'.heap) A) 1 6 A := by
  refine Met.ofW (cc := cX7_debt) (maxL := 6) (ret := (some .int)) (by decide) rfl ?_
  intro p e s m args below meth c s₁ B hml hv
  obtain ⟨rfl, ⟨hC, hK, hW0⟩, hA⟩ := hv
  have hx := B.exec
  have hb := B.bytes
  have hr := B.returns
  have hts := atoms_spec (ws := wsX7_debt) B.pre
  have hown : s.vm.findClass RX7 = some m.cls := findClass_of_methodNamed B.named
  have hlocks := B.notSynchronized
  have hinX1 : ∀ w ∈ u_ws RX1 TX1 6, w ∈ wsX7_debt := by decide +kernel
  have hinX4 : ∀ w ∈ u_ws RX4 TX4 4, w ∈ wsX7_debt := by decide +kernel
  have hS : va_S A s.heap s.heap [] := va_S.rf
  have hl := lv_entry ([.ref h0, .int a1, .int a2, .int a3]) (n := 6) (Nat.le_of_ble_eq_true rfl)
  rw [lg_entry_eq]
  generalize (lg_sl ([.ref h0, .int a1, .int a2, .int a3]) ++ List.replicate (6 - (lg_sl ([.ref h0, .int a1, .int a2, .int a3])).length) Slot.unset).toArray = ls at hl ⊢
  have hl : lv_has ls 6 [(0, .ref h0), (1, .int a1), (2, .int a2), (3, .int a3)] := hl
  obtain ⟨H, hH, hC, hS⟩ : ∃ H, H = s.heap ∧ cp_ (dC, dI) cI cy h0 q A ad rl L n G H ∧ va_S A s.heap H [] := ⟨_, rfl, hC, hS⟩
  rw [← hH]
  generalize ([] : List Loc) = locs at hS ⊢
  refine lv_aload_n hx hb dX7_debt_0 rfl (lv_at hl 0 rfl) ?_
  refine lv_iload_n hx hb dX7_debt_1 rfl (lv_at hl 1 rfl) ?_
  refine pu_call (va_runV (As := [.int a1]) (rest := []) ⟨hx, hb, hml, hown, hts⟩ (k_X7_postAt l dC dI h0 q cI cy A ad rl L n G hN a1) (cwV 1 hts gX7_debt_X7_postAt rfl rfl rfl (by decide +kernel) ⟨Nat.le_of_ble_eq_true rfl, Nat.le_of_ble_eq_true rfl⟩) (ct_pre hC hK hW0) rfl rfl hl.1 rfl (lv_room (Nat.le_of_ble_eq_true rfl)) dX7_debt_2 ⟨Nat.le_of_ble_eq_true rfl, Nat.le_of_ble_eq_true rfl⟩) ?_
  by_cases h_1 : (sp_in a1 0 ((nI (n 1)) - 1)) = 0
  · rw [if_pos h_1]
    refine lv_astoreN (lv' := [(4, .null), (0, .ref h0), (1, .int a1), (2, .int a2), (3, .int a3)]) hx hb dX7_debt_5 hl (by decide) rfl (fun ls hl => ?_)
    refine lv_aloadN hx hb dX7_debt_7 (lv_at hl 0 rfl) ?_
    refine lv_ifnullN (tgt := 38) hx hb dX7_debt_9 (by decide) ?_
    refine lv_iconst (v := (-1)) hx hb dX7_debt_38 (by decide) ?_
    have hq2 : sX_debt n G a1 a2 a3 = ((-1), n, G) := by exact (if_pos h_1)
    refine W.widen (k := 1) (n := 6) (Nat.le_of_ble_eq_true rfl) (Nat.le_of_ble_eq_true rfl) ?_
    exact W.iret (v := (-1)) hx hb hr (fun t9 ht hW => ⟨⟨(-1), (L, ad, rl, n, G), rfl, ⟨hq2.symm, hN⟩, by show cp_ (dC, dI) cI cy h0 q A ad rl L n G t9.heap; rw [ht]; exact hC⟩, hS.F ht⟩) hS.2.2 dX7_debt_39
  · rw [if_neg h_1]
    have hv1 := sp_live h_1 (by omega)
    refine lv_astore (lv' := [(4, .ref (ad 1 a1.toNatClampNeg)), (0, .ref h0), (1, .int a1), (2, .int a2), (3, .int a3)]) hx hb dX7_debt_5 hl (by decide) rfl (fun ls hl => ?_)
    refine lv_aload hx hb dX7_debt_7 (lv_at hl 0 rfl) ?_
    refine lv_ifnull hx hb dX7_debt_9 ?_
    refine lv_aload_n hx hb dX7_debt_12 rfl (lv_at hl 1 rfl) ?_
    refine lv_iload_n hx hb dX7_debt_13 rfl (lv_at hl 2 rfl) ?_
    refine lv_iload_n hx hb dX7_debt_14 rfl (lv_at hl 3 rfl) ?_
    refine pu_call (va_runV (As := [.int a1, .int a2]) (rest := []) ⟨hx, hb, hml, hown, hts⟩ (k_X7_canWrite l dC dI h0 q cI cy A ad rl L n G hN a1 a2) (cwV 2 hts gX7_debt_X7_canWrite rfl rfl rfl (by decide +kernel) ⟨Nat.le_of_ble_eq_true rfl, Nat.le_of_ble_eq_true rfl⟩) (ct_pre hC hK hW0) rfl rfl hl.1 rfl (lv_room (Nat.le_of_ble_eq_true rfl)) dX7_debt_15 ⟨Nat.le_of_ble_eq_true rfl, Nat.le_of_ble_eq_true rfl⟩) ?_
    refine lv_topi (fun r3 (e3 : r3 = sX_canWrite n G a1 a2) => ?_)
    refine lv_if_eq (tgt := 38) hx hb dX7_debt_18 (by decide) (fun h_4 => ?_) (fun h_4 => ?_)
    · skip
      refine lv_iconst (v := (-1)) hx hb dX7_debt_38 (by decide) ?_
      have hq5 : sX_debt n G a1 a2 a3 = ((-1), n, G) := by subst e3; exact (if_neg h_1).trans (if_pos h_4)
      refine W.widen (k := 1) (n := 6) (Nat.le_of_ble_eq_true rfl) (Nat.le_of_ble_eq_true rfl) ?_
      exact W.iret (v := (-1)) hx hb hr (fun t9 ht hW => ⟨⟨(-1), (L, ad, rl, n, G), rfl, ⟨hq5.symm, hN⟩, by show cp_ (dC, dI) cI cy h0 q A ad rl L n G t9.heap; rw [ht]; exact hC⟩, hS.F ht⟩) hS.2.2 dX7_debt_39
    · skip
      refine lv_iload_n hx hb dX7_debt_21 rfl (lv_at hl 4 rfl) ?_
      refine pu_call (va_runS (As := [.int a3]) (rest := []) ⟨hx, hb, hml, hown, hts⟩ (c_X7_isHunter l a3) (va_cwS 1 hts gX7_debt_X7_isHunter rfl rfl rfl (by decide +kernel) ⟨Nat.le_of_ble_eq_true rfl, Nat.le_of_ble_eq_true rfl⟩) pu_preS rfl rfl hl.1 rfl (lv_room (Nat.le_of_ble_eq_true rfl)) dX7_debt_22 ⟨Nat.le_of_ble_eq_true rfl, Nat.le_of_ble_eq_true rfl⟩) ?_
      refine lv_if_eq (tgt := 38) hx hb dX7_debt_25 (by decide) (fun h_6 => ?_) (fun h_6 => ?_)
      · skip
        refine lv_iconst (v := (-1)) hx hb dX7_debt_38 (by decide) ?_
        have hq7 : sX_debt n G a1 a2 a3 = ((-1), n, G) := by subst e3; exact (if_neg h_1).trans ((if_neg h_4).trans (if_pos h_6))
        refine W.widen (k := 1) (n := 6) (Nat.le_of_ble_eq_true rfl) (Nat.le_of_ble_eq_true rfl) ?_
        exact W.iret (v := (-1)) hx hb hr (fun t9 ht hW => ⟨⟨(-1), (L, ad, rl, n, G), rfl, ⟨hq7.symm, hN⟩, by show cp_ (dC, dI) cI cy h0 q A ad rl L n G t9.heap; rw [ht]; exact hC⟩, hS.F ht⟩) hS.2.2 dX7_debt_39
      · skip
        refine lv_aload hx hb dX7_debt_28 (lv_at hl 0 rfl) ?_
        refine co_get 1 a1.toNatClampNeg (C := RX4) (T := TX4) (N := 4) (ci := 3) (v := .ref (ad 7 a1.toNatClampNeg)) hx hb hts hinX4 hown hK hC hv1 (fun _ h9 => h9) rfl 2 (by decide) (hts (.fieldLink RX7 214 "FurPosts$Post" "owed" "[I") (by decide +kernel)) (fun _ h9 => h9) rfl dX7_debt_30 ?_
        refine lv_iload_n hx hb dX7_debt_33 rfl (lv_at hl 4 rfl) ?_
        refine ci_ald 7 a1.toNatClampNeg hx hb hK hC hv1 (by decide) (w := a3) (sp_vp h_6 rfl) dX7_debt_34 ?_
        refine lv_topi (fun v8 (e8 : v8 = G 4 (12 * a1.toNatClampNeg + a3.toNatClampNeg)) => ?_)
        refine lv_if_ne (tgt := 40) hx hb dX7_debt_35 (by decide) (fun h_9 => ?_) (fun h_9 => ?_)
        · skip
          have hlt := sX_canWrite_b hN (by have z9 := h_4; rw [e3] at z9; exact z9)
          refine lv_aload hx hb dX7_debt_40 (lv_at hl 0 rfl) ?_
          refine co_get 1 a1.toNatClampNeg (C := RX4) (T := TX4) (N := 4) (ci := 3) (v := .ref (ad 7 a1.toNatClampNeg)) hx hb hts hinX4 hown hK hC hv1 (fun _ h9 => h9) rfl 2 (by decide) (hts (.fieldLink RX7 214 "FurPosts$Post" "owed" "[I") (by decide +kernel)) (fun _ h9 => h9) rfl dX7_debt_42 ?_
          refine lv_iload_n hx hb dX7_debt_45 rfl (lv_at hl 4 rfl) ?_
          refine ci_ald 7 a1.toNatClampNeg hx hb hK hC hv1 (by decide) (w := a3) (sp_vp h_6 rfl) dX7_debt_46 ?_
          refine lv_topi (fun v10 (e10 : v10 = G 4 (12 * a1.toNatClampNeg + a3.toNatClampNeg)) => ?_)
          refine lv_istore (lv' := [(5, .int v10), (4, .ref (ad 1 a1.toNatClampNeg)), (0, .ref h0), (1, .int a1), (2, .int a2), (3, .int a3)]) hx hb dX7_debt_47 hl (by decide) rfl (fun ls hl => ?_)
          refine lv_aload hx hb dX7_debt_49 (lv_at hl 1 rfl) ?_
          refine co_get 1 a1.toNatClampNeg (C := RX4) (T := TX4) (N := 4) (ci := 3) (v := .ref (ad 7 a1.toNatClampNeg)) hx hb hts hinX4 hown hK hC hv1 (fun _ h9 => h9) rfl 2 (by decide) (hts (.fieldLink RX7 214 "FurPosts$Post" "owed" "[I") (by decide +kernel)) (fun _ h9 => h9) rfl dX7_debt_51 ?_
          refine lv_iload_n hx hb dX7_debt_54 rfl (lv_at hl 5 rfl) ?_
          refine lv_iconst (v := 0) hx hb dX7_debt_55 (by decide) ?_
          refine ci_ast 7 a1.toNatClampNeg hx hb hK hC hS hv1 (by decide) (w := a3) (x := 0) (sp_vp h_6 rfl) dX7_debt_56 (fun H locs hC hS => ?_)
          obtain ⟨G11, e11, hC⟩ : ∃ G11 : Nat → Nat → Int32, G11 = up2 G 4 (12 * a1.toNatClampNeg + a3.toNatClampNeg) 0 ∧ cp_ (dC, dI) cI cy h0 q A ad rl L n G11 H := ⟨_, rfl, hC⟩
          refine lv_aload_n hx hb dX7_debt_57 rfl (lv_at hl 2 rfl) ?_
          have hQ := cp_.toQ hC
          refine cq_new (C := RX1) (T := TX1) (N := 6) (ci := 1) (ty := tyX1) (fs := [.int 0, .int 0, .int 0, .int 0, .int 0, .int 0]) hx hb hts hinX1 tyX1_ok hown (hts (.classLink RX7 188 RX1) (by decide +kernel)) (hts (.instantiable RX1 6) (by decide +kernel)) (hts (.initialized RX1) (by decide +kernel)) hK hQ hS hA rfl (fun j hj => by
              match j, hj with
              | 0, _ => rfl
              | 1, _ => rfl
              | 2, _ => rfl
              | 3, _ => rfl
              | 4, _ => rfl
              | 5, _ => rfl
              | k + 6, h => omega) (Nat.le_of_ble_eq_true rfl) (Nat.le_of_ble_eq_true rfl) dX7_debt_58 (fun a_58 H hQ hne58 hS => ?_)
          obtain ⟨L, hQ⟩ : ∃ L2, cq_ (dC, dI) cI cy h0 q A ad rl L2 n G11 [(a_58, .inr (1, [.int 0, .int 0, .int 0, .int 0, .int 0, .int 0]))] H := ⟨_, hQ⟩
          have hC := hQ.toC
          refine W.widen (k := 1) (n := 6) (Nat.le_of_ble_eq_true rfl) (Nat.le_of_ble_eq_true rfl) ?_
          refine lv_dup hx hb dX7_debt_61 rfl ?_
          refine lv_iload_n hx hb dX7_debt_62 rfl (lv_at hl 3 rfl) ?_
          refine lv_iload_n hx hb dX7_debt_63 rfl (lv_at hl 4 rfl) ?_
          refine lv_iload_n hx hb dX7_debt_64 rfl (lv_at hl 5 rfl) ?_
          refine lv_iload hx hb dX7_debt_65 (lv_at hl 0 rfl) ?_
          obtain ⟨hs1, hAa, -⟩ := cq_one hQ (List.mem_cons_self)
          refine va_callv (va_runI (As := [.int a1, .int a2, .int a3, .int v10]) (rest := [.ref a_58, .ref h0]) ⟨hx, hb, hml, hown, hts⟩ (c_X1_init l dC dI a_58 a1 a2 a3 v10) (cwI 4 hts gX7_debt_X1_init rfl rfl rfl (hts (.initialized RX1) (by decide +kernel)) (hts (.methodLink RX7 236 yX1_init) (by decide +kernel)) (hts (.instanceMethod yX1_init) (by decide +kernel)) rfl (by decide +kernel) ⟨Nat.le_of_ble_eq_true rfl, Nat.le_of_ble_eq_true rfl⟩) ⟨pu_blind, fun U hU hW => ⟨rfl, by rw [hU]; exact hs1, va_K.moved hW.alike (hK.sub [] rfl)⟩⟩ rfl rfl hl.1 rfl (lv_room (Nat.le_of_ble_eq_true rfl)) dX7_debt_67 ⟨Nat.le_of_ble_eq_true rfl, Nat.le_of_ble_eq_true rfl⟩) hS (fun x _ h => by rw [h]; exact hAa) (fun x h => by rw [h]; exact hAa) (fun u st H1 locs ht hvm hw hB hz hk hS => ?_)
          rw [ht] at hB
          have hQ := cq_set (pd' := [(a_58, .inr (1, [.int a1, .int a2, .int a1, .int (-1), .int a3, .int v10]))]) hQ (List.mem_cons_self) hk hB (fun x hx => Or.inl (List.mem_singleton.mp hx))
          have hC := hQ.toC
          clear ht hvm hw hB hz hk
          generalize H1 = H at hQ hC hS ⊢
          refine W.widen (k := 1) (n := 6) (Nat.le_of_ble_eq_true rfl) (Nat.le_of_ble_eq_true rfl) ?_
          refine va_calli (va_runV (As := [.ref a_58]) (rest := []) ⟨hx, hb, hml, hown, hts⟩ (b_debt l dC dI h0 q cI cy A ad rl L n G11 hN a_58 a1 a2 a1 (-1) a3 v10 (nl_ G11 (n 4) 1 a1 a2 a3 v10) hlt (fun s x h => nl_o h.1) (show upd (G11 26) (n 4) 1 (n 4) = 1 from pk_us) (show upd (G11 40) (n 4) a1 (n 4) = a1 from pk_us) (show upd (G11 27) (n 4) a2 (n 4) = a2 from pk_us) (show upd (G11 41) (n 4) a1 (n 4) = a1 from pk_us) (show upd (G11 42) (n 4) (-1) (n 4) = (-1) from pk_us) (show upd (G11 29) (n 4) a3 (n 4) = a3 from pk_us) (show upd (G11 30) (n 4) v10 (n 4) = v10 from pk_us)) (cwV 1 hts gX7_debt_X7_putInBag rfl rfl rfl (by decide +kernel) ⟨Nat.le_of_ble_eq_true rfl, Nat.le_of_ble_eq_true rfl⟩) (cq_pre hQ hK hW0) rfl rfl hl.1 rfl (lv_room (Nat.le_of_ble_eq_true rfl)) dX7_debt_70 ⟨Nat.le_of_ble_eq_true rfl, Nat.le_of_ble_eq_true rfl⟩) hS (fun _ _ h => h) (fun _ h => h) (fun r12 u12 st12 H locs ht12 hvm12 hw12 hB12 hz12 hk12 hS => ?_)
          have g12 : r12 = nI (n 4) := hw12
          rw [ht12] at hB12
          have hC := hB12
          refine W.widen (k := 1) (n := 6) (Nat.le_of_ble_eq_true rfl) (Nat.le_of_ble_eq_true rfl) ?_
          obtain ⟨n13, f13, G13, e13, ad, rl, hC⟩ : ∃ n2 : Nat → Nat, n2 = va_up n 4 (n 4 + 1) ∧ ∃ G2 : Nat → Nat → Int32, G2 = nl_ G11 (n 4) 1 a1 a2 a3 v10 ∧ ∃ (ad2 : Nat → Nat → Nat) (rl2 : Nat → Nat × Nat), cp_ (dC, dI) cI cy h0 q A ad2 rl2 L n2 G2 H := ⟨_, rfl, _, rfl, _, _, hC⟩
          have hN : nb_ n13 := by rw [f13]; exact ⟨hN.1, hN.2.1, hN.2.2.1, hN.2.2.2.1, (show n 4 + 1 ≤ 300 by omega)⟩
          refine lv_pop hx hb dX7_debt_73 rfl ?_
          refine lv_iload hx hb dX7_debt_74 (lv_at hl 0 rfl) ?_
          have hq14 : sX_debt n G a1 a2 a3 = (v10, n13, G13) := by subst e13 f13 g12 e11 e10 e8 e3; exact (if_neg h_1).trans ((if_neg h_4).trans ((if_neg h_6).trans (if_neg h_9)))
          refine W.widen (k := 1) (n := 6) (Nat.le_of_ble_eq_true rfl) (Nat.le_of_ble_eq_true rfl) ?_
          exact W.iret (v := v10) hx hb hr (fun t9 ht hW => ⟨⟨v10, (L, ad, rl, n13, G13), rfl, ⟨hq14.symm, hN⟩, by show cp_ (dC, dI) cI cy h0 q A ad rl L n13 G13 t9.heap; rw [ht]; exact hC⟩, hS.F ht⟩) hS.2.2 dX7_debt_76
        · skip
          refine lv_iconst (v := (-1)) hx hb dX7_debt_38 (by decide) ?_
          have hq15 : sX_debt n G a1 a2 a3 = ((-1), n, G) := by subst e8 e3; exact (if_neg h_1).trans ((if_neg h_4).trans ((if_neg h_6).trans (if_pos h_9)))
          refine W.widen (k := 1) (n := 6) (Nat.le_of_ble_eq_true rfl) (Nat.le_of_ble_eq_true rfl) ?_
          exact W.iret (v := (-1)) hx hb hr (fun t9 ht hW => ⟨⟨(-1), (L, ad, rl, n, G), rfl, ⟨hq15.symm, hN⟩, by show cp_ (dC, dI) cI cy h0 q A ad rl L n G t9.heap; rw [ht]; exact hC⟩, hS.F ht⟩) hS.2.2 dX7_debt_39

set_option maxHeartbeats 8000000 in
set_option maxRecDepth 100000 in
theorem a_X7_report (l : Launch) (dC : Nat → ClassId) (dI : Nat → Nat → Nat) (h0 : Nat) (q : Nat → Nat) (cI : ClassId) (cy : Nat → ClassId) (A : Nat → Prop) (ad : Nat → Nat → Nat) (rl : Nat → Nat × Nat) (L : List Nat) (n : Nat → Nat) (G : Nat → Nat → Int32) (hN : nb_ n) (a1 : Int32) (a2 : Int32) : Met l yX7_report wsX7_report ({ frames := 3, cells := 2, slots := 12, locals := 65 }) (va_Pc [.ref h0, .int a1, .int a2] (fun U => ct_P (dC, dI) cI cy h0 q A ad rl L n G U ∧ ∀ a, U.heap.size ≤ a → A a)) (va_Qi (fun r (u : List Nat × (Nat → Nat → Nat) × (Nat → Nat × Nat) × (Nat → Nat) × (Nat → Nat → Int32)) => (r, u.2.2.2) = sX_report n G a1 a2 ∧ nb_ u.2.2.2.1) (fun u s' => cp_ (dC, dI) cI cy h0 q A u.2.1 u.2.2.1 u.1 u.2.2.2.1 u.2.2.2.2 s'.heap) A) 2 12 A := by
  refine Met.ofW (cc := cX7_report) (maxL := 4) (ret := (some .int)) (by decide) rfl ?_
  intro p e s m args below meth c s₁ B hml hv
  obtain ⟨rfl, ⟨hC, hK, hW0⟩, hA⟩ := hv
  have hx := B.exec
  have hb := B.bytes
  have hr := B.returns
  have hts := atoms_spec (ws := wsX7_report) B.pre
  have hown : s.vm.findClass RX7 = some m.cls := findClass_of_methodNamed B.named
  have hlocks := B.notSynchronized
  have hinX4 : ∀ w ∈ u_ws RX4 TX4 4, w ∈ wsX7_report := by decide +kernel
  have hinX5 : ∀ w ∈ u_ws RX5 TX5 6, w ∈ wsX7_report := by decide +kernel
  have hinX7 : ∀ w ∈ u_ws RX7 TX7 14, w ∈ wsX7_report := by decide +kernel
  have hS : va_S A s.heap s.heap [] := va_S.rf
  have hl := lv_entry ([.ref h0, .int a1, .int a2]) (n := 4) (Nat.le_of_ble_eq_true rfl)
  rw [lg_entry_eq]
  generalize (lg_sl ([.ref h0, .int a1, .int a2]) ++ List.replicate (4 - (lg_sl ([.ref h0, .int a1, .int a2])).length) Slot.unset).toArray = ls at hl ⊢
  have hl : lv_has ls 4 [(0, .ref h0), (1, .int a1), (2, .int a2)] := hl
  obtain ⟨H, hH, hC, hS⟩ : ∃ H, H = s.heap ∧ cp_ (dC, dI) cI cy h0 q A ad rl L n G H ∧ va_S A s.heap H [] := ⟨_, rfl, hC, hS⟩
  rw [← hH]
  generalize ([] : List Loc) = locs at hS ⊢
  refine lv_aload_n hx hb dX7_report_0 rfl (lv_at hl 0 rfl) ?_
  refine lv_iload_n hx hb dX7_report_1 rfl (lv_at hl 1 rfl) ?_
  refine pu_call (va_runV (As := [.int a1]) (rest := []) ⟨hx, hb, hml, hown, hts⟩ (k_X7_postAt l dC dI h0 q cI cy A ad rl L n G hN a1) (cwV 1 hts gX7_report_X7_postAt rfl rfl rfl (by decide +kernel) ⟨Nat.le_of_ble_eq_true rfl, Nat.le_of_ble_eq_true rfl⟩) (ct_pre hC hK hW0) rfl rfl hl.1 rfl (lv_room (Nat.le_of_ble_eq_true rfl)) dX7_report_2 ⟨Nat.le_of_ble_eq_true rfl, Nat.le_of_ble_eq_true rfl⟩) ?_
  by_cases h_1 : (sp_in a1 0 ((nI (n 1)) - 1)) = 0
  · rw [if_pos h_1]
    refine lv_astore_nN (lv' := [(3, .null), (0, .ref h0), (1, .int a1), (2, .int a2)]) hx hb dX7_report_5 rfl hl (by decide) rfl (fun ls hl => ?_)
    refine lv_aload_nN hx hb dX7_report_6 rfl (lv_at hl 0 rfl) ?_
    refine lv_ifnullN (tgt := 19) hx hb dX7_report_7 (by decide) ?_
    refine lv_iconst (v := (-1)) hx hb dX7_report_19 (by decide) ?_
    have hq2 : sX_report n G a1 a2 = ((-1), n, G) := by exact (if_pos h_1)
    refine W.widen (k := 2) (n := 12) (Nat.le_of_ble_eq_true rfl) (Nat.le_of_ble_eq_true rfl) ?_
    exact W.iret (v := (-1)) hx hb hr (fun t9 ht hW => ⟨⟨(-1), (L, ad, rl, n, G), rfl, ⟨hq2.symm, hN⟩, by show cp_ (dC, dI) cI cy h0 q A ad rl L n G t9.heap; rw [ht]; exact hC⟩, hS.F ht⟩) hS.2.2 dX7_report_20
  · rw [if_neg h_1]
    have hv1 := sp_live h_1 (by omega)
    refine lv_astore_n (lv' := [(3, .ref (ad 1 a1.toNatClampNeg)), (0, .ref h0), (1, .int a1), (2, .int a2)]) hx hb dX7_report_5 rfl hl (by decide) rfl (fun ls hl => ?_)
    refine lv_aload_n hx hb dX7_report_6 rfl (lv_at hl 0 rfl) ?_
    refine lv_ifnull hx hb dX7_report_7 ?_
    refine lv_aload_n hx hb dX7_report_10 rfl (lv_at hl 1 rfl) ?_
    refine lv_iload_n hx hb dX7_report_11 rfl (lv_at hl 2 rfl) ?_
    refine lv_iload_n hx hb dX7_report_12 rfl (lv_at hl 3 rfl) ?_
    refine pu_call (va_runV (As := [.int a1, .int a2]) (rest := []) ⟨hx, hb, hml, hown, hts⟩ (k_X7_canWrite l dC dI h0 q cI cy A ad rl L n G hN a1 a2) (cwV 2 hts gX7_report_X7_canWrite rfl rfl rfl (by decide +kernel) ⟨Nat.le_of_ble_eq_true rfl, Nat.le_of_ble_eq_true rfl⟩) (ct_pre hC hK hW0) rfl rfl hl.1 rfl (lv_room (Nat.le_of_ble_eq_true rfl)) dX7_report_13 ⟨Nat.le_of_ble_eq_true rfl, Nat.le_of_ble_eq_true rfl⟩) ?_
    refine lv_topi (fun r3 (e3 : r3 = sX_canWrite n G a1 a2) => ?_)
    refine lv_if_ne (tgt := 21) hx hb dX7_report_16 (by decide) (fun h_4 => ?_) (fun h_4 => ?_)
    · skip
      have hlt := sX_canWrite_b hN (by have z9 := h_4; rw [e3] at z9; exact z9)
      refine lv_aload_n hx hb dX7_report_21 rfl (lv_at hl 1 rfl) ?_
      have hQ := cp_.toQ hC
      refine cq_new (C := RX5) (T := TX5) (N := 6) (ci := 4) (ty := tyX5) (fs := [.int 0, .int 0, .int 0, .int 0, .int 0, .null]) hx hb hts hinX5 tyX5_ok hown (hts (.classLink RX7 237 RX5) (by decide +kernel)) (hts (.instantiable RX5 6) (by decide +kernel)) (hts (.initialized RX5) (by decide +kernel)) hK hQ hS hA rfl (fun j hj => by
          match j, hj with
          | 0, _ => rfl
          | 1, _ => rfl
          | 2, _ => rfl
          | 3, _ => rfl
          | 4, _ => rfl
          | 5, _ => rfl
          | k + 6, h => omega) (Nat.le_of_ble_eq_true rfl) (Nat.le_of_ble_eq_true rfl) dX7_report_22 (fun a_22 H hQ hne22 hS => ?_)
      obtain ⟨L, hQ⟩ : ∃ L2, cq_ (dC, dI) cI cy h0 q A ad rl L2 n G [(a_22, .inr (4, [.int 0, .int 0, .int 0, .int 0, .int 0, .null]))] H := ⟨_, hQ⟩
      have hC := hQ.toC
      refine W.widen (k := 1) (n := 6) (Nat.le_of_ble_eq_true rfl) (Nat.le_of_ble_eq_true rfl) ?_
      refine lv_dup hx hb dX7_report_25 rfl ?_
      refine lv_iload_n hx hb dX7_report_26 rfl (lv_at hl 2 rfl) ?_
      refine lv_iload_n hx hb dX7_report_27 rfl (lv_at hl 3 rfl) ?_
      refine lv_aload_n hx hb dX7_report_28 rfl (lv_at hl 1 rfl) ?_
      refine cx_get hx hb hts hinX7 hown hK hC 8 (by decide) (v := .int (nI (n 0))) rfl (hts (.fieldLink RX7 103 "FurPosts" "now" "I") (by decide +kernel)) dX7_report_29 ?_
      refine lv_aload_n hx hb dX7_report_32 rfl (lv_at hl 0 rfl) ?_
      refine co_get 1 a1.toNatClampNeg (C := RX4) (T := TX4) (N := 4) (ci := 3) (v := .ref (ad 5 a1.toNatClampNeg)) hx hb hts hinX4 hown hK hC hv1 (fun _ h9 => h9) rfl 0 (by decide) (hts (.fieldLink RX7 92 "FurPosts$Post" "stock" "[I") (by decide +kernel)) (fun _ h9 => h9) rfl dX7_report_33 ?_
      refine cq_clone 5 a1.toNatClampNeg hx hb (hml.trans hl.1.symm) hown (hts (.methodLink RX7 123 ⟨"[I", "clone", "()Ljava/lang/Object;"⟩) (by decide +kernel)) (hts (.sameMethod "[I" "java/lang/Object" "clone" "()Ljava/lang/Object;") (by decide +kernel)) (hts (.native ⟨"java/lang/Object", "clone", "()Ljava/lang/Object;"⟩) (by decide +kernel)) (hts (.instanceMethod ⟨"java/lang/Object", "clone", "()Ljava/lang/Object;"⟩) (by decide +kernel)) (hts (.selects "[I" ⟨"[I", "clone", "()Ljava/lang/Object;"⟩ ⟨"java/lang/Object", "clone", "()Ljava/lang/Object;"⟩) (by decide +kernel)) hW0 hK hQ hS hA hv1 rfl (Nat.le_of_ble_eq_true rfl) (Nat.le_of_ble_eq_true rfl) (Nat.le_of_ble_eq_true rfl) (Nat.le_of_ble_eq_true rfl) dX7_report_36 (fun z_36 g_36 H hg36 hQ hne36 hS => ?_)
      have hg36 : ∀ w, w < 6 → g_36 w = G 2 (6 * a1.toNatClampNeg + w) := hg36
      have hza : ¬ a_22 = z_36 := hne36 _ (List.mem_cons_self)
      obtain ⟨L, hQ⟩ : ∃ L2, cq_ (dC, dI) cI cy h0 q A ad rl L2 n G [(z_36, .inl (cI, 6, .inl g_36)), (a_22, .inr (4, [.int 0, .int 0, .int 0, .int 0, .int 0, .null]))] H := ⟨_, hQ⟩
      have hC := hQ.toC
      refine W.widen (k := 2) (n := 12) (Nat.le_of_ble_eq_true rfl) (Nat.le_of_ble_eq_true rfl) ?_
      refine cq_cast hx hb hown (hts (.classLink RX7 124 "[I") (by decide +kernel)) hK hQ (List.mem_cons_self) dX7_report_39 ?_
      obtain ⟨hs1, hAa, -⟩ := cq_one hQ (List.mem_cons_of_mem _ (List.mem_cons_self))
      refine va_callv (va_runI (As := [.int a1, .int a2, .int (nI (n 0)), .ref z_36]) (rest := [.ref a_22, .ref h0]) ⟨hx, hb, hml, hown, hts⟩ (c_X5_init l dC dI a_22 a1 a2 (nI (n 0)) z_36) (cwI 4 hts gX7_report_X5_init rfl rfl rfl (hts (.initialized RX5) (by decide +kernel)) (hts (.methodLink RX7 239 yX5_init) (by decide +kernel)) (hts (.instanceMethod yX5_init) (by decide +kernel)) rfl (by decide +kernel) ⟨Nat.le_of_ble_eq_true rfl, Nat.le_of_ble_eq_true rfl⟩) ⟨pu_blind, fun U hU hW => ⟨rfl, by rw [hU]; exact hs1, va_K.moved hW.alike (hK.sub [] rfl)⟩⟩ rfl rfl hl.1 rfl (lv_room (Nat.le_of_ble_eq_true rfl)) dX7_report_42 ⟨Nat.le_of_ble_eq_true rfl, Nat.le_of_ble_eq_true rfl⟩) hS (fun x _ h => by rw [h]; exact hAa) (fun x h => by rw [h]; exact hAa) (fun u st H1 locs ht hvm hw hB hz hk hS => ?_)
      rw [ht] at hB
      have hQ := cq_set (pd' := [(z_36, .inl (cI, 6, .inl g_36)), (a_22, .inr (4, [.int a1, .int a2, .int a1, .int (-1), .int (nI (n 0)), .ref z_36]))]) hQ (List.mem_cons_of_mem _ (List.mem_cons_self)) hk hB (fun x hx => by
        rcases List.mem_cons.mp hx with h | h
        · exact Or.inr ⟨by rw [h]; exact (List.mem_cons_self), by rw [h]; exact fun y => hza y.symm⟩
        · exact Or.inl (List.mem_singleton.mp h))
      have hC := hQ.toC
      clear ht hvm hw hB hz hk
      generalize H1 = H at hQ hC hS ⊢
      refine W.widen (k := 2) (n := 12) (Nat.le_of_ble_eq_true rfl) (Nat.le_of_ble_eq_true rfl) ?_
      refine va_calli (va_runV (As := [.ref a_22]) (rest := []) ⟨hx, hb, hml, hown, hts⟩ (b_report l dC dI h0 q cI cy A ad rl L n G hN a_22 z_36 g_36 (fun y => hza y.symm) a1 a2 a1 (-1) (nI (n 0)) (c6_ (nl_ G (n 4) 2 a1 a2 a1 (nI (n 0))) 31 (6 * n 4) (fun w => G 2 (6 * a1.toNatClampNeg + w))) hlt (fun s x h => (c6_o (fun z => h.1 (by rw [z.1]; show (11, x / 6) = (11, n 4); rw [show x / 6 = n 4 by omega]))).trans (nl_o h.2)) (by rw [show (c6_ (nl_ G (n 4) 2 a1 a2 a1 (nI (n 0))) 31 (6 * n 4) (fun w => G 2 (6 * a1.toNatClampNeg + w))) 26 (n 4) = 2 from ((c6_o (fun z => absurd z.1 (by decide))).trans (show upd (G 26) (n 4) 2 (n 4) = 2 from pk_us))]; decide) (by rw [show (c6_ (nl_ G (n 4) 2 a1 a2 a1 (nI (n 0))) 31 (6 * n 4) (fun w => G 2 (6 * a1.toNatClampNeg + w))) 26 (n 4) = 2 from ((c6_o (fun z => absurd z.1 (by decide))).trans (show upd (G 26) (n 4) 2 (n 4) = 2 from pk_us))]; decide) ((c6_o (fun z => absurd z.1 (by decide))).trans (show upd (G 40) (n 4) a1 (n 4) = a1 from pk_us)) ((c6_o (fun z => absurd z.1 (by decide))).trans (show upd (G 27) (n 4) a2 (n 4) = a2 from pk_us)) ((c6_o (fun z => absurd z.1 (by decide))).trans (show upd (G 41) (n 4) a1 (n 4) = a1 from pk_us)) ((c6_o (fun z => absurd z.1 (by decide))).trans (show upd (G 42) (n 4) (-1) (n 4) = (-1) from pk_us)) ((c6_o (fun z => absurd z.1 (by decide))).trans (show upd (G 30) (n 4) (nI (n 0)) (n 4) = (nI (n 0)) from pk_us)) (fun x hx => (hg36 x hx).trans (c6_i (G := nl_ G (n 4) 2 a1 a2 a1 (nI (n 0))) (s := 31) (b := 6 * n 4) (g := fun w => G 2 (6 * a1.toNatClampNeg + w)) hx).symm)) (cwV 1 hts gX7_report_X7_putInBag rfl rfl rfl (by decide +kernel) ⟨Nat.le_of_ble_eq_true rfl, Nat.le_of_ble_eq_true rfl⟩) (cq_pre hQ hK hW0) rfl rfl hl.1 rfl (lv_room (Nat.le_of_ble_eq_true rfl)) dX7_report_45 ⟨Nat.le_of_ble_eq_true rfl, Nat.le_of_ble_eq_true rfl⟩) hS (fun _ _ h => h) (fun _ h => h) (fun r5 u5 st5 H locs ht5 hvm5 hw5 hB5 hz5 hk5 hS => ?_)
      have g5 : r5 = nI (n 4) := hw5
      rw [ht5] at hB5
      have hC := hB5
      refine W.widen (k := 2) (n := 12) (Nat.le_of_ble_eq_true rfl) (Nat.le_of_ble_eq_true rfl) ?_
      obtain ⟨n6, f6, G6, e6, ad, rl, hC⟩ : ∃ n2 : Nat → Nat, n2 = va_up n 4 (n 4 + 1) ∧ ∃ G2 : Nat → Nat → Int32, G2 = c6_ (nl_ G (n 4) 2 a1 a2 a1 (nI (n 0))) 31 (6 * n 4) (fun w => G 2 (6 * a1.toNatClampNeg + w)) ∧ ∃ (ad2 : Nat → Nat → Nat) (rl2 : Nat → Nat × Nat), cp_ (dC, dI) cI cy h0 q A ad2 rl2 L n2 G2 H := ⟨_, rfl, _, rfl, _, _, hC⟩
      have hN : nb_ n6 := by rw [f6]; exact ⟨hN.1, hN.2.1, hN.2.2.1, hN.2.2.2.1, (show n 4 + 1 ≤ 300 by omega)⟩
      have hq7 : sX_report n G a1 a2 = (r5, n6, G6) := by subst e6 f6 g5 e3; exact (if_neg h_1).trans (if_neg h_4)
      refine W.widen (k := 2) (n := 12) (Nat.le_of_ble_eq_true rfl) (Nat.le_of_ble_eq_true rfl) ?_
      exact W.iret (v := r5) hx hb hr (fun t9 ht hW => ⟨⟨r5, (L, ad, rl, n6, G6), rfl, ⟨hq7.symm, hN⟩, by show cp_ (dC, dI) cI cy h0 q A ad rl L n6 G6 t9.heap; rw [ht]; exact hC⟩, hS.F ht⟩) hS.2.2 dX7_report_48
    · skip
      refine lv_iconst (v := (-1)) hx hb dX7_report_19 (by decide) ?_
      have hq8 : sX_report n G a1 a2 = ((-1), n, G) := by subst e3; exact (if_neg h_1).trans (if_pos h_4)
      refine W.widen (k := 2) (n := 12) (Nat.le_of_ble_eq_true rfl) (Nat.le_of_ble_eq_true rfl) ?_
      exact W.iret (v := (-1)) hx hb hr (fun t9 ht hW => ⟨⟨(-1), (L, ad, rl, n, G), rfl, ⟨hq8.symm, hN⟩, by show cp_ (dC, dI) cI cy h0 q A ad rl L n G t9.heap; rw [ht]; exact hC⟩, hS.F ht⟩) hS.2.2 dX7_report_20

set_option maxHeartbeats 8000000 in
set_option maxRecDepth 100000 in
theorem a_X7_post (l : Launch) (dC : Nat → ClassId) (dI : Nat → Nat → Nat) (h0 : Nat) (q : Nat → Nat) (cI : ClassId) (cy : Nat → ClassId) (A : Nat → Prop) (ad : Nat → Nat → Nat) (rl : Nat → Nat × Nat) (L : List Nat) (n : Nat → Nat) (G : Nat → Nat → Int32) (hN : nb_ n) (hfr : fr_ n G) : Met l yX7_post wsX7_post ({ frames := 2, cells := 5, slots := 36, locals := 43 }) (va_Pc [.ref h0] (fun U => ct_P (dC, dI) cI cy h0 q A ad rl L n G U ∧ ∀ a, U.heap.size ≤ a → A a)) (va_Qi (fun r (u : List Nat × (Nat → Nat → Nat) × (Nat → Nat × Nat) × (Nat → Nat) × (Nat → Nat → Int32)) => (r, u.2.2.2) = sX_post n G ∧ nb_ u.2.2.2.1) (fun u s' => cp_ (dC, dI) cI cy h0 q A u.2.1 u.2.2.1 u.1 u.2.2.2.1 u.2.2.2.2 s'.heap) A) 5 36 A := by
  refine Met.ofW (cc := cX7_post) (maxL := 1) (ret := (some .int)) (by decide) rfl ?_
  intro p e s m args below meth c s₁ B hml hv
  obtain ⟨rfl, ⟨hC, hK, hW0⟩, hA⟩ := hv
  have hx := B.exec
  have hb := B.bytes
  have hr := B.returns
  have hts := atoms_spec (ws := wsX7_post) B.pre
  have hown : s.vm.findClass RX7 = some m.cls := findClass_of_methodNamed B.named
  have hlocks := B.notSynchronized
  have hinX4 : ∀ w ∈ u_ws RX4 TX4 4, w ∈ wsX7_post := by decide +kernel
  have hinX7 : ∀ w ∈ u_ws RX7 TX7 14, w ∈ wsX7_post := by decide +kernel
  have hS : va_S A s.heap s.heap [] := va_S.rf
  have hl := lv_entry ([.ref h0]) (n := 1) (Nat.le_of_ble_eq_true rfl)
  rw [lg_entry_eq]
  generalize (lg_sl ([.ref h0]) ++ List.replicate (1 - (lg_sl ([.ref h0])).length) Slot.unset).toArray = ls at hl ⊢
  have hl : lv_has ls 1 [(0, .ref h0)] := hl
  obtain ⟨H, hH, hC, hS⟩ : ∃ H, H = s.heap ∧ cp_ (dC, dI) cI cy h0 q A ad rl L n G H ∧ va_S A s.heap H [] := ⟨_, rfl, hC, hS⟩
  rw [← hH]
  generalize ([] : List Loc) = locs at hS ⊢
  refine lv_aload_n hx hb dX7_post_0 rfl (lv_at hl 0 rfl) ?_
  refine cx_get hx hb hts hinX7 hown hK hC 9 (by decide) (v := .int (nI (n 1))) rfl (hts (.fieldLink RX7 54 "FurPosts" "postCount" "I") (by decide +kernel)) dX7_post_1 ?_
  refine lv_bipush (v := 8) hx hb dX7_post_4 (by decide) ?_
  refine lv_icmp_lt (tgt := 11) hx hb dX7_post_6 (by decide) (fun h_1 => ?_) (fun h_1 => ?_)
  · skip
    have hlt := nI_linv2 (B := 8) h_1 rfl (by omega)
    refine lv_aload_n hx hb dX7_post_11 rfl (lv_at hl 0 rfl) ?_
    refine cx_get hx hb hts hinX7 hown hK hC 0 (by decide) (v := .ref (q 1)) rfl (hts (.fieldLink RX7 11 "FurPosts" "posts" "[LFurPosts$Post;") (by decide +kernel)) dX7_post_12 ?_
    refine lv_aload_n hx hb dX7_post_15 rfl (lv_at hl 0 rfl) ?_
    refine cx_get hx hb hts hinX7 hown hK hC 9 (by decide) (v := .int (nI (n 1))) rfl (hts (.fieldLink RX7 54 "FurPosts" "postCount" "I") (by decide +kernel)) dX7_post_16 ?_
    have hQ := cp_.toQ hC
    refine cq_new (C := RX4) (T := TX4) (N := 4) (ci := 3) (ty := tyX4) (fs := [.null, .null, .null, .null]) hx hb hts hinX4 tyX4_ok hown (hts (.classLink RX7 9 RX4) (by decide +kernel)) (hts (.instantiable RX4 4) (by decide +kernel)) (hts (.initialized RX4) (by decide +kernel)) hK hQ hS hA rfl (fun j hj => by
        match j, hj with
        | 0, _ => rfl
        | 1, _ => rfl
        | 2, _ => rfl
        | 3, _ => rfl
        | k + 4, h => omega) (Nat.le_of_ble_eq_true rfl) (Nat.le_of_ble_eq_true rfl) dX7_post_19 (fun a_19 H hQ hne19 hS => ?_)
    obtain ⟨L, hQ⟩ : ∃ L2, cq_ (dC, dI) cI cy h0 q A ad rl L2 n G [(a_19, .inr (3, [.null, .null, .null, .null]))] H := ⟨_, hQ⟩
    have hC := hQ.toC
    refine W.widen (k := 1) (n := 4) (Nat.le_of_ble_eq_true rfl) (Nat.le_of_ble_eq_true rfl) ?_
    refine lv_dup hx hb dX7_post_22 rfl ?_
    obtain ⟨hs1, hAa, hltA⟩ := cq_one hQ (List.mem_cons_self)
    have hS0 := hS
    have hAs : ∀ x, va_A [(a_19, .inr (3, [.null, .null, .null, .null]))] H.size x → A x := fun x h => h.elim (fun h => by obtain ⟨k9, e9, h9⟩ := h; have h1 : k9 < 1 := (List.getElem?_eq_some_iff.mp h9).1; rw [show k9 = 0 by omega] at h9; cases h9; exact hAa) (fun h => hA x (Nat.le_trans hS.1 h))
    refine va_callv (va_runI (As := []) (rest := [.ref a_19, .int (nI (n 1)), .ref (q 1)]) ⟨hx, hb, hml, hown, hts⟩ (c_X4_init2 l dC dI a_19 H.size cI (cy 7)) (cwI 0 hts gX7_post_X4_init rfl rfl rfl (hts (.initialized RX4) (by decide +kernel)) (hts (.methodLink RX7 58 yX4_init) (by decide +kernel)) (hts (.instanceMethod yX4_init) (by decide +kernel)) rfl (by decide +kernel) ⟨Nat.le_of_ble_eq_true rfl, Nat.le_of_ble_eq_true rfl⟩) ⟨fun a U g mk y => by obtain ⟨y0, y1, yP, yK, yO⟩ := y; exact ⟨y0, y1, yP, va_K.moved (u := U) (U := U.calling g mk a) (Vm.Alike.refl U.vm) yK, va_AO.moved (u := U) (U := U.calling g mk a) (Vm.Alike.refl U.vm) yO⟩, fun U hU hW => ⟨rfl, by rw [hU], by rw [hU]; exact hs1, va_K.moved hW.alike (hK.sub [0, 1] rfl), va_AO.moved hW.alike (nw_ao hW0)⟩⟩ rfl rfl hl.1 rfl (lv_room (Nat.le_of_ble_eq_true rfl)) dX7_post_23 ⟨Nat.le_of_ble_eq_true rfl, Nat.le_of_ble_eq_true rfl⟩) hS (fun x _ h => hAs x h) hAs (fun u st H1 locs ht hvm hw hB hz hk hS => ?_)
    obtain ⟨s1, p1, o1, r1, g1, hg1, hB, hBD⟩ := hB
    rw [ht] at hB
    have hkk : ∀ x : Nat, x < H.size → ¬ x = a_19 → H1[x]? = H[x]? := fun x h1 h2 => hk x h1 (fun h => h.elim (fun h => by obtain ⟨k9, e9, h9⟩ := h; have h3 : k9 < 1 := (List.getElem?_eq_some_iff.mp h9).1; rw [show k9 = 0 by omega] at h9; cases h9; exact h2 rfl) (fun h => by omega))
    have h_s1_a : ¬ s1 = a_19 := fun y => absurd (hBD.1 1 0 _ _ rfl rfl y) (by decide)
    have hzs1 : H.size ≤ s1 := (hBD.2 1 _ rfl).elim (fun h => by obtain ⟨k9, e9, h9⟩ := h; have h3 : k9 < 1 := (List.getElem?_eq_some_iff.mp h9).1; rw [show k9 = 0 by omega] at h9; cases h9; exact absurd rfl h_s1_a) (fun h => h)
    have hls1 := cq_lt hQ hzs1
    have hAs1 : A s1 := hA s1 (Nat.le_trans hS0.1 hzs1)
    have h_o1_a : ¬ o1 = a_19 := fun y => absurd (hBD.1 2 0 _ _ rfl rfl y) (by decide)
    have hzo1 : H.size ≤ o1 := (hBD.2 2 _ rfl).elim (fun h => by obtain ⟨k9, e9, h9⟩ := h; have h3 : k9 < 1 := (List.getElem?_eq_some_iff.mp h9).1; rw [show k9 = 0 by omega] at h9; cases h9; exact absurd rfl h_o1_a) (fun h => h)
    have hlo1 := cq_lt hQ hzo1
    have hAo1 : A o1 := hA o1 (Nat.le_trans hS0.1 hzo1)
    have h_r1_a : ¬ r1 = a_19 := fun y => absurd (hBD.1 3 0 _ _ rfl rfl y) (by decide)
    have hzr1 : H.size ≤ r1 := (hBD.2 3 _ rfl).elim (fun h => by obtain ⟨k9, e9, h9⟩ := h; have h3 : k9 < 1 := (List.getElem?_eq_some_iff.mp h9).1; rw [show k9 = 0 by omega] at h9; cases h9; exact absurd rfl h_r1_a) (fun h => h)
    have hlr1 := cq_lt hQ hzr1
    have hAr1 : A r1 := hA r1 (Nat.le_trans hS0.1 hzr1)
    have h_p1_a : ¬ p1 = a_19 := fun y => absurd (hBD.1 4 0 _ _ rfl rfl y) (by decide)
    have hzp1 : H.size ≤ p1 := (hBD.2 4 _ rfl).elim (fun h => by obtain ⟨k9, e9, h9⟩ := h; have h3 : k9 < 1 := (List.getElem?_eq_some_iff.mp h9).1; rw [show k9 = 0 by omega] at h9; cases h9; exact absurd rfl h_p1_a) (fun h => h)
    have hlp1 := cq_lt hQ hzp1
    have hAp1 : A p1 := hA p1 (Nat.le_trans hS0.1 hzp1)
    have h_s1_o1 : ¬ s1 = o1 := fun y => absurd (hBD.1 1 2 _ _ rfl rfl y) (by decide)
    have h_s1_r1 : ¬ s1 = r1 := fun y => absurd (hBD.1 1 3 _ _ rfl rfl y) (by decide)
    have h_s1_p1 : ¬ s1 = p1 := fun y => absurd (hBD.1 1 4 _ _ rfl rfl y) (by decide)
    have h_o1_r1 : ¬ o1 = r1 := fun y => absurd (hBD.1 2 3 _ _ rfl rfl y) (by decide)
    have h_o1_p1 : ¬ o1 = p1 := fun y => absurd (hBD.1 2 4 _ _ rfl rfl y) (by decide)
    have h_r1_p1 : ¬ r1 = p1 := fun y => absurd (hBD.1 3 4 _ _ rfl rfl y) (by decide)
    have hQ := cq_set (pd' := [(a_19, .inr (3, [.ref s1, .ref p1, .ref o1, .ref r1]))]) hQ (List.mem_cons_self) hkk (hB.sub [0] rfl) (fun x hx => Or.inl (List.mem_singleton.mp hx))
    have hQ := cq_add hQ (hB.sub (ws' := [(p1, .inl (cI, 6, .inl g1))]) [4] rfl) hlp1.1 hlp1.2 hAp1
    have hQ := cq_add hQ (hB.sub (ws' := [(r1, .inl (cy 7, 8, .inr (.inr (.inr (.inr nn_)))))]) [3] rfl) (fun y => (List.mem_append.mp y).elim hlr1.1 (fun y => (h_r1_p1) (List.mem_singleton.mp y))) hlr1.2 hAr1
    have hQ := cq_add hQ (hB.sub (ws' := [(o1, .inl (cI, 12, .inl zz_))]) [2] rfl) (fun y => (List.mem_append.mp y).elim (fun y => (List.mem_append.mp y).elim hlo1.1 (fun y => (h_o1_p1) (List.mem_singleton.mp y))) (fun y => (h_o1_r1) (List.mem_singleton.mp y))) hlo1.2 hAo1
    have hQ := cq_add hQ (hB.sub (ws' := [(s1, .inl (cI, 6, .inl zz_))]) [1] rfl) (fun y => (List.mem_append.mp y).elim (fun y => (List.mem_append.mp y).elim (fun y => (List.mem_append.mp y).elim hls1.1 (fun y => (h_s1_p1) (List.mem_singleton.mp y))) (fun y => (h_s1_r1) (List.mem_singleton.mp y))) (fun y => (h_s1_o1) (List.mem_singleton.mp y))) hls1.2 hAs1
    clear ht hvm hw hz hk hkk
    generalize H1 = H at hQ hS ⊢
    obtain ⟨L, hQ⟩ : ∃ L2, cq_ (dC, dI) cI cy h0 q A ad rl L2 n G [(s1, .inl (cI, 6, .inl zz_)), (o1, .inl (cI, 12, .inl zz_)), (r1, .inl (cy 7, 8, .inr (.inr (.inr (.inr nn_))))), (p1, .inl (cI, 6, .inl g1)), (a_19, .inr (3, [.ref s1, .ref p1, .ref o1, .ref r1]))] H := ⟨_, hQ⟩
    have hC := hQ.toC
    refine W.widen (k := 5) (n := 36) (Nat.le_of_ble_eq_true rfl) (Nat.le_of_ble_eq_true rfl) ?_
    refine cz_ast1 hx hb hW0 hK hQ hS (List.mem_cons_of_mem _ (List.mem_cons_of_mem _ (List.mem_cons_of_mem _ (List.mem_cons_of_mem _ (List.mem_cons_self))))) rfl rfl (by omega) dX7_post_26 (fun H locs hZ hS => ?_)
    refine lv_aload_n hx hb dX7_post_27 rfl (lv_at hl 0 rfl) ?_
    refine lv_dup hx hb dX7_post_28 rfl ?_
    refine cz_get1 hx hb hts hinX7 hown hK hZ (hts (.fieldLink RX7 54 "FurPosts" "postCount" "I") (by decide +kernel)) dX7_post_29 ?_
    refine lv_iconst (v := 1) hx hb dX7_post_32 (by decide) ?_
    refine lv_iadd hx hb dX7_post_33 ?_
    rw [nI_1]
    refine cz_put1 hx hb hts hinX7 hown hK hZ hS (hts (.fieldLink RX7 54 "FurPosts" "postCount" "I") (by decide +kernel)) dX7_post_34 (fun H locs f hP hD hL hp hS => ?_)
    have hC := cl_post (G' := G) hN hP hD hL hp h_s1_o1 h_s1_r1 h_s1_p1 h_s1_a h_o1_r1 h_o1_p1 h_o1_a h_r1_p1 h_r1_a h_p1_a (fun _ _ _ => rfl) (hfr _ (Nat.le_refl _)).1 (hfr _ (Nat.le_refl _)).2.1 (hfr _ (Nat.le_refl _)).2.2.1 (hfr _ (Nat.le_refl _)).2.2.2 hg1
    obtain ⟨n2, f2, G2, e2, ad, rl, hC⟩ : ∃ n2 : Nat → Nat, n2 = va_up n 1 (n 1 + 1) ∧ ∃ G2 : Nat → Nat → Int32, G2 = G ∧ ∃ (ad2 : Nat → Nat → Nat) (rl2 : Nat → Nat × Nat), cp_ (dC, dI) cI cy h0 q A ad2 rl2 L n2 G2 H := ⟨_, rfl, _, rfl, _, _, hC⟩
    have hN : nb_ n2 := by rw [f2]; exact ⟨hN.1, (show n 1 + 1 ≤ 8 by omega), hN.2.2.1, hN.2.2.2.1, hN.2.2.2.2⟩
    refine lv_aload_n hx hb dX7_post_37 rfl (lv_at hl 0 rfl) ?_
    refine cx_get hx hb hts hinX7 hown hK hC 9 (by decide) (v := .int (nI (n2 1))) rfl (hts (.fieldLink RX7 54 "FurPosts" "postCount" "I") (by decide +kernel)) dX7_post_38 ?_
    refine lv_iconst (v := 1) hx hb dX7_post_41 (by decide) ?_
    refine lv_isub hx hb dX7_post_42 ?_
    have hq3 : sX_post n G = (((nI (n2 1)) - 1), n2, G2) := by subst e2 f2; exact (if_pos h_1)
    refine W.widen (k := 5) (n := 36) (Nat.le_of_ble_eq_true rfl) (Nat.le_of_ble_eq_true rfl) ?_
    exact W.iret (v := ((nI (n2 1)) - 1)) hx hb hr (fun t9 ht hW => ⟨⟨((nI (n2 1)) - 1), (L, ad, rl, n2, G2), rfl, ⟨hq3.symm, hN⟩, by show cp_ (dC, dI) cI cy h0 q A ad rl L n2 G2 t9.heap; rw [ht]; exact hC⟩, hS.F ht⟩) hS.2.2 dX7_post_43
  · skip
    refine lv_iconst (v := (-1)) hx hb dX7_post_9 (by decide) ?_
    have hq4 : sX_post n G = ((-1), n, G) := by exact (if_neg h_1)
    refine W.widen (k := 5) (n := 36) (Nat.le_of_ble_eq_true rfl) (Nat.le_of_ble_eq_true rfl) ?_
    exact W.iret (v := (-1)) hx hb hr (fun t9 ht hW => ⟨⟨(-1), (L, ad, rl, n, G), rfl, ⟨hq4.symm, hN⟩, by show cp_ (dC, dI) cI cy h0 q A ad rl L n G t9.heap; rw [ht]; exact hC⟩, hS.F ht⟩) hS.2.2 dX7_post_10

set_option maxHeartbeats 8000000 in
set_option maxRecDepth 100000 in
theorem a_X7_send (l : Launch) (dC : Nat → ClassId) (dI : Nat → Nat → Nat) (h0 : Nat) (q : Nat → Nat) (cI : ClassId) (cy : Nat → ClassId) (A : Nat → Prop) (ad : Nat → Nat → Nat) (rl : Nat → Nat × Nat) (L : List Nat) (n : Nat → Nat) (G : Nat → Nat → Int32) (hN : nb_ n) (a1 : Int32) (a2 : Int32) : Met l yX7_send wsX7_send ({ frames := 4, cells := 3, slots := 23, locals := 91 }) (va_Pc [.ref h0, .int a1, .int a2] (fun U => ct_P (dC, dI) cI cy h0 q A ad rl L n G U ∧ ∀ a, U.heap.size ≤ a → A a)) (va_Qi (fun r (u : List Nat × (Nat → Nat → Nat) × (Nat → Nat × Nat) × (Nat → Nat) × (Nat → Nat → Int32)) => (r, u.2.2.2) = sX_send n G a1 a2 ∧ nb_ u.2.2.2.1) (fun u s' => cp_ (dC, dI) cI cy h0 q A u.2.1 u.2.2.1 u.1 u.2.2.2.1 u.2.2.2.2 s'.heap) A) 3 23 A := by
  refine Met.ofW (cc := cX7_send) (maxL := 8) (ret := (some .int)) (by decide) rfl ?_
  intro p e s m args below meth c s₁ B hml hv
  obtain ⟨rfl, ⟨hC, hK, hW0⟩, hA⟩ := hv
  have hx := B.exec
  have hb := B.bytes
  have hr := B.returns
  have hts := atoms_spec (ws := wsX7_send) B.pre
  have hown : s.vm.findClass RX7 = some m.cls := findClass_of_methodNamed B.named
  have hlocks := B.notSynchronized
  have hinX0 : ∀ w ∈ u_ws RX0 TX0 11, w ∈ wsX7_send := by decide +kernel
  have hinX4 : ∀ w ∈ u_ws RX4 TX4 4, w ∈ wsX7_send := by decide +kernel
  have hinX6 : ∀ w ∈ u_ws RX6 TX6 6, w ∈ wsX7_send := by decide +kernel
  have hinX7 : ∀ w ∈ u_ws RX7 TX7 14, w ∈ wsX7_send := by decide +kernel
  have hS : va_S A s.heap s.heap [] := va_S.rf
  have hl := lv_entry ([.ref h0, .int a1, .int a2]) (n := 8) (Nat.le_of_ble_eq_true rfl)
  rw [lg_entry_eq]
  generalize (lg_sl ([.ref h0, .int a1, .int a2]) ++ List.replicate (8 - (lg_sl ([.ref h0, .int a1, .int a2])).length) Slot.unset).toArray = ls at hl ⊢
  have hl : lv_has ls 8 [(0, .ref h0), (1, .int a1), (2, .int a2)] := hl
  obtain ⟨H, hH, hC, hS⟩ : ∃ H, H = s.heap ∧ cp_ (dC, dI) cI cy h0 q A ad rl L n G H ∧ va_S A s.heap H [] := ⟨_, rfl, hC, hS⟩
  rw [← hH]
  generalize ([] : List Loc) = locs at hS ⊢
  refine lv_aload_n hx hb dX7_send_0 rfl (lv_at hl 0 rfl) ?_
  refine lv_iload_n hx hb dX7_send_1 rfl (lv_at hl 1 rfl) ?_
  refine pu_call (va_runV (As := [.int a1]) (rest := []) ⟨hx, hb, hml, hown, hts⟩ (k_X7_postAt l dC dI h0 q cI cy A ad rl L n G hN a1) (cwV 1 hts gX7_send_X7_postAt rfl rfl rfl (by decide +kernel) ⟨Nat.le_of_ble_eq_true rfl, Nat.le_of_ble_eq_true rfl⟩) (ct_pre hC hK hW0) rfl rfl hl.1 rfl (lv_room (Nat.le_of_ble_eq_true rfl)) dX7_send_2 ⟨Nat.le_of_ble_eq_true rfl, Nat.le_of_ble_eq_true rfl⟩) ?_
  by_cases h_1 : (sp_in a1 0 ((nI (n 1)) - 1)) = 0
  · rw [if_pos h_1]
    refine lv_astore_nN (lv' := [(3, .null), (0, .ref h0), (1, .int a1), (2, .int a2)]) hx hb dX7_send_5 rfl hl (by decide) rfl (fun ls hl => ?_)
    refine lv_aload_n hx hb dX7_send_6 rfl (lv_at hl 1 rfl) ?_
    refine lv_iload_n hx hb dX7_send_7 rfl (lv_at hl 3 rfl) ?_
    refine pu_call (va_runV (As := [.int a2]) (rest := []) ⟨hx, hb, hml, hown, hts⟩ (k_X7_wayAt l dC dI h0 q cI cy A ad rl L n G hN a2) (cwV 1 hts gX7_send_X7_wayAt rfl rfl rfl (by decide +kernel) ⟨Nat.le_of_ble_eq_true rfl, Nat.le_of_ble_eq_true rfl⟩) (ct_pre hC hK hW0) rfl rfl hl.1 rfl (lv_room (Nat.le_of_ble_eq_true rfl)) dX7_send_8 ⟨Nat.le_of_ble_eq_true rfl, Nat.le_of_ble_eq_true rfl⟩) ?_
    by_cases h_2 : (sp_in a2 0 ((nI (n 2)) - 1)) = 0
    · rw [if_pos h_2]
      refine lv_astoreN (lv' := [(4, .null), (3, .null), (0, .ref h0), (1, .int a1), (2, .int a2)]) hx hb dX7_send_11 hl (by decide) rfl (fun ls hl => ?_)
      refine lv_aload_nN hx hb dX7_send_13 rfl (lv_at hl 1 rfl) ?_
      refine lv_ifnullN (tgt := 43) hx hb dX7_send_14 (by decide) ?_
      refine lv_iconst (v := (-1)) hx hb dX7_send_43 (by decide) ?_
      have hq3 : sX_send n G a1 a2 = ((-1), n, G) := by exact (if_pos h_1).trans (if_pos h_2)
      refine W.widen (k := 3) (n := 23) (Nat.le_of_ble_eq_true rfl) (Nat.le_of_ble_eq_true rfl) ?_
      exact W.iret (v := (-1)) hx hb hr (fun t9 ht hW => ⟨⟨(-1), (L, ad, rl, n, G), rfl, ⟨hq3.symm, hN⟩, by show cp_ (dC, dI) cI cy h0 q A ad rl L n G t9.heap; rw [ht]; exact hC⟩, hS.F ht⟩) hS.2.2 dX7_send_44
    · rw [if_neg h_2]
      have hv2 := sp_live h_2 (by omega)
      refine lv_astore (lv' := [(4, .ref (ad 2 a2.toNatClampNeg)), (3, .null), (0, .ref h0), (1, .int a1), (2, .int a2)]) hx hb dX7_send_11 hl (by decide) rfl (fun ls hl => ?_)
      refine lv_aload_nN hx hb dX7_send_13 rfl (lv_at hl 1 rfl) ?_
      refine lv_ifnullN (tgt := 43) hx hb dX7_send_14 (by decide) ?_
      refine lv_iconst (v := (-1)) hx hb dX7_send_43 (by decide) ?_
      have hq4 : sX_send n G a1 a2 = ((-1), n, G) := by exact (if_pos h_1).trans (if_neg h_2)
      refine W.widen (k := 3) (n := 23) (Nat.le_of_ble_eq_true rfl) (Nat.le_of_ble_eq_true rfl) ?_
      exact W.iret (v := (-1)) hx hb hr (fun t9 ht hW => ⟨⟨(-1), (L, ad, rl, n, G), rfl, ⟨hq4.symm, hN⟩, by show cp_ (dC, dI) cI cy h0 q A ad rl L n G t9.heap; rw [ht]; exact hC⟩, hS.F ht⟩) hS.2.2 dX7_send_44
  · rw [if_neg h_1]
    have hv1 := sp_live h_1 (by omega)
    refine lv_astore_n (lv' := [(3, .ref (ad 1 a1.toNatClampNeg)), (0, .ref h0), (1, .int a1), (2, .int a2)]) hx hb dX7_send_5 rfl hl (by decide) rfl (fun ls hl => ?_)
    refine lv_aload_n hx hb dX7_send_6 rfl (lv_at hl 1 rfl) ?_
    refine lv_iload_n hx hb dX7_send_7 rfl (lv_at hl 3 rfl) ?_
    refine pu_call (va_runV (As := [.int a2]) (rest := []) ⟨hx, hb, hml, hown, hts⟩ (k_X7_wayAt l dC dI h0 q cI cy A ad rl L n G hN a2) (cwV 1 hts gX7_send_X7_wayAt rfl rfl rfl (by decide +kernel) ⟨Nat.le_of_ble_eq_true rfl, Nat.le_of_ble_eq_true rfl⟩) (ct_pre hC hK hW0) rfl rfl hl.1 rfl (lv_room (Nat.le_of_ble_eq_true rfl)) dX7_send_8 ⟨Nat.le_of_ble_eq_true rfl, Nat.le_of_ble_eq_true rfl⟩) ?_
    by_cases h_5 : (sp_in a2 0 ((nI (n 2)) - 1)) = 0
    · rw [if_pos h_5]
      refine lv_astoreN (lv' := [(4, .null), (3, .ref (ad 1 a1.toNatClampNeg)), (0, .ref h0), (1, .int a1), (2, .int a2)]) hx hb dX7_send_11 hl (by decide) rfl (fun ls hl => ?_)
      refine lv_aload_n hx hb dX7_send_13 rfl (lv_at hl 1 rfl) ?_
      refine lv_ifnull hx hb dX7_send_14 ?_
      refine lv_aloadN hx hb dX7_send_17 (lv_at hl 0 rfl) ?_
      refine lv_ifnullN (tgt := 43) hx hb dX7_send_19 (by decide) ?_
      refine lv_iconst (v := (-1)) hx hb dX7_send_43 (by decide) ?_
      have hq6 : sX_send n G a1 a2 = ((-1), n, G) := by exact (if_neg h_1).trans (if_pos h_5)
      refine W.widen (k := 3) (n := 23) (Nat.le_of_ble_eq_true rfl) (Nat.le_of_ble_eq_true rfl) ?_
      exact W.iret (v := (-1)) hx hb hr (fun t9 ht hW => ⟨⟨(-1), (L, ad, rl, n, G), rfl, ⟨hq6.symm, hN⟩, by show cp_ (dC, dI) cI cy h0 q A ad rl L n G t9.heap; rw [ht]; exact hC⟩, hS.F ht⟩) hS.2.2 dX7_send_44
    · rw [if_neg h_5]
      have hv5 := sp_live h_5 (by omega)
      refine lv_astore (lv' := [(4, .ref (ad 2 a2.toNatClampNeg)), (3, .ref (ad 1 a1.toNatClampNeg)), (0, .ref h0), (1, .int a1), (2, .int a2)]) hx hb dX7_send_11 hl (by decide) rfl (fun ls hl => ?_)
      refine lv_aload_n hx hb dX7_send_13 rfl (lv_at hl 1 rfl) ?_
      refine lv_ifnull hx hb dX7_send_14 ?_
      refine lv_aload hx hb dX7_send_17 (lv_at hl 0 rfl) ?_
      refine lv_ifnull hx hb dX7_send_19 ?_
      refine lv_aload hx hb dX7_send_22 (lv_at hl 0 rfl) ?_
      refine lv_iload_n hx hb dX7_send_24 rfl (lv_at hl 3 rfl) ?_
      refine pu_call (va_runV (As := [.int a1]) (rest := []) ⟨hx, hb, hml, hown, hts⟩ (k_X6_startsAt l dC dI h0 q cI cy A ad rl L n G hN a2.toNatClampNeg hv5 a1) (cwV 1 hts gX7_send_X6_startsAt rfl rfl rfl (by decide +kernel) ⟨Nat.le_of_ble_eq_true rfl, Nat.le_of_ble_eq_true rfl⟩) (ct_preO 2 a2.toNatClampNeg (r := (RX6, TX6, 6)) (ci := 5) hC hK hW0 hv5 (fun _ h9 => h9) rfl) rfl rfl hl.1 rfl (lv_room (Nat.le_of_ble_eq_true rfl)) dX7_send_25 ⟨Nat.le_of_ble_eq_true rfl, Nat.le_of_ble_eq_true rfl⟩) ?_
      refine lv_topi (fun r7 (e7 : r7 = sX_Way_startsAt n G a2.toNatClampNeg a1) => ?_)
      refine lv_if_eq (tgt := 43) hx hb dX7_send_28 (by decide) (fun h_8 => ?_) (fun h_8 => ?_)
      · skip
        refine lv_iconst (v := (-1)) hx hb dX7_send_43 (by decide) ?_
        have hq9 : sX_send n G a1 a2 = ((-1), n, G) := by subst e7; exact (if_neg h_1).trans ((if_neg h_5).trans (if_pos h_8))
        refine W.widen (k := 3) (n := 23) (Nat.le_of_ble_eq_true rfl) (Nat.le_of_ble_eq_true rfl) ?_
        exact W.iret (v := (-1)) hx hb hr (fun t9 ht hW => ⟨⟨(-1), (L, ad, rl, n, G), rfl, ⟨hq9.symm, hN⟩, by show cp_ (dC, dI) cI cy h0 q A ad rl L n G t9.heap; rw [ht]; exact hC⟩, hS.F ht⟩) hS.2.2 dX7_send_44
      · skip
        refine lv_aload hx hb dX7_send_31 (lv_at hl 0 rfl) ?_
        refine lv_aload_n hx hb dX7_send_33 rfl (lv_at hl 2 rfl) ?_
        refine cx_get hx hb hts hinX7 hown hK hC 8 (by decide) (v := .int (nI (n 0))) rfl (hts (.fieldLink RX7 103 "FurPosts" "now" "I") (by decide +kernel)) dX7_send_34 ?_
        refine pu_call (va_runV (As := [.int (nI (n 0))]) (rest := []) ⟨hx, hb, hml, hown, hts⟩ (k_X6_isOpenOn l dC dI h0 q cI cy A ad rl L n G hN a2.toNatClampNeg hv5 (nI (n 0))) (cwV 1 hts gX7_send_X6_isOpenOn rfl rfl rfl (by decide +kernel) ⟨Nat.le_of_ble_eq_true rfl, Nat.le_of_ble_eq_true rfl⟩) (ct_preO 2 a2.toNatClampNeg (r := (RX6, TX6, 6)) (ci := 5) hC hK hW0 hv5 (fun _ h9 => h9) rfl) rfl rfl hl.1 rfl (lv_room (Nat.le_of_ble_eq_true rfl)) dX7_send_37 ⟨Nat.le_of_ble_eq_true rfl, Nat.le_of_ble_eq_true rfl⟩) ?_
        refine lv_topi (fun r10 (e10 : r10 = sX_Way_isOpenOn n G a2.toNatClampNeg (nI (n 0))) => ?_)
        refine lv_if_ne (tgt := 45) hx hb dX7_send_40 (by decide) (fun h_11 => ?_) (fun h_11 => ?_)
        · skip
          refine lv_aload_n hx hb dX7_send_45 rfl (lv_at hl 2 rfl) ?_
          refine lv_aload_n hx hb dX7_send_46 rfl (lv_at hl 1 rfl) ?_
          refine lv_aload hx hb dX7_send_47 (lv_at hl 0 rfl) ?_
          refine pu_call (va_runV (As := [.ref (ad 1 a1.toNatClampNeg), .ref (ad 2 a2.toNatClampNeg)]) (rest := []) ⟨hx, hb, hml, hown, hts⟩ (k_X7_canLoad l dC dI h0 q cI cy A ad rl L n G hN a1.toNatClampNeg hv1 a2.toNatClampNeg hv5) (cwV 2 hts gX7_send_X7_canLoad rfl rfl rfl (by decide +kernel) ⟨Nat.le_of_ble_eq_true rfl, Nat.le_of_ble_eq_true rfl⟩) (ct_pre hC hK hW0) rfl rfl hl.1 rfl (lv_room (Nat.le_of_ble_eq_true rfl)) dX7_send_49 ⟨Nat.le_of_ble_eq_true rfl, Nat.le_of_ble_eq_true rfl⟩) ?_
          refine lv_topi (fun r12 (e12 : r12 = sX_canLoad n G a1.toNatClampNeg a2.toNatClampNeg) => ?_)
          refine lv_if_eq (tgt := 74) hx hb dX7_send_52 (by decide) (fun h_13 => ?_) (fun h_13 => ?_)
          · skip
            refine lv_iconst (v := (-1)) hx hb dX7_send_74 (by decide) ?_
            have hq14 : sX_send n G a1 a2 = ((-1), n, G) := by subst e12 e10 e7; exact (if_neg h_1).trans ((if_neg h_5).trans ((if_neg h_8).trans ((if_neg h_11).trans (if_pos h_13))))
            refine W.widen (k := 3) (n := 23) (Nat.le_of_ble_eq_true rfl) (Nat.le_of_ble_eq_true rfl) ?_
            exact W.iret (v := (-1)) hx hb hr (fun t9 ht hW => ⟨⟨(-1), (L, ad, rl, n, G), rfl, ⟨hq14.symm, hN⟩, by show cp_ (dC, dI) cI cy h0 q A ad rl L n G t9.heap; rw [ht]; exact hC⟩, hS.F ht⟩) hS.2.2 dX7_send_75
          · skip
            refine lv_aload_n hx hb dX7_send_55 rfl (lv_at hl 2 rfl) ?_
            refine cx_get hx hb hts hinX7 hown hK hC 11 (by decide) (v := .int (nI (n 3))) rfl (hts (.fieldLink RX7 113 "FurPosts" "canoeCount" "I") (by decide +kernel)) dX7_send_56 ?_
            refine lv_bipush (v := 120) hx hb dX7_send_59 (by decide) ?_
            refine lv_icmp_ge (tgt := 74) hx hb dX7_send_61 (by decide) (fun h_15 => ?_) (fun h_15 => ?_)
            · skip
              refine lv_iconst (v := (-1)) hx hb dX7_send_74 (by decide) ?_
              have hq16 : sX_send n G a1 a2 = ((-1), n, G) := by subst e12 e10 e7; exact (if_neg h_1).trans ((if_neg h_5).trans ((if_neg h_8).trans ((if_neg h_11).trans ((if_neg h_13).trans (if_pos h_15)))))
              refine W.widen (k := 3) (n := 23) (Nat.le_of_ble_eq_true rfl) (Nat.le_of_ble_eq_true rfl) ?_
              exact W.iret (v := (-1)) hx hb hr (fun t9 ht hW => ⟨⟨(-1), (L, ad, rl, n, G), rfl, ⟨hq16.symm, hN⟩, by show cp_ (dC, dI) cI cy h0 q A ad rl L n G t9.heap; rw [ht]; exact hC⟩, hS.F ht⟩) hS.2.2 dX7_send_75
            · skip
              refine lv_aload_n hx hb dX7_send_64 rfl (lv_at hl 2 rfl) ?_
              refine cx_get hx hb hts hinX7 hown hK hC 8 (by decide) (v := .int (nI (n 0))) rfl (hts (.fieldLink RX7 103 "FurPosts" "now" "I") (by decide +kernel)) dX7_send_65 ?_
              refine lv_sipush (v := 3000) hx hb dX7_send_68 (by decide) ?_
              refine lv_icmp_lt (tgt := 76) hx hb dX7_send_71 (by decide) (fun h_17 => ?_) (fun h_17 => ?_)
              · skip
                have hlt := nI_linv (B := 120) h_15 rfl (by omega)
                refine lv_aload_n hx hb dX7_send_76 rfl (lv_at hl 2 rfl) ?_
                refine cx_get hx hb hts hinX7 hown hK hC 11 (by decide) (v := .int (nI (n 3))) rfl (hts (.fieldLink RX7 113 "FurPosts" "canoeCount" "I") (by decide +kernel)) dX7_send_77 ?_
                refine lv_istore (lv' := [(5, .int (nI (n 3))), (4, .ref (ad 2 a2.toNatClampNeg)), (3, .ref (ad 1 a1.toNatClampNeg)), (0, .ref h0), (1, .int a1), (2, .int a2)]) hx hb dX7_send_80 hl (by decide) rfl (fun ls hl => ?_)
                have hQ := cp_.toQ hC
                refine cq_new (C := RX0) (T := TX0) (N := 11) (ci := 0) (ty := tyX0) (fs := [.int 0, .int 0, .int 0, .int 0, .null, .null, .int 0, .int 0, .int 0, .int 0, .int 0]) hx hb hts hinX0 tyX0_ok hown (hts (.classLink RX7 21 RX0) (by decide +kernel)) (hts (.instantiable RX0 11) (by decide +kernel)) (hts (.initialized RX0) (by decide +kernel)) hK hQ hS hA rfl (fun j hj => by
                    match j, hj with
                    | 0, _ => rfl
                    | 1, _ => rfl
                    | 2, _ => rfl
                    | 3, _ => rfl
                    | 4, _ => rfl
                    | 5, _ => rfl
                    | 6, _ => rfl
                    | 7, _ => rfl
                    | 8, _ => rfl
                    | 9, _ => rfl
                    | 10, _ => rfl
                    | k + 11, h => omega) (Nat.le_of_ble_eq_true rfl) (Nat.le_of_ble_eq_true rfl) dX7_send_82 (fun a_82 H hQ hne82 hS => ?_)
                obtain ⟨L, hQ⟩ : ∃ L2, cq_ (dC, dI) cI cy h0 q A ad rl L2 n G [(a_82, .inr (0, [.int 0, .int 0, .int 0, .int 0, .null, .null, .int 0, .int 0, .int 0, .int 0, .int 0]))] H := ⟨_, hQ⟩
                have hC := hQ.toC
                refine W.widen (k := 1) (n := 11) (Nat.le_of_ble_eq_true rfl) (Nat.le_of_ble_eq_true rfl) ?_
                refine lv_dup hx hb dX7_send_85 rfl ?_
                refine lv_iload_n hx hb dX7_send_86 rfl (lv_at hl 4 rfl) ?_
                refine lv_aload hx hb dX7_send_87 (lv_at hl 1 rfl) ?_
                refine lv_iload_n hx hb dX7_send_89 rfl (lv_at hl 4 rfl) ?_
                refine pu_call (va_runV (As := [.int a1]) (rest := [.int a1, .ref a_82, .ref a_82]) ⟨hx, hb, hml, hown, hts⟩ (k_X6_otherEnd l dC dI h0 q cI cy A ad rl L n G hN a2.toNatClampNeg hv5 a1) (cwV 1 hts gX7_send_X6_otherEnd rfl rfl rfl (by decide +kernel) ⟨Nat.le_of_ble_eq_true rfl, Nat.le_of_ble_eq_true rfl⟩) (ct_preO 2 a2.toNatClampNeg (r := (RX6, TX6, 6)) (ci := 5) hC hK hW0 hv5 (fun _ h9 => h9) rfl) rfl rfl hl.1 rfl (lv_room (Nat.le_of_ble_eq_true rfl)) dX7_send_90 ⟨Nat.le_of_ble_eq_true rfl, Nat.le_of_ble_eq_true rfl⟩) ?_
                refine lv_topi (fun r18 (e18 : r18 = sX_Way_otherEnd n G a2.toNatClampNeg a1) => ?_)
                refine lv_iload_n hx hb dX7_send_93 rfl (lv_at hl 5 rfl) ?_
                refine lv_aload hx hb dX7_send_94 (lv_at hl 1 rfl) ?_
                refine co_get 2 a2.toNatClampNeg (C := RX6) (T := TX6) (N := 6) (ci := 5) (v := .int (G 8 a2.toNatClampNeg)) hx hb hts hinX6 hown hK hC hv5 (fun _ h9 => h9) rfl 2 (by decide) (hts (.fieldLink RX7 120 "FurPosts$Way" "days" "I") (by decide +kernel)) (fun _ h9 => h9) rfl dX7_send_96 ?_
                refine lv_topi (fun v19 (e19 : v19 = G 8 a2.toNatClampNeg) => ?_)
                refine lv_aload_n hx hb dX7_send_99 rfl (lv_at hl 3 rfl) ?_
                refine cx_get hx hb hts hinX7 hown hK hC 8 (by decide) (v := .int (nI (n 0))) rfl (hts (.fieldLink RX7 103 "FurPosts" "now" "I") (by decide +kernel)) dX7_send_100 ?_
                refine lv_aload_n hx hb dX7_send_103 rfl (lv_at hl 3 rfl) ?_
                refine cx_get hx hb hts hinX7 hown hK hC 7 (by decide) (v := .ref (q 8)) rfl (hts (.fieldLink RX7 44 "FurPosts" "loaded" "[I") (by decide +kernel)) dX7_send_104 ?_
                rw [show q 8 = ad 28 0 from cp_q8 hC]
                refine cq_clone 28 0 hx hb (hml.trans hl.1.symm) hown (hts (.methodLink RX7 123 ⟨"[I", "clone", "()Ljava/lang/Object;"⟩) (by decide +kernel)) (hts (.sameMethod "[I" "java/lang/Object" "clone" "()Ljava/lang/Object;") (by decide +kernel)) (hts (.native ⟨"java/lang/Object", "clone", "()Ljava/lang/Object;"⟩) (by decide +kernel)) (hts (.instanceMethod ⟨"java/lang/Object", "clone", "()Ljava/lang/Object;"⟩) (by decide +kernel)) (hts (.selects "[I" ⟨"[I", "clone", "()Ljava/lang/Object;"⟩ ⟨"java/lang/Object", "clone", "()Ljava/lang/Object;"⟩) (by decide +kernel)) hW0 hK hQ hS hA rfl rfl (Nat.le_of_ble_eq_true rfl) (Nat.le_of_ble_eq_true rfl) (Nat.le_of_ble_eq_true rfl) (Nat.le_of_ble_eq_true rfl) dX7_send_107 (fun z_107 g_107 H hg107 hQ hne107 hS => ?_)
                have hg107 : ∀ w, w < 6 → g_107 w = G 12 (w) := hg107
                have hza : ¬ a_82 = z_107 := hne107 _ (List.mem_cons_self)
                obtain ⟨L, hQ⟩ : ∃ L2, cq_ (dC, dI) cI cy h0 q A ad rl L2 n G [(z_107, .inl (cI, 6, .inl g_107)), (a_82, .inr (0, [.int 0, .int 0, .int 0, .int 0, .null, .null, .int 0, .int 0, .int 0, .int 0, .int 0]))] H := ⟨_, hQ⟩
                have hC := hQ.toC
                refine W.widen (k := 2) (n := 17) (Nat.le_of_ble_eq_true rfl) (Nat.le_of_ble_eq_true rfl) ?_
                refine cq_cast hx hb hown (hts (.classLink RX7 124 "[I") (by decide +kernel)) hK hQ (List.mem_cons_self) dX7_send_110 ?_
                obtain ⟨hs1, hAa, -⟩ := cq_one hQ (List.mem_cons_of_mem _ (List.mem_cons_self))
                obtain ⟨hs2, hAz, hlz⟩ := cq_one hQ (List.mem_cons_self)
                have hS0 := hS
                have hAs : ∀ x, (x = a_82 ∨ x = z_107 ∨ H.size ≤ x) → A x := fun x h => h.elim (fun h => by rw [h]; exact hAa) (fun h => h.elim (fun h => by rw [h]; exact hAz) (fun h => hA x (Nat.le_trans hS.1 h)))
                refine va_callv (va_runI (As := [.int a1, .int r18, .int a2, .int v19, .int (nI (n 0)), .ref z_107]) (rest := [.ref a_82]) ⟨hx, hb, hml, hown, hts⟩ (c_X0_init l dC dI a_82 H.size cI a1 r18 a2 v19 (nI (n 0)) z_107 g_107 hza) (cwI 6 hts gX7_send_X0_init rfl rfl rfl (hts (.initialized RX0) (by decide +kernel)) (hts (.methodLink RX7 128 yX0_init) (by decide +kernel)) (hts (.instanceMethod yX0_init) (by decide +kernel)) rfl (by decide +kernel) ⟨Nat.le_of_ble_eq_true rfl, Nat.le_of_ble_eq_true rfl⟩) ⟨fun a U g mk y => by obtain ⟨y0, y1, yP, yK, yC⟩ := y; exact ⟨y0, y1, yP, va_K.moved (u := U) (U := U.calling g mk a) (Vm.Alike.refl U.vm) yK, va_Nw.same (u := U) rfl rfl yC⟩, fun U hU hW => ⟨rfl, by rw [hU], by rw [hU]; exact hs1.app hs2, va_K.moved hW.alike (hK.sub [0] rfl), va_Nw.warmC hW (nw_cl hW0)⟩⟩ rfl rfl hl.1 rfl (lv_room (Nat.le_of_ble_eq_true rfl)) dX7_send_113 ⟨Nat.le_of_ble_eq_true rfl, Nat.le_of_ble_eq_true rfl⟩) hS (fun x _ h => hAs x h) hAs (fun u st H1 locs ht hvm hw hB hz hk hS => ?_)
                obtain ⟨w1, hB, hBD⟩ := hB
                rw [ht] at hB
                have h_w_a : ¬ w1 = a_82 := fun y => absurd (hBD.1 2 0 _ _ rfl rfl y) (by decide)
                have h_w_z : ¬ w1 = z_107 := fun y => absurd (hBD.1 2 1 _ _ rfl rfl y) (by decide)
                have hwz : H.size ≤ w1 := (hBD.2 2 _ rfl).elim (fun h => absurd h h_w_a) (fun h => h.elim (fun h => absurd h h_w_z) (fun h => h))
                have hkk : ∀ x : Nat, x < H.size → ¬ x = a_82 → H1[x]? = H[x]? := fun x h1 h2 => by
                  by_cases h3 : x = z_107
                  · have e1 := hB 1 _ rfl
                    have e2 := hs2 0 _ rfl
                    rw [h3]
                    exact e1.trans e2.symm
                  · exact hk x h1 (fun h => h.elim h2 (fun h => h.elim h3 (fun h => by omega)))
                have hlw := cq_lt hQ hwz
                have hQ := cq_set (pd' := [(a_82, .inr (0, [.int a1, .int r18, .int a2, .int (nI (n 0)), .ref z_107, .ref w1, .int 0, .int v19, .int (-1), .int 0, .int 0])), (z_107, .inl (cI, 6, .inl g_107))]) hQ (List.mem_cons_of_mem _ (List.mem_cons_self)) hkk (hB.sub [0] rfl) (fun x hx => by
                  rcases List.mem_cons.mp hx with h | h
                  · exact Or.inl h
                  · exact Or.inr ⟨by rw [List.mem_singleton.mp h]; exact (List.mem_cons_self), by rw [List.mem_singleton.mp h]; exact fun y => hza y.symm⟩)
                have hQ := cq_add hQ (hB.sub (ws' := [(w1, .inl (cI, 6, .inl g_107))]) [2] rfl) hlw.1 hlw.2 (hA w1 (Nat.le_trans hS0.1 hwz))
                have hQ := hQ.sub (pd' := [(z_107, .inl (cI, 6, .inl g_107)), (w1, .inl (cI, 6, .inl g_107)), (a_82, .inr (0, [.int a1, .int r18, .int a2, .int (nI (n 0)), .ref z_107, .ref w1, .int 0, .int v19, .int (-1), .int 0, .int 0]))]) (fun x hx => by
                  rcases List.mem_cons.mp hx with h | h
                  · rw [h]; exact (List.mem_cons_of_mem _ (List.mem_cons_of_mem _ (List.mem_cons_self)))
                  rcases List.mem_cons.mp h with h | h
                  · rw [h]; exact (List.mem_cons_self)
                  · rw [List.mem_singleton.mp h]; exact (List.mem_cons_of_mem _ (List.mem_cons_self)))
                clear ht hvm hw hz hk hkk
                generalize H1 = H at hQ hS ⊢
                obtain ⟨L, hQ⟩ : ∃ L2, cq_ (dC, dI) cI cy h0 q A ad rl L2 n G [(z_107, .inl (cI, 6, .inl g_107)), (w1, .inl (cI, 6, .inl g_107)), (a_82, .inr (0, [.int a1, .int r18, .int a2, .int (nI (n 0)), .ref z_107, .ref w1, .int 0, .int v19, .int (-1), .int 0, .int 0]))] H := ⟨_, hQ⟩
                have hC := hQ.toC
                refine W.widen (k := 3) (n := 23) (Nat.le_of_ble_eq_true rfl) (Nat.le_of_ble_eq_true rfl) ?_
                refine lv_astore (lv' := [(6, .ref a_82), (5, .int (nI (n 3))), (4, .ref (ad 2 a2.toNatClampNeg)), (3, .ref (ad 1 a1.toNatClampNeg)), (0, .ref h0), (1, .int a1), (2, .int a2)]) hx hb dX7_send_116 hl (by decide) rfl (fun ls hl => ?_)
                refine lv_aload_n hx hb dX7_send_118 rfl (lv_at hl 4 rfl) ?_
                refine cx_get hx hb hts hinX7 hown hK hC 2 (by decide) (v := .ref (q 3)) rfl (hts (.fieldLink RX7 23 "FurPosts" "canoes" "[LFurPosts$Canoe;") (by decide +kernel)) dX7_send_119 ?_
                refine lv_iload hx hb dX7_send_122 (lv_at hl 1 rfl) ?_
                refine lv_aload hx hb dX7_send_124 (lv_at hl 0 rfl) ?_
                refine cz_ast3 hx hb hW0 hK hQ hS (List.mem_cons_of_mem _ (List.mem_cons_of_mem _ (List.mem_cons_self))) rfl rfl (by omega) dX7_send_126 (fun H locs hZ hS => ?_)
                refine lv_aload_n hx hb dX7_send_127 rfl (lv_at hl 4 rfl) ?_
                refine lv_dup hx hb dX7_send_128 rfl ?_
                refine cz_get3 hx hb hts hinX7 hown hK hZ (hts (.fieldLink RX7 113 "FurPosts" "canoeCount" "I") (by decide +kernel)) dX7_send_129 ?_
                refine lv_iconst (v := 1) hx hb dX7_send_132 (by decide) ?_
                refine lv_iadd hx hb dX7_send_133 ?_
                rw [nI_1]
                refine cz_put3 hx hb hts hinX7 hown hK hZ hS (hts (.fieldLink RX7 113 "FurPosts" "canoeCount" "I") (by decide +kernel)) dX7_send_134 (fun H locs f hP hD hL hp hS => ?_)
                have hC := cl_canoe (G' := nc_ G (n 3) a1 r18 a2 v19 (nI (n 0)) (fun w => G 12 w)) hN hP hD hL hp (fun y => h_w_z y.symm) (fun y => hza y.symm) h_w_a (fun s x h => nc_o h.1 h.2.1 h.2.2) (nc_14 ..) (nc_15 ..) (nc_16 ..) (nc_19 ..) (nc_21 ..) (nc_17 ..) (nc_20 ..) (nc_18 ..) (nc_24 ..) (fun x hx => (hg107 x hx).trans (nc_23 hx).symm) (fun x hx => (hg107 x hx).trans (nc_22 hx).symm)
                obtain ⟨n20, f20, G20, e20, ad, rl, hC, hr20_0, hr20_1, hr20_2⟩ : ∃ n2 : Nat → Nat, n2 = va_up n 3 (n 3 + 1) ∧ ∃ G2 : Nat → Nat → Int32, G2 = nc_ G (n 3) a1 r18 a2 v19 (nI (n 0)) (fun w => G 12 w) ∧ ∃ (ad2 : Nat → Nat → Nat) (rl2 : Nat → Nat × Nat), cp_ (dC, dI) cI cy h0 q A ad2 rl2 L n2 G2 H ∧ ad2 1 a1.toNatClampNeg = ad 1 a1.toNatClampNeg ∧ ad2 2 a2.toNatClampNeg = ad 2 a2.toNatClampNeg ∧ ad2 3 (n 3) = a_82 := ⟨_, rfl, _, rfl, _, _, hC, ((ad1_ne _ _ (fun z => absurd z.1 (by decide))).trans ((ad1_ne _ _ (fun z => absurd z.1 (by decide))).trans (ad1_ne _ _ (fun z => absurd z.1 (by decide))))), ((ad1_ne _ _ (fun z => absurd z.1 (by decide))).trans ((ad1_ne _ _ (fun z => absurd z.1 (by decide))).trans (ad1_ne _ _ (fun z => absurd z.1 (by decide))))), ad1_eq _ _ _ _⟩
                have hN : nb_ n20 := by rw [f20]; exact ⟨hN.1, hN.2.1, hN.2.2.1, (show n 3 + 1 ≤ 120 by omega), hN.2.2.2.2⟩
                rw [← hr20_0, ← hr20_1, ← hr20_2] at hl
                have hlive3 : n 3 < n20 3 := by rw [f20]; show n 3 < n 3 + 1; omega
                have hq20_0 := hv5
                have hq20_1 := hv1
                have hv5 : a2.toNatClampNeg < n20 2 := by rw [f20]; exact hv5
                have hv1 : a1.toNatClampNeg < n20 1 := by rw [f20]; exact hv1
                refine lv_iconst (v := 0) hx hb dX7_send_137 (by decide) ?_
                refine lv_istore (lv' := [(7, .int 0), (6, .ref (ad 3 (n 3))), (5, .int (nI (n 3))), (4, .ref (ad 2 a2.toNatClampNeg)), (3, .ref (ad 1 a1.toNatClampNeg)), (0, .ref h0), (1, .int a1), (2, .int a2)]) hx hb dX7_send_138 hl (by decide) rfl (fun ls hl => ?_)
                have key140 : ∀ (k jL140 : Nat) (GL140 : Nat → Nat → Int32) (H : Heap) (locs : List Loc) (ls : Array Slot), jL140 + k = 6 → cp_ (dC, dI) cI cy h0 q A ad rl L n20 GL140 H → va_S A s.heap H locs → lv_has ls 8 [(7, .int (nI jL140)), (6, .ref (ad 3 (n 3))), (5, .int (nI (n 3))), (4, .ref (ad 2 a2.toNatClampNeg)), (3, .ref (ad 1 a1.toNatClampNeg)), (0, .ref h0), (1, .int a1), (2, .int a2)] → (∀ (H : Heap) (locs : List Loc) (ls : Array Slot), cp_ (dC, dI) cI cy h0 q A ad rl L n20 ((sX_send_L140 a1 k jL140 GL140)) H → va_S A s.heap H locs → lv_has ls 8 [(7, .int (nI 6)), (6, .ref (ad 3 (n 3))), (5, .int (nI (n 3))), (4, .ref (ad 2 a2.toNatClampNeg)), (3, .ref (ad 1 a1.toNatClampNeg)), (0, .ref h0), (1, .int a1), (2, .int a2)] → W p l e (headSpec wsX7_send ({ frames := 4, cells := 3, slots := 23, locals := 91 })).room s m [.ref h0, .int a1, .int a2].toArray below meth c H locs 3 23 (MQ below (va_Qi (fun r (u : List Nat × (Nat → Nat → Nat) × (Nat → Nat × Nat) × (Nat → Nat) × (Nat → Nat → Int32)) => (r, u.2.2.2) = sX_send n G a1 a2 ∧ nb_ u.2.2.2.1) (fun u s' => cp_ (dC, dI) cI cy h0 q A u.2.1 u.2.2.1 u.1 u.2.2.2.1 u.2.2.2.2 s'.heap) A) [.ref h0, .int a1, .int a2].toArray s 3 23 A) (F0 m 178 ls [])) → 
                    W p l e (headSpec wsX7_send ({ frames := 4, cells := 3, slots := 23, locals := 91 })).room s m [.ref h0, .int a1, .int a2].toArray below meth c H locs 3 23 (MQ below (va_Qi (fun r (u : List Nat × (Nat → Nat → Nat) × (Nat → Nat × Nat) × (Nat → Nat) × (Nat → Nat → Int32)) => (r, u.2.2.2) = sX_send n G a1 a2 ∧ nb_ u.2.2.2.1) (fun u s' => cp_ (dC, dI) cI cy h0 q A u.2.1 u.2.2.1 u.1 u.2.2.2.1 u.2.2.2.2 s'.heap) A) [.ref h0, .int a1, .int a2].toArray s 3 23 A) (F0 m 140 ls []) := by
                  intro k
                  induction k with
                  | zero =>
                    intro jL140 GL140 H locs ls hj hC hS hl hex
                    have hj : jL140 = 6 := by omega
                    subst jL140
                    refine lv_iload hx hb dX7_send_140 (lv_at hl 0 rfl) ?_
                    refine lv_bipush (v := 6) hx hb dX7_send_142 (by decide) ?_
                    refine lv_icmp_ge (tgt := 178) hx hb dX7_send_144 (by decide) (fun h_21 => ?_) (fun h_21 => absurd (lp_ge0 (B := 6) rfl) h_21)
                    exact hex H locs ls hC hS (lv_sub hl [0, 1, 2, 3, 4, 5, 6, 7] rfl)
                  | succ k ih140 =>
                    intro jL140 GL140 H locs ls hj hC hS hl hex
                    have hj140 : jL140 < 6 := by omega
                    refine lv_iload hx hb dX7_send_140 (lv_at hl 0 rfl) ?_
                    refine lv_bipush (v := 6) hx hb dX7_send_142 (by decide) ?_
                    refine lv_icmp_ge (tgt := 178) hx hb dX7_send_144 (by decide) (fun h_22 => absurd h_22 (lp_ge (B := 6) (by omega) (by omega) rfl)) (fun h_22 => ?_)
                    refine lv_aload_n hx hb dX7_send_147 rfl (lv_at hl 4 rfl) ?_
                    refine co_get 1 a1.toNatClampNeg (C := RX4) (T := TX4) (N := 4) (ci := 3) (v := .ref (ad 5 a1.toNatClampNeg)) hx hb hts hinX4 hown hK hC hv1 (fun _ h9 => h9) rfl 0 (by decide) (hts (.fieldLink RX7 92 "FurPosts$Post" "stock" "[I") (by decide +kernel)) (fun _ h9 => h9) rfl dX7_send_148 ?_
                    refine lv_iload hx hb dX7_send_151 (lv_at hl 0 rfl) ?_
                    refine lv_dup2_11 hx hb dX7_send_153 rfl rfl ?_
                    refine ci_ald 5 a1.toNatClampNeg hx hb hK hC hv1 (by decide) (w := (nI jL140)) (vp_in_nI (show jL140 < 6 by omega) (by decide)) dX7_send_154 ?_
                    refine lv_topi (fun v23 (e23 : v23 = GL140 2 (6 * a1.toNatClampNeg + (nI jL140).toNatClampNeg)) => ?_)
                    rw [(show (nI jL140).toNatClampNeg = jL140 from nI_clamp (by omega))] at e23
                    refine lv_aload_n hx hb dX7_send_155 rfl (lv_at hl 5 rfl) ?_
                    refine cx_get hx hb hts hinX7 hown hK hC 7 (by decide) (v := .ref (q 8)) rfl (hts (.fieldLink RX7 44 "FurPosts" "loaded" "[I") (by decide +kernel)) dX7_send_156 ?_
                    refine lv_iload hx hb dX7_send_159 (lv_at hl 0 rfl) ?_
                    rw [show q 8 = ad 28 0 from cp_q8 hC]
                    refine ci_ald 28 0 hx hb hK hC rfl (by decide) (w := (nI jL140)) (vp_in_nI (show jL140 < 6 by omega) (by decide)) dX7_send_161 ?_
                    refine lv_topi (fun v24 (e24 : v24 = GL140 12 ((nI jL140).toNatClampNeg)) => ?_)
                    rw [(show (nI jL140).toNatClampNeg = jL140 from nI_clamp (by omega))] at e24
                    refine lv_isub hx hb dX7_send_162 ?_
                    refine ci_ast 5 a1.toNatClampNeg hx hb hK hC hS hv1 (by decide) (w := (nI jL140)) (x := (v23 - v24)) (vp_in_nI (show jL140 < 6 by omega) (by decide)) dX7_send_163 (fun H locs hC hS => ?_)
                    obtain ⟨G25, e25, hC⟩ : ∃ G25 : Nat → Nat → Int32, G25 = up2 GL140 2 (6 * a1.toNatClampNeg + (nI jL140).toNatClampNeg) (v23 - v24) ∧ cp_ (dC, dI) cI cy h0 q A ad rl L n20 G25 H := ⟨_, rfl, hC⟩
                    rw [(show (nI jL140).toNatClampNeg = jL140 from nI_clamp (by omega))] at e25
                    refine lv_aload_n hx hb dX7_send_164 rfl (lv_at hl 5 rfl) ?_
                    refine cx_get hx hb hts hinX7 hown hK hC 7 (by decide) (v := .ref (q 8)) rfl (hts (.fieldLink RX7 44 "FurPosts" "loaded" "[I") (by decide +kernel)) dX7_send_165 ?_
                    refine lv_iload hx hb dX7_send_168 (lv_at hl 0 rfl) ?_
                    refine lv_iconst (v := 0) hx hb dX7_send_170 (by decide) ?_
                    rw [show q 8 = ad 28 0 from cp_q8 hC]
                    refine ci_ast 28 0 hx hb hK hC hS rfl (by decide) (w := (nI jL140)) (x := 0) (vp_in_nI (show jL140 < 6 by omega) (by decide)) dX7_send_171 (fun H locs hC hS => ?_)
                    obtain ⟨G26, e26, hC⟩ : ∃ G26 : Nat → Nat → Int32, G26 = up2 G25 12 ((nI jL140).toNatClampNeg) 0 ∧ cp_ (dC, dI) cI cy h0 q A ad rl L n20 G26 H := ⟨_, rfl, hC⟩
                    rw [(show (nI jL140).toNatClampNeg = jL140 from nI_clamp (by omega))] at e26
                    refine lv_iinc (v := (nI (jL140 + 1))) (lv' := [(7, .int (nI (jL140 + 1))), (6, .ref (ad 3 (n 3))), (5, .int (nI (n 3))), (4, .ref (ad 2 a2.toNatClampNeg)), (3, .ref (ad 1 a1.toNatClampNeg)), (0, .ref h0), (1, .int a1), (2, .int a2)]) hx hb dX7_send_172 hl (k := 0) rfl (show nI jL140 + 1 = nI (jL140 + 1) from nI_1 jL140) (by decide) rfl (fun ls hl => ?_)
                    refine lv_goto (tgt := 140) hx hb dX7_send_175 (by decide) ?_
                    have hI140 : (sX_send_L140 a1 (k + 1) jL140 GL140) = (sX_send_L140 a1 k (jL140 + 1) G26) := by subst e26 e25 e24 e23 e20 f20 e19 e18 e12 e10 e7; exact rfl
                    exact ih140 (jL140 + 1) G26 H locs ls (by omega) hC hS (lv_sub hl [0, 1, 2, 3, 4, 5, 6, 7] rfl) (by rw [← hI140]; exact hex)
                refine key140 6 0 G20 H locs ls (by omega) hC hS (lv_sub hl [0, 1, 2, 3, 4, 5, 6, 7] rfl) (fun H locs ls hC hS hl => ?_)
                obtain ⟨G27, e27, hC⟩ : ∃ G27 : Nat → Nat → Int32, G27 = (sX_send_L140 a1 6 0 G20) ∧ cp_ (dC, dI) cI cy h0 q A ad rl L n20 G27 H := ⟨_, rfl, hC⟩
                refine lv_aload hx hb dX7_send_178 (lv_at hl 1 rfl) ?_
                refine lv_aload_n hx hb dX7_send_180 rfl (lv_at hl 5 rfl) ?_
                refine lv_iload hx hb dX7_send_181 (lv_at hl 2 rfl) ?_
                refine lv_aload hx hb dX7_send_183 (lv_at hl 1 rfl) ?_
                refine va_calli (va_runV (As := [.int (nI (n 3)), .ref (ad 3 (n 3))]) (rest := [.ref (ad 3 (n 3))]) ⟨hx, hb, hml, hown, hts⟩ (m_X7_takeLetters l dC dI h0 q cI cy A ad rl L n20 G27 hN (nI (n 3)) (n 3) hlive3) (cwV 2 hts gX7_send_X7_takeLetters rfl rfl rfl (by decide +kernel) ⟨Nat.le_of_ble_eq_true rfl, Nat.le_of_ble_eq_true rfl⟩) (ct_pre hC hK hW0) rfl rfl hl.1 rfl (lv_room (Nat.le_of_ble_eq_true rfl)) dX7_send_185 ⟨Nat.le_of_ble_eq_true rfl, Nat.le_of_ble_eq_true rfl⟩) hS (fun _ _ h => h) (fun _ h => h) (fun r28 u28 st28 H locs ht28 hvm28 hw28 hB28 hz28 hk28 hS => ?_)
                obtain ⟨G28, e28, hC⟩ : ∃ G28 : Nat → Nat → Int32, G28 = (sX_takeLetters n20 G27 (nI (n 3)) (n 3)).2 ∧ cp_ (dC, dI) cI cy h0 q A ad rl L n20 G28 H := ⟨u28, congrArg Prod.snd hw28, by rw [← ht28]; exact hB28⟩
                have g28 : r28 = (sX_takeLetters n20 G27 (nI (n 3)) (n 3)).1 := congrArg Prod.fst hw28
                refine cc_put21 (n 3) hx hb hts hinX0 hown hK hC hS hlive3 (v := r28) (hts (.fieldLink RX7 135 "FurPosts$Canoe" "lettersSent" "I") (by decide +kernel)) dX7_send_188 (fun H locs hC hS => ?_)
                obtain ⟨G29, e29, hC⟩ : ∃ G29 : Nat → Nat → Int32, G29 = up2 G28 21 (n 3) r28 ∧ cp_ (dC, dI) cI cy h0 q A ad rl L n20 G29 H := ⟨_, rfl, hC⟩
                refine lv_iload hx hb dX7_send_191 (lv_at hl 2 rfl) ?_
                have hq30 : sX_send n G a1 a2 = ((nI (n 3)), n20, G29) := by subst e29 g28 e28 e27 e20 f20 e19 e18 e12 e10 e7; exact (if_neg h_1).trans ((if_neg h_5).trans ((if_neg h_8).trans ((if_neg h_11).trans ((if_neg h_13).trans ((if_neg h_15).trans (if_pos h_17))))))
                refine W.widen (k := 3) (n := 23) (Nat.le_of_ble_eq_true rfl) (Nat.le_of_ble_eq_true rfl) ?_
                exact W.iret (v := (nI (n 3))) hx hb hr (fun t9 ht hW => ⟨⟨(nI (n 3)), (L, ad, rl, n20, G29), rfl, ⟨hq30.symm, hN⟩, by show cp_ (dC, dI) cI cy h0 q A ad rl L n20 G29 t9.heap; rw [ht]; exact hC⟩, hS.F ht⟩) hS.2.2 dX7_send_193
              · skip
                refine lv_iconst (v := (-1)) hx hb dX7_send_74 (by decide) ?_
                have hq31 : sX_send n G a1 a2 = ((-1), n, G) := by subst e12 e10 e7; exact (if_neg h_1).trans ((if_neg h_5).trans ((if_neg h_8).trans ((if_neg h_11).trans ((if_neg h_13).trans ((if_neg h_15).trans (if_neg h_17))))))
                refine W.widen (k := 3) (n := 23) (Nat.le_of_ble_eq_true rfl) (Nat.le_of_ble_eq_true rfl) ?_
                exact W.iret (v := (-1)) hx hb hr (fun t9 ht hW => ⟨⟨(-1), (L, ad, rl, n, G), rfl, ⟨hq31.symm, hN⟩, by show cp_ (dC, dI) cI cy h0 q A ad rl L n G t9.heap; rw [ht]; exact hC⟩, hS.F ht⟩) hS.2.2 dX7_send_75
        · skip
          refine lv_iconst (v := (-1)) hx hb dX7_send_43 (by decide) ?_
          have hq32 : sX_send n G a1 a2 = ((-1), n, G) := by subst e10 e7; exact (if_neg h_1).trans ((if_neg h_5).trans ((if_neg h_8).trans (if_pos h_11)))
          refine W.widen (k := 3) (n := 23) (Nat.le_of_ble_eq_true rfl) (Nat.le_of_ble_eq_true rfl) ?_
          exact W.iret (v := (-1)) hx hb hr (fun t9 ht hW => ⟨⟨(-1), (L, ad, rl, n, G), rfl, ⟨hq32.symm, hN⟩, by show cp_ (dC, dI) cI cy h0 q A ad rl L n G t9.heap; rw [ht]; exact hC⟩, hS.F ht⟩) hS.2.2 dX7_send_44
