set_option maxHeartbeats 8000000 in
set_option maxRecDepth 100000 in
theorem k_X7_postAt (l : Launch) (dC : Nat → ClassId) (dI : Nat → Nat → Nat) (h0 : Nat) (q : Nat → Nat) (cI : ClassId) (cy : Nat → ClassId) (A : Nat → Prop) (ad : Nat → Nat → Nat) (rl : Nat → Nat × Nat) (L : List Nat) (n : Nat → Nat) (G : Nat → Nat → Int32) (hN : nb_ n) (a1 : Int32) : Met l yX7_postAt wsX7_postAt ({ frames := 0, cells := 0, slots := 0, locals := 0 }) (va_Pc [.ref h0, .int a1] (ct_P (dC, dI) cI cy h0 q A ad rl L n G)) (pu_Q (va_rf (if sp_in a1 0 ((nI (n 1)) - 1) = 0 then none else some (ad 1 a1.toNatClampNeg)))) 0 0 pu_F := by
  refine Met.ofW (cc := cX7_postAt) (maxL := 2) (ret := (some (.object "FurPosts$Post"))) (by decide) rfl ?_
  intro p e s m args below meth c s₁ B hml hv
  obtain ⟨rfl, hC, hK, hW0⟩ := hv
  have hx := B.exec
  have hb := B.bytes
  have hr := B.returns
  have hts := atoms_spec (ws := wsX7_postAt) B.pre
  have hown : s.vm.findClass RX7 = some m.cls := findClass_of_methodNamed B.named
  have hlocks := B.notSynchronized
  have hinX7 : ∀ w ∈ u_ws RX7 TX7 14, w ∈ wsX7_postAt := by decide +kernel
  have hl := lv_entry ([.ref h0, .int a1]) (n := 2) (Nat.le_of_ble_eq_true rfl)
  rw [lg_entry_eq]
  generalize (lg_sl ([.ref h0, .int a1]) ++ List.replicate (2 - (lg_sl ([.ref h0, .int a1])).length) Slot.unset).toArray = ls at hl ⊢
  have hl : lv_has ls 2 [(0, .ref h0), (1, .int a1)] := hl
  refine lv_iload_n hx hb dX7_postAt_0 rfl (lv_at hl 1 rfl) ?_
  refine lv_if_lt (tgt := 19) hx hb dX7_postAt_1 (by decide) (fun h_1 => ?_) (fun h_1 => ?_)
  · skip
    refine lv_null hx hb dX7_postAt_19 ?_
    exact W.aret (v := .null) hx hb hr (Or.inl ⟨_, rfl⟩) (Or.inl rfl) (fun t ht hW => ⟨(show Outcome.returned (some (va_rf none)) = _ from congrArg (fun z => Outcome.returned (some (va_rf z))) ((if_pos (sp_neg h_1)).symm)), ht⟩) (fun q h => by cases h) dX7_postAt_20
  · skip
    refine lv_iload_n hx hb dX7_postAt_4 rfl (lv_at hl 1 rfl) ?_
    refine lv_bipush (v := 8) hx hb dX7_postAt_5 (by decide) ?_
    refine lv_icmp_ge (tgt := 19) hx hb dX7_postAt_7 (by decide) (fun h_3 => ?_) (fun h_3 => ?_)
    · skip
      refine lv_null hx hb dX7_postAt_19 ?_
      exact W.aret (v := .null) hx hb hr (Or.inl ⟨_, rfl⟩) (Or.inl rfl) (fun t ht hW => ⟨(show Outcome.returned (some (va_rf none)) = _ from congrArg (fun z => Outcome.returned (some (va_rf z))) ((if_pos (sp_big (B := 8) (show n 1 ≤ 8 by omega) h_3)).symm)), ht⟩) (fun q h => by cases h) dX7_postAt_20
    · skip
      refine lv_aload_n hx hb dX7_postAt_10 rfl (lv_at hl 0 rfl) ?_
      refine cx_get hx hb hts hinX7 hown hK hC 0 (by decide) (v := .ref (q 1)) rfl (hts (.fieldLink RX7 11 "FurPosts" "posts" "[LFurPosts$Post;") (by decide +kernel)) dX7_postAt_11 ?_
      refine lv_iload_n hx hb dX7_postAt_14 rfl (lv_at hl 1 rfl) ?_
      refine ca_ald21 hx hb hK hC (w := a1) (vb_in h_1 h_3 rfl) dX7_postAt_15 ?_
      refine lv_goto (tgt := 20) hx hb dX7_postAt_16 (by decide) ?_
      exact W.aret (v := va_rf (if a1.toNatClampNeg < n 1 then some (ad 1 a1.toNatClampNeg) else none)) hx hb hr (Or.inl ⟨_, rfl⟩) (va_rf_or _) (fun t ht hW => ⟨congrArg (fun z => Outcome.returned (some (va_rf z))) (at_eq (show n 1 ≤ 8 by omega) h_1 h_3), ht⟩) (fun q h => by cases h) dX7_postAt_20

set_option maxHeartbeats 8000000 in
set_option maxRecDepth 100000 in
theorem k_X7_wayAt (l : Launch) (dC : Nat → ClassId) (dI : Nat → Nat → Nat) (h0 : Nat) (q : Nat → Nat) (cI : ClassId) (cy : Nat → ClassId) (A : Nat → Prop) (ad : Nat → Nat → Nat) (rl : Nat → Nat × Nat) (L : List Nat) (n : Nat → Nat) (G : Nat → Nat → Int32) (hN : nb_ n) (a1 : Int32) : Met l yX7_wayAt wsX7_wayAt ({ frames := 0, cells := 0, slots := 0, locals := 0 }) (va_Pc [.ref h0, .int a1] (ct_P (dC, dI) cI cy h0 q A ad rl L n G)) (pu_Q (va_rf (if sp_in a1 0 ((nI (n 2)) - 1) = 0 then none else some (ad 2 a1.toNatClampNeg)))) 0 0 pu_F := by
  refine Met.ofW (cc := cX7_wayAt) (maxL := 2) (ret := (some (.object "FurPosts$Way"))) (by decide) rfl ?_
  intro p e s m args below meth c s₁ B hml hv
  obtain ⟨rfl, hC, hK, hW0⟩ := hv
  have hx := B.exec
  have hb := B.bytes
  have hr := B.returns
  have hts := atoms_spec (ws := wsX7_wayAt) B.pre
  have hown : s.vm.findClass RX7 = some m.cls := findClass_of_methodNamed B.named
  have hlocks := B.notSynchronized
  have hinX7 : ∀ w ∈ u_ws RX7 TX7 14, w ∈ wsX7_wayAt := by decide +kernel
  have hl := lv_entry ([.ref h0, .int a1]) (n := 2) (Nat.le_of_ble_eq_true rfl)
  rw [lg_entry_eq]
  generalize (lg_sl ([.ref h0, .int a1]) ++ List.replicate (2 - (lg_sl ([.ref h0, .int a1])).length) Slot.unset).toArray = ls at hl ⊢
  have hl : lv_has ls 2 [(0, .ref h0), (1, .int a1)] := hl
  refine lv_iload_n hx hb dX7_wayAt_0 rfl (lv_at hl 1 rfl) ?_
  refine lv_if_lt (tgt := 19) hx hb dX7_wayAt_1 (by decide) (fun h_1 => ?_) (fun h_1 => ?_)
  · skip
    refine lv_null hx hb dX7_wayAt_19 ?_
    exact W.aret (v := .null) hx hb hr (Or.inl ⟨_, rfl⟩) (Or.inl rfl) (fun t ht hW => ⟨(show Outcome.returned (some (va_rf none)) = _ from congrArg (fun z => Outcome.returned (some (va_rf z))) ((if_pos (sp_neg h_1)).symm)), ht⟩) (fun q h => by cases h) dX7_wayAt_20
  · skip
    refine lv_iload_n hx hb dX7_wayAt_4 rfl (lv_at hl 1 rfl) ?_
    refine lv_bipush (v := 12) hx hb dX7_wayAt_5 (by decide) ?_
    refine lv_icmp_ge (tgt := 19) hx hb dX7_wayAt_7 (by decide) (fun h_3 => ?_) (fun h_3 => ?_)
    · skip
      refine lv_null hx hb dX7_wayAt_19 ?_
      exact W.aret (v := .null) hx hb hr (Or.inl ⟨_, rfl⟩) (Or.inl rfl) (fun t ht hW => ⟨(show Outcome.returned (some (va_rf none)) = _ from congrArg (fun z => Outcome.returned (some (va_rf z))) ((if_pos (sp_big (B := 12) (show n 2 ≤ 12 by omega) h_3)).symm)), ht⟩) (fun q h => by cases h) dX7_wayAt_20
    · skip
      refine lv_aload_n hx hb dX7_wayAt_10 rfl (lv_at hl 0 rfl) ?_
      refine cx_get hx hb hts hinX7 hown hK hC 1 (by decide) (v := .ref (q 2)) rfl (hts (.fieldLink RX7 17 "FurPosts" "ways" "[LFurPosts$Way;") (by decide +kernel)) dX7_wayAt_11 ?_
      refine lv_iload_n hx hb dX7_wayAt_14 rfl (lv_at hl 1 rfl) ?_
      refine ca_ald22 hx hb hK hC (w := a1) (vb_in h_1 h_3 rfl) dX7_wayAt_15 ?_
      refine lv_goto (tgt := 20) hx hb dX7_wayAt_16 (by decide) ?_
      exact W.aret (v := va_rf (if a1.toNatClampNeg < n 2 then some (ad 2 a1.toNatClampNeg) else none)) hx hb hr (Or.inl ⟨_, rfl⟩) (va_rf_or _) (fun t ht hW => ⟨congrArg (fun z => Outcome.returned (some (va_rf z))) (at_eq (show n 2 ≤ 12 by omega) h_1 h_3), ht⟩) (fun q h => by cases h) dX7_wayAt_20

set_option maxHeartbeats 8000000 in
set_option maxRecDepth 100000 in
theorem k_X7_canoeAt (l : Launch) (dC : Nat → ClassId) (dI : Nat → Nat → Nat) (h0 : Nat) (q : Nat → Nat) (cI : ClassId) (cy : Nat → ClassId) (A : Nat → Prop) (ad : Nat → Nat → Nat) (rl : Nat → Nat × Nat) (L : List Nat) (n : Nat → Nat) (G : Nat → Nat → Int32) (hN : nb_ n) (a1 : Int32) : Met l yX7_canoeAt wsX7_canoeAt ({ frames := 0, cells := 0, slots := 0, locals := 0 }) (va_Pc [.ref h0, .int a1] (ct_P (dC, dI) cI cy h0 q A ad rl L n G)) (pu_Q (va_rf (if sp_in a1 0 ((nI (n 3)) - 1) = 0 then none else some (ad 3 a1.toNatClampNeg)))) 0 0 pu_F := by
  refine Met.ofW (cc := cX7_canoeAt) (maxL := 2) (ret := (some (.object "FurPosts$Canoe"))) (by decide) rfl ?_
  intro p e s m args below meth c s₁ B hml hv
  obtain ⟨rfl, hC, hK, hW0⟩ := hv
  have hx := B.exec
  have hb := B.bytes
  have hr := B.returns
  have hts := atoms_spec (ws := wsX7_canoeAt) B.pre
  have hown : s.vm.findClass RX7 = some m.cls := findClass_of_methodNamed B.named
  have hlocks := B.notSynchronized
  have hinX7 : ∀ w ∈ u_ws RX7 TX7 14, w ∈ wsX7_canoeAt := by decide +kernel
  have hl := lv_entry ([.ref h0, .int a1]) (n := 2) (Nat.le_of_ble_eq_true rfl)
  rw [lg_entry_eq]
  generalize (lg_sl ([.ref h0, .int a1]) ++ List.replicate (2 - (lg_sl ([.ref h0, .int a1])).length) Slot.unset).toArray = ls at hl ⊢
  have hl : lv_has ls 2 [(0, .ref h0), (1, .int a1)] := hl
  refine lv_iload_n hx hb dX7_canoeAt_0 rfl (lv_at hl 1 rfl) ?_
  refine lv_if_lt (tgt := 19) hx hb dX7_canoeAt_1 (by decide) (fun h_1 => ?_) (fun h_1 => ?_)
  · skip
    refine lv_null hx hb dX7_canoeAt_19 ?_
    exact W.aret (v := .null) hx hb hr (Or.inl ⟨_, rfl⟩) (Or.inl rfl) (fun t ht hW => ⟨(show Outcome.returned (some (va_rf none)) = _ from congrArg (fun z => Outcome.returned (some (va_rf z))) ((if_pos (sp_neg h_1)).symm)), ht⟩) (fun q h => by cases h) dX7_canoeAt_20
  · skip
    refine lv_iload_n hx hb dX7_canoeAt_4 rfl (lv_at hl 1 rfl) ?_
    refine lv_bipush (v := 120) hx hb dX7_canoeAt_5 (by decide) ?_
    refine lv_icmp_ge (tgt := 19) hx hb dX7_canoeAt_7 (by decide) (fun h_3 => ?_) (fun h_3 => ?_)
    · skip
      refine lv_null hx hb dX7_canoeAt_19 ?_
      exact W.aret (v := .null) hx hb hr (Or.inl ⟨_, rfl⟩) (Or.inl rfl) (fun t ht hW => ⟨(show Outcome.returned (some (va_rf none)) = _ from congrArg (fun z => Outcome.returned (some (va_rf z))) ((if_pos (sp_big (B := 120) (show n 3 ≤ 120 by omega) h_3)).symm)), ht⟩) (fun q h => by cases h) dX7_canoeAt_20
    · skip
      refine lv_aload_n hx hb dX7_canoeAt_10 rfl (lv_at hl 0 rfl) ?_
      refine cx_get hx hb hts hinX7 hown hK hC 2 (by decide) (v := .ref (q 3)) rfl (hts (.fieldLink RX7 23 "FurPosts" "canoes" "[LFurPosts$Canoe;") (by decide +kernel)) dX7_canoeAt_11 ?_
      refine lv_iload_n hx hb dX7_canoeAt_14 rfl (lv_at hl 1 rfl) ?_
      refine ca_ald23 hx hb hK hC (w := a1) (vb_in h_1 h_3 rfl) dX7_canoeAt_15 ?_
      refine lv_goto (tgt := 20) hx hb dX7_canoeAt_16 (by decide) ?_
      exact W.aret (v := va_rf (if a1.toNatClampNeg < n 3 then some (ad 3 a1.toNatClampNeg) else none)) hx hb hr (Or.inl ⟨_, rfl⟩) (va_rf_or _) (fun t ht hW => ⟨congrArg (fun z => Outcome.returned (some (va_rf z))) (at_eq (show n 3 ≤ 120 by omega) h_1 h_3), ht⟩) (fun q h => by cases h) dX7_canoeAt_20

set_option maxHeartbeats 8000000 in
set_option maxRecDepth 100000 in
theorem k_X7_letterAt (l : Launch) (dC : Nat → ClassId) (dI : Nat → Nat → Nat) (h0 : Nat) (q : Nat → Nat) (cI : ClassId) (cy : Nat → ClassId) (A : Nat → Prop) (ad : Nat → Nat → Nat) (rl : Nat → Nat × Nat) (L : List Nat) (n : Nat → Nat) (G : Nat → Nat → Int32) (hN : nb_ n) (a1 : Int32) : Met l yX7_letterAt wsX7_letterAt ({ frames := 0, cells := 0, slots := 0, locals := 0 }) (va_Pc [.ref h0, .int a1] (ct_P (dC, dI) cI cy h0 q A ad rl L n G)) (pu_Q (va_rf (if sp_in a1 0 ((nI (n 4)) - 1) = 0 then none else some (ad 4 a1.toNatClampNeg)))) 0 0 pu_F := by
  refine Met.ofW (cc := cX7_letterAt) (maxL := 2) (ret := (some (.object "FurPosts$Letter"))) (by decide) rfl ?_
  intro p e s m args below meth c s₁ B hml hv
  obtain ⟨rfl, hC, hK, hW0⟩ := hv
  have hx := B.exec
  have hb := B.bytes
  have hr := B.returns
  have hts := atoms_spec (ws := wsX7_letterAt) B.pre
  have hown : s.vm.findClass RX7 = some m.cls := findClass_of_methodNamed B.named
  have hlocks := B.notSynchronized
  have hinX7 : ∀ w ∈ u_ws RX7 TX7 14, w ∈ wsX7_letterAt := by decide +kernel
  have hl := lv_entry ([.ref h0, .int a1]) (n := 2) (Nat.le_of_ble_eq_true rfl)
  rw [lg_entry_eq]
  generalize (lg_sl ([.ref h0, .int a1]) ++ List.replicate (2 - (lg_sl ([.ref h0, .int a1])).length) Slot.unset).toArray = ls at hl ⊢
  have hl : lv_has ls 2 [(0, .ref h0), (1, .int a1)] := hl
  refine lv_iload_n hx hb dX7_letterAt_0 rfl (lv_at hl 1 rfl) ?_
  refine lv_if_lt (tgt := 20) hx hb dX7_letterAt_1 (by decide) (fun h_1 => ?_) (fun h_1 => ?_)
  · skip
    refine lv_null hx hb dX7_letterAt_20 ?_
    exact W.aret (v := .null) hx hb hr (Or.inl ⟨_, rfl⟩) (Or.inl rfl) (fun t ht hW => ⟨(show Outcome.returned (some (va_rf none)) = _ from congrArg (fun z => Outcome.returned (some (va_rf z))) ((if_pos (sp_neg h_1)).symm)), ht⟩) (fun q h => by cases h) dX7_letterAt_21
  · skip
    refine lv_iload_n hx hb dX7_letterAt_4 rfl (lv_at hl 1 rfl) ?_
    refine lv_sipush (v := 300) hx hb dX7_letterAt_5 (by decide) ?_
    refine lv_icmp_ge (tgt := 20) hx hb dX7_letterAt_8 (by decide) (fun h_3 => ?_) (fun h_3 => ?_)
    · skip
      refine lv_null hx hb dX7_letterAt_20 ?_
      exact W.aret (v := .null) hx hb hr (Or.inl ⟨_, rfl⟩) (Or.inl rfl) (fun t ht hW => ⟨(show Outcome.returned (some (va_rf none)) = _ from congrArg (fun z => Outcome.returned (some (va_rf z))) ((if_pos (sp_big (B := 300) (show n 4 ≤ 300 by omega) h_3)).symm)), ht⟩) (fun q h => by cases h) dX7_letterAt_21
    · skip
      refine lv_aload_n hx hb dX7_letterAt_11 rfl (lv_at hl 0 rfl) ?_
      refine cx_get hx hb hts hinX7 hown hK hC 3 (by decide) (v := .ref (q 4)) rfl (hts (.fieldLink RX7 29 "FurPosts" "letters" "[LFurPosts$Letter;") (by decide +kernel)) dX7_letterAt_12 ?_
      refine lv_iload_n hx hb dX7_letterAt_15 rfl (lv_at hl 1 rfl) ?_
      refine ca_ald24 hx hb hK hC (w := a1) (vb_in h_1 h_3 rfl) dX7_letterAt_16 ?_
      refine lv_goto (tgt := 21) hx hb dX7_letterAt_17 (by decide) ?_
      exact W.aret (v := va_rf (if a1.toNatClampNeg < n 4 then some (ad 4 a1.toNatClampNeg) else none)) hx hb hr (Or.inl ⟨_, rfl⟩) (va_rf_or _) (fun t ht hW => ⟨congrArg (fun z => Outcome.returned (some (va_rf z))) (at_eq (show n 4 ≤ 300 by omega) h_1 h_3), ht⟩) (fun q h => by cases h) dX7_letterAt_21

set_option maxHeartbeats 8000000 in
set_option maxRecDepth 100000 in
theorem k_X4_reportOf (l : Launch) (dC : Nat → ClassId) (dI : Nat → Nat → Nat) (h0 : Nat) (q : Nat → Nat) (cI : ClassId) (cy : Nat → ClassId) (A : Nat → Prop) (ad : Nat → Nat → Nat) (rl : Nat → Nat × Nat) (L : List Nat) (n : Nat → Nat) (G : Nat → Nat → Int32) (hN : nb_ n) (i0 : Nat) (hi0 : i0 < n 1) (a1 : Int32) : Met l yX4_reportOf wsX4_reportOf ({ frames := 0, cells := 0, slots := 0, locals := 0 }) (va_Pc [.ref (ad 1 i0), .int a1] (ct_P (dC, dI) cI cy h0 q A ad rl L n G)) (pu_Q (va_rf (if sp_in a1 0 7 = 0 then none else ro_ ad (G 32 (8 * i0 + a1.toNatClampNeg))))) 0 0 pu_F := by
  refine Met.ofW (cc := cX4_reportOf) (maxL := 2) (ret := (some (.object "FurPosts$Report"))) (by decide) rfl ?_
  intro p e s m args below meth c s₁ B hml hv
  obtain ⟨rfl, hC, hK, hW0⟩ := hv
  have hx := B.exec
  have hb := B.bytes
  have hr := B.returns
  have hts := atoms_spec (ws := wsX4_reportOf) B.pre
  have hown : s.vm.findClass RX4 = some m.cls := findClass_of_methodNamed B.named
  have hlocks := B.notSynchronized
  have hinX4 : ∀ w ∈ u_ws RX4 TX4 4, w ∈ wsX4_reportOf := by decide +kernel
  have hl := lv_entry ([.ref (ad 1 i0), .int a1]) (n := 2) (Nat.le_of_ble_eq_true rfl)
  rw [lg_entry_eq]
  generalize (lg_sl ([.ref (ad 1 i0), .int a1]) ++ List.replicate (2 - (lg_sl ([.ref (ad 1 i0), .int a1])).length) Slot.unset).toArray = ls at hl ⊢
  have hl : lv_has ls 2 [(0, .ref (ad 1 i0)), (1, .int a1)] := hl
  refine lv_iload_n hx hb dX4_reportOf_0 rfl (lv_at hl 1 rfl) ?_
  refine lv_if_lt (tgt := 19) hx hb dX4_reportOf_1 (by decide) (fun h_1 => ?_) (fun h_1 => ?_)
  · skip
    refine lv_null hx hb dX4_reportOf_19 ?_
    exact W.aret (v := .null) hx hb hr (Or.inl ⟨_, rfl⟩) (Or.inl rfl) (fun t ht hW => ⟨(show Outcome.returned (some (va_rf none)) = _ from congrArg (fun z => Outcome.returned (some (va_rf z))) ((if_pos (sp_neg h_1)).symm)), ht⟩) (fun q h => by cases h) dX4_reportOf_20
  · skip
    refine lv_iload_n hx hb dX4_reportOf_4 rfl (lv_at hl 1 rfl) ?_
    refine lv_bipush (v := 8) hx hb dX4_reportOf_5 (by decide) ?_
    refine lv_icmp_ge (tgt := 19) hx hb dX4_reportOf_7 (by decide) (fun h_3 => ?_) (fun h_3 => ?_)
    · skip
      refine lv_null hx hb dX4_reportOf_19 ?_
      exact W.aret (v := .null) hx hb hr (Or.inl ⟨_, rfl⟩) (Or.inl rfl) (fun t ht hW => ⟨(show Outcome.returned (some (va_rf none)) = _ from congrArg (fun z => Outcome.returned (some (va_rf z))) ((if_pos (sp_big7 h_3)).symm)), ht⟩) (fun q h => by cases h) dX4_reportOf_20
    · skip
      refine lv_aload_n hx hb dX4_reportOf_10 rfl (lv_at hl 0 rfl) ?_
      refine co_get 1 i0 (C := RX4) (T := TX4) (N := 4) (ci := 3) (v := .ref (ad 8 i0)) hx hb hts hinX4 hown hK hC hi0 (fun _ h9 => h9) rfl 3 (by decide) (hts (.fieldLink RX4 23 "FurPosts$Post" "reports" "[LFurPosts$Report;") (by decide +kernel)) (fun _ h9 => h9) rfl dX4_reportOf_11 ?_
      refine lv_iload_n hx hb dX4_reportOf_14 rfl (lv_at hl 1 rfl) ?_
      refine cr_rep i0 hx hb hK hC hi0 (w := a1) (vb_in h_1 h_3 rfl) dX4_reportOf_15 ?_
      refine lv_goto (tgt := 20) hx hb dX4_reportOf_16 (by decide) ?_
      exact W.aret (v := va_rf (ro_ ad (G 32 (8 * i0 + a1.toNatClampNeg)))) hx hb hr (Or.inl ⟨_, rfl⟩) (va_rf_or _) (fun t ht hW => ⟨congrArg (fun z => Outcome.returned (some (va_rf z))) (at_rep h_1 h_3), ht⟩) (fun q h => by cases h) dX4_reportOf_20

set_option maxHeartbeats 8000000 in
set_option maxRecDepth 100000 in
theorem k_X7_areTwoPosts (l : Launch) (dC : Nat → ClassId) (dI : Nat → Nat → Nat) (h0 : Nat) (q : Nat → Nat) (cI : ClassId) (cy : Nat → ClassId) (A : Nat → Prop) (ad : Nat → Nat → Nat) (rl : Nat → Nat × Nat) (L : List Nat) (n : Nat → Nat) (G : Nat → Nat → Int32) (hN : nb_ n) (a1 : Int32) (a2 : Int32) : Met l yX7_areTwoPosts wsX7_areTwoPosts ({ frames := 1, cells := 0, slots := 0, locals := 21 }) (va_Pc [.ref h0, .int a1, .int a2] (ct_P (dC, dI) cI cy h0 q A ad rl L n G)) (pu_Q (.int (sX_areTwoPosts n G a1 a2))) 0 0 pu_F := by
  refine Met.ofW (cc := cX7_areTwoPosts) (maxL := 3) (ret := (some .boolean)) (by decide) rfl ?_
  intro p e s m args below meth c s₁ B hml hv
  obtain ⟨rfl, hC, hK, hW0⟩ := hv
  have hx := B.exec
  have hb := B.bytes
  have hr := B.returns
  have hts := atoms_spec (ws := wsX7_areTwoPosts) B.pre
  have hown : s.vm.findClass RX7 = some m.cls := findClass_of_methodNamed B.named
  have hlocks := B.notSynchronized
  have hl := lv_entry ([.ref h0, .int a1, .int a2]) (n := 3) (Nat.le_of_ble_eq_true rfl)
  rw [lg_entry_eq]
  generalize (lg_sl ([.ref h0, .int a1, .int a2]) ++ List.replicate (3 - (lg_sl ([.ref h0, .int a1, .int a2])).length) Slot.unset).toArray = ls at hl ⊢
  have hl : lv_has ls 3 [(0, .ref h0), (1, .int a1), (2, .int a2)] := hl
  refine lv_iload_n hx hb dX7_areTwoPosts_0 rfl (lv_at hl 1 rfl) ?_
  refine lv_iload_n hx hb dX7_areTwoPosts_1 rfl (lv_at hl 2 rfl) ?_
  refine lv_icmp_eq (tgt := 25) hx hb dX7_areTwoPosts_2 (by decide) (fun h_1 => ?_) (fun h_1 => ?_)
  · skip
    refine lv_iconst (v := 0) hx hb dX7_areTwoPosts_25 (by decide) ?_
    have hq2 : sX_areTwoPosts n G a1 a2 = 0 := by exact (if_pos h_1)
    exact W.zret (v := 0) hx hb hr rfl (fun t ht hW => ⟨by rw [hq2], ht⟩) (fun q h => by cases h) dX7_areTwoPosts_26
  · skip
    refine lv_aload_n hx hb dX7_areTwoPosts_5 rfl (lv_at hl 0 rfl) ?_
    refine lv_iload_n hx hb dX7_areTwoPosts_6 rfl (lv_at hl 1 rfl) ?_
    refine pu_call (va_runV (As := [.int a1]) (rest := []) ⟨hx, hb, hml, hown, hts⟩ (k_X7_postAt l dC dI h0 q cI cy A ad rl L n G hN a1) (cwV 1 hts gX7_areTwoPosts_X7_postAt rfl rfl rfl (by decide +kernel) ⟨Nat.le_of_ble_eq_true rfl, Nat.le_of_ble_eq_true rfl⟩) (ct_pre hC hK hW0) rfl rfl hl.1 rfl (lv_room (Nat.le_of_ble_eq_true rfl)) dX7_areTwoPosts_7 ⟨Nat.le_of_ble_eq_true rfl, Nat.le_of_ble_eq_true rfl⟩) ?_
    by_cases h_3 : (sp_in a1 0 ((nI (n 1)) - 1)) = 0
    · rw [if_pos h_3]
      refine lv_ifnullN (tgt := 25) hx hb dX7_areTwoPosts_10 (by decide) ?_
      refine lv_iconst (v := 0) hx hb dX7_areTwoPosts_25 (by decide) ?_
      have hq4 : sX_areTwoPosts n G a1 a2 = 0 := by exact (if_neg h_1).trans (if_pos h_3)
      exact W.zret (v := 0) hx hb hr rfl (fun t ht hW => ⟨by rw [hq4], ht⟩) (fun q h => by cases h) dX7_areTwoPosts_26
    · rw [if_neg h_3]
      have hv3 := sp_live h_3 (by omega)
      refine lv_ifnull hx hb dX7_areTwoPosts_10 ?_
      refine lv_aload_n hx hb dX7_areTwoPosts_13 rfl (lv_at hl 0 rfl) ?_
      refine lv_iload_n hx hb dX7_areTwoPosts_14 rfl (lv_at hl 2 rfl) ?_
      refine pu_call (va_runV (As := [.int a2]) (rest := []) ⟨hx, hb, hml, hown, hts⟩ (k_X7_postAt l dC dI h0 q cI cy A ad rl L n G hN a2) (cwV 1 hts gX7_areTwoPosts_X7_postAt rfl rfl rfl (by decide +kernel) ⟨Nat.le_of_ble_eq_true rfl, Nat.le_of_ble_eq_true rfl⟩) (ct_pre hC hK hW0) rfl rfl hl.1 rfl (lv_room (Nat.le_of_ble_eq_true rfl)) dX7_areTwoPosts_15 ⟨Nat.le_of_ble_eq_true rfl, Nat.le_of_ble_eq_true rfl⟩) ?_
      by_cases h_5 : (sp_in a2 0 ((nI (n 1)) - 1)) = 0
      · rw [if_pos h_5]
        refine lv_ifnullN (tgt := 25) hx hb dX7_areTwoPosts_18 (by decide) ?_
        refine lv_iconst (v := 0) hx hb dX7_areTwoPosts_25 (by decide) ?_
        have hq6 : sX_areTwoPosts n G a1 a2 = 0 := by exact (if_neg h_1).trans ((if_neg h_3).trans (if_pos h_5))
        exact W.zret (v := 0) hx hb hr rfl (fun t ht hW => ⟨by rw [hq6], ht⟩) (fun q h => by cases h) dX7_areTwoPosts_26
      · rw [if_neg h_5]
        have hv5 := sp_live h_5 (by omega)
        refine lv_ifnull hx hb dX7_areTwoPosts_18 ?_
        refine lv_iconst (v := 1) hx hb dX7_areTwoPosts_21 (by decide) ?_
        refine lv_goto (tgt := 26) hx hb dX7_areTwoPosts_22 (by decide) ?_
        have hq7 : sX_areTwoPosts n G a1 a2 = 1 := by exact (if_neg h_1).trans ((if_neg h_3).trans (if_neg h_5))
        exact W.zret (v := 1) hx hb hr rfl (fun t ht hW => ⟨by rw [hq7], ht⟩) (fun q h => by cases h) dX7_areTwoPosts_26

set_option maxHeartbeats 8000000 in
set_option maxRecDepth 100000 in
theorem k_X7_canWrite (l : Launch) (dC : Nat → ClassId) (dI : Nat → Nat → Nat) (h0 : Nat) (q : Nat → Nat) (cI : ClassId) (cy : Nat → ClassId) (A : Nat → Prop) (ad : Nat → Nat → Nat) (rl : Nat → Nat × Nat) (L : List Nat) (n : Nat → Nat) (G : Nat → Nat → Int32) (hN : nb_ n) (a1 : Int32) (a2 : Int32) : Met l yX7_canWrite wsX7_canWrite ({ frames := 2, cells := 0, slots := 0, locals := 43 }) (va_Pc [.ref h0, .int a1, .int a2] (ct_P (dC, dI) cI cy h0 q A ad rl L n G)) (pu_Q (.int (sX_canWrite n G a1 a2))) 0 0 pu_F := by
  refine Met.ofW (cc := cX7_canWrite) (maxL := 3) (ret := (some .boolean)) (by decide) rfl ?_
  intro p e s m args below meth c s₁ B hml hv
  obtain ⟨rfl, hC, hK, hW0⟩ := hv
  have hx := B.exec
  have hb := B.bytes
  have hr := B.returns
  have hts := atoms_spec (ws := wsX7_canWrite) B.pre
  have hown : s.vm.findClass RX7 = some m.cls := findClass_of_methodNamed B.named
  have hlocks := B.notSynchronized
  have hinX7 : ∀ w ∈ u_ws RX7 TX7 14, w ∈ wsX7_canWrite := by decide +kernel
  have hl := lv_entry ([.ref h0, .int a1, .int a2]) (n := 3) (Nat.le_of_ble_eq_true rfl)
  rw [lg_entry_eq]
  generalize (lg_sl ([.ref h0, .int a1, .int a2]) ++ List.replicate (3 - (lg_sl ([.ref h0, .int a1, .int a2])).length) Slot.unset).toArray = ls at hl ⊢
  have hl : lv_has ls 3 [(0, .ref h0), (1, .int a1), (2, .int a2)] := hl
  refine lv_aload_n hx hb dX7_canWrite_0 rfl (lv_at hl 0 rfl) ?_
  refine lv_iload_n hx hb dX7_canWrite_1 rfl (lv_at hl 1 rfl) ?_
  refine lv_iload_n hx hb dX7_canWrite_2 rfl (lv_at hl 2 rfl) ?_
  refine pu_call (va_runV (As := [.int a1, .int a2]) (rest := []) ⟨hx, hb, hml, hown, hts⟩ (k_X7_areTwoPosts l dC dI h0 q cI cy A ad rl L n G hN a1 a2) (cwV 2 hts gX7_canWrite_X7_areTwoPosts rfl rfl rfl (by decide +kernel) ⟨Nat.le_of_ble_eq_true rfl, Nat.le_of_ble_eq_true rfl⟩) (ct_pre hC hK hW0) rfl rfl hl.1 rfl (lv_room (Nat.le_of_ble_eq_true rfl)) dX7_canWrite_3 ⟨Nat.le_of_ble_eq_true rfl, Nat.le_of_ble_eq_true rfl⟩) ?_
  refine lv_topi (fun r1 (e1 : r1 = sX_areTwoPosts n G a1 a2) => ?_)
  have hg1 : ¬ r1 = 0 → vp_in a1 8 ∧ vp_in a2 8 := by rw [e1]; exact sX_areTwoPosts_b hN
  refine lv_if_eq (tgt := 23) hx hb dX7_canWrite_6 (by decide) (fun h_2 => ?_) (fun h_2 => ?_)
  · skip
    refine lv_iconst (v := 0) hx hb dX7_canWrite_23 (by decide) ?_
    have hq3 : sX_canWrite n G a1 a2 = 0 := by subst e1; exact (if_pos h_2)
    exact W.zret (v := 0) hx hb hr rfl (fun t ht hW => ⟨by rw [hq3], ht⟩) (fun q h => by cases h) dX7_canWrite_24
  · skip
    refine lv_aload_n hx hb dX7_canWrite_9 rfl (lv_at hl 0 rfl) ?_
    refine cx_get hx hb hts hinX7 hown hK hC 12 (by decide) (v := .int (nI (n 4))) rfl (hts (.fieldLink RX7 165 "FurPosts" "letterCount" "I") (by decide +kernel)) dX7_canWrite_10 ?_
    refine lv_sipush (v := 300) hx hb dX7_canWrite_13 (by decide) ?_
    refine lv_icmp_ge (tgt := 23) hx hb dX7_canWrite_16 (by decide) (fun h_4 => ?_) (fun h_4 => ?_)
    · skip
      refine lv_iconst (v := 0) hx hb dX7_canWrite_23 (by decide) ?_
      have hq5 : sX_canWrite n G a1 a2 = 0 := by subst e1; exact (if_neg h_2).trans (if_pos h_4)
      exact W.zret (v := 0) hx hb hr rfl (fun t ht hW => ⟨by rw [hq5], ht⟩) (fun q h => by cases h) dX7_canWrite_24
    · skip
      refine lv_iconst (v := 1) hx hb dX7_canWrite_19 (by decide) ?_
      refine lv_goto (tgt := 24) hx hb dX7_canWrite_20 (by decide) ?_
      have hq6 : sX_canWrite n G a1 a2 = 1 := by subst e1; exact (if_neg h_2).trans (if_neg h_4)
      exact W.zret (v := 1) hx hb hr rfl (fun t ht hW => ⟨by rw [hq6], ht⟩) (fun q h => by cases h) dX7_canWrite_24

set_option maxHeartbeats 8000000 in
set_option maxRecDepth 100000 in
theorem k_X7_isTrade (l : Launch) (a1 : Int32) (a2 : Int32) (a3 : Int32) : Met l yX7_isTrade wsX7_isTrade ({ frames := 1, cells := 0, slots := 0, locals := 22 }) (va_Pc [.int a1, .int a2, .int a3] (fun _ => True)) (pu_Q (.int (sX_isTrade a1 a2 a3))) 0 0 pu_F := by
  refine Met.ofW (cc := cX7_isTrade) (maxL := 3) (ret := (some .boolean)) (by decide) rfl ?_
  intro p e s m args below meth c s₁ B hml hv
  obtain ⟨rfl, -⟩ := hv
  have hx := B.exec
  have hb := B.bytes
  have hr := B.returns
  have hts := atoms_spec (ws := wsX7_isTrade) B.pre
  have hown : s.vm.findClass RX7 = some m.cls := findClass_of_methodNamed B.named
  have hlocks := B.notSynchronized
  have hl := lv_entry ([.int a1, .int a2, .int a3]) (n := 3) (Nat.le_of_ble_eq_true rfl)
  rw [lg_entry_eq]
  generalize (lg_sl ([.int a1, .int a2, .int a3]) ++ List.replicate (3 - (lg_sl ([.int a1, .int a2, .int a3])).length) Slot.unset).toArray = ls at hl ⊢
  have hl : lv_has ls 3 [(0, .int a1), (1, .int a2), (2, .int a3)] := hl
  refine lv_iload_n hx hb dX7_isTrade_0 rfl (lv_at hl 0 rfl) ?_
  refine pu_call (va_runS (As := [.int a1]) (rest := []) ⟨hx, hb, hml, hown, hts⟩ (c_X7_isHunter l a1) (va_cwS 1 hts gX7_isTrade_X7_isHunter rfl rfl rfl (by decide +kernel) ⟨Nat.le_of_ble_eq_true rfl, Nat.le_of_ble_eq_true rfl⟩) pu_preS rfl rfl hl.1 rfl (lv_room (Nat.le_of_ble_eq_true rfl)) dX7_isTrade_1 ⟨Nat.le_of_ble_eq_true rfl, Nat.le_of_ble_eq_true rfl⟩) ?_
  refine lv_if_eq (tgt := 29) hx hb dX7_isTrade_4 (by decide) (fun h_1 => ?_) (fun h_1 => ?_)
  · skip
    refine lv_iconst (v := 0) hx hb dX7_isTrade_29 (by decide) ?_
    have hq2 : sX_isTrade a1 a2 a3 = 0 := by exact (if_pos h_1)
    exact W.zret (v := 0) hx hb hr rfl (fun t ht hW => ⟨by rw [hq2], ht⟩) (fun q h => by cases h) dX7_isTrade_30
  · skip
    refine lv_iload_n hx hb dX7_isTrade_7 rfl (lv_at hl 1 rfl) ?_
    refine pu_call (va_runS (As := [.int a2]) (rest := []) ⟨hx, hb, hml, hown, hts⟩ (c_X7_isWare l a2) (va_cwS 1 hts gX7_isTrade_X7_isWare rfl rfl rfl (by decide +kernel) ⟨Nat.le_of_ble_eq_true rfl, Nat.le_of_ble_eq_true rfl⟩) pu_preS rfl rfl hl.1 rfl (lv_room (Nat.le_of_ble_eq_true rfl)) dX7_isTrade_8 ⟨Nat.le_of_ble_eq_true rfl, Nat.le_of_ble_eq_true rfl⟩) ?_
    refine lv_if_eq (tgt := 29) hx hb dX7_isTrade_11 (by decide) (fun h_3 => ?_) (fun h_3 => ?_)
    · skip
      refine lv_iconst (v := 0) hx hb dX7_isTrade_29 (by decide) ?_
      have hq4 : sX_isTrade a1 a2 a3 = 0 := by exact (if_neg h_1).trans (if_pos h_3)
      exact W.zret (v := 0) hx hb hr rfl (fun t ht hW => ⟨by rw [hq4], ht⟩) (fun q h => by cases h) dX7_isTrade_30
    · skip
      refine lv_iload_n hx hb dX7_isTrade_14 rfl (lv_at hl 2 rfl) ?_
      refine lv_iconst (v := 1) hx hb dX7_isTrade_15 (by decide) ?_
      refine lv_sipush (v := 1000) hx hb dX7_isTrade_16 (by decide) ?_
      refine pu_call (va_runS (As := [.int a3, .int 1, .int 1000]) (rest := []) ⟨hx, hb, hml, hown, hts⟩ (c_X7_isWithin l a3 1 1000) (va_cwS 3 hts gX7_isTrade_X7_isWithin rfl rfl rfl (by decide +kernel) ⟨Nat.le_of_ble_eq_true rfl, Nat.le_of_ble_eq_true rfl⟩) pu_preS rfl rfl hl.1 rfl (lv_room (Nat.le_of_ble_eq_true rfl)) dX7_isTrade_19 ⟨Nat.le_of_ble_eq_true rfl, Nat.le_of_ble_eq_true rfl⟩) ?_
      refine lv_if_eq (tgt := 29) hx hb dX7_isTrade_22 (by decide) (fun h_5 => ?_) (fun h_5 => ?_)
      · skip
        refine lv_iconst (v := 0) hx hb dX7_isTrade_29 (by decide) ?_
        have hq6 : sX_isTrade a1 a2 a3 = 0 := by exact (if_neg h_1).trans ((if_neg h_3).trans (if_pos h_5))
        exact W.zret (v := 0) hx hb hr rfl (fun t ht hW => ⟨by rw [hq6], ht⟩) (fun q h => by cases h) dX7_isTrade_30
      · skip
        refine lv_iconst (v := 1) hx hb dX7_isTrade_25 (by decide) ?_
        refine lv_goto (tgt := 30) hx hb dX7_isTrade_26 (by decide) ?_
        have hq7 : sX_isTrade a1 a2 a3 = 1 := by exact (if_neg h_1).trans ((if_neg h_3).trans (if_neg h_5))
        exact W.zret (v := 1) hx hb hr rfl (fun t ht hW => ⟨by rw [hq7], ht⟩) (fun q h => by cases h) dX7_isTrade_30

set_option maxHeartbeats 8000000 in
set_option maxRecDepth 100000 in
theorem k_X6_startsAt (l : Launch) (dC : Nat → ClassId) (dI : Nat → Nat → Nat) (h0 : Nat) (q : Nat → Nat) (cI : ClassId) (cy : Nat → ClassId) (A : Nat → Prop) (ad : Nat → Nat → Nat) (rl : Nat → Nat × Nat) (L : List Nat) (n : Nat → Nat) (G : Nat → Nat → Int32) (hN : nb_ n) (i0 : Nat) (hi0 : i0 < n 2) (a1 : Int32) : Met l yX6_startsAt wsX6_startsAt ({ frames := 0, cells := 0, slots := 0, locals := 0 }) (va_Pc [.ref (ad 2 i0), .int a1] (ct_P (dC, dI) cI cy h0 q A ad rl L n G)) (pu_Q (.int (sX_Way_startsAt n G i0 a1))) 0 0 pu_F := by
  refine Met.ofW (cc := cX6_startsAt) (maxL := 2) (ret := (some .boolean)) (by decide) rfl ?_
  intro p e s m args below meth c s₁ B hml hv
  obtain ⟨rfl, hC, hK, hW0⟩ := hv
  have hx := B.exec
  have hb := B.bytes
  have hr := B.returns
  have hts := atoms_spec (ws := wsX6_startsAt) B.pre
  have hown : s.vm.findClass RX6 = some m.cls := findClass_of_methodNamed B.named
  have hlocks := B.notSynchronized
  have hinX6 : ∀ w ∈ u_ws RX6 TX6 6, w ∈ wsX6_startsAt := by decide +kernel
  have hl := lv_entry ([.ref (ad 2 i0), .int a1]) (n := 2) (Nat.le_of_ble_eq_true rfl)
  rw [lg_entry_eq]
  generalize (lg_sl ([.ref (ad 2 i0), .int a1]) ++ List.replicate (2 - (lg_sl ([.ref (ad 2 i0), .int a1])).length) Slot.unset).toArray = ls at hl ⊢
  have hl : lv_has ls 2 [(0, .ref (ad 2 i0)), (1, .int a1)] := hl
  refine lv_iload_n hx hb dX6_startsAt_0 rfl (lv_at hl 1 rfl) ?_
  refine lv_aload_n hx hb dX6_startsAt_1 rfl (lv_at hl 0 rfl) ?_
  refine co_get 2 i0 (C := RX6) (T := TX6) (N := 6) (ci := 5) (v := .int (G 6 i0)) hx hb hts hinX6 hown hK hC hi0 (fun _ h9 => h9) rfl 0 (by decide) (hts (.fieldLink RX6 9 "FurPosts$Way" "a" "I") (by decide +kernel)) (fun _ h9 => h9) rfl dX6_startsAt_2 ?_
  refine lv_topi (fun v1 (e1 : v1 = G 6 i0) => ?_)
  refine lv_icmp_eq (tgt := 16) hx hb dX6_startsAt_5 (by decide) (fun h_2 => ?_) (fun h_2 => ?_)
  · skip
    refine lv_iconst (v := 1) hx hb dX6_startsAt_16 (by decide) ?_
    refine lv_goto (tgt := 21) hx hb dX6_startsAt_17 (by decide) ?_
    have hq3 : sX_Way_startsAt n G i0 a1 = 1 := by subst e1; exact (if_pos h_2)
    exact W.zret (v := 1) hx hb hr rfl (fun t ht hW => ⟨by rw [hq3], ht⟩) (fun q h => by cases h) dX6_startsAt_21
  · skip
    refine lv_iload_n hx hb dX6_startsAt_8 rfl (lv_at hl 1 rfl) ?_
    refine lv_aload_n hx hb dX6_startsAt_9 rfl (lv_at hl 0 rfl) ?_
    refine co_get 2 i0 (C := RX6) (T := TX6) (N := 6) (ci := 5) (v := .int (G 7 i0)) hx hb hts hinX6 hown hK hC hi0 (fun _ h9 => h9) rfl 1 (by decide) (hts (.fieldLink RX6 15 "FurPosts$Way" "b" "I") (by decide +kernel)) (fun _ h9 => h9) rfl dX6_startsAt_10 ?_
    refine lv_topi (fun v4 (e4 : v4 = G 7 i0) => ?_)
    refine lv_icmp_ne (tgt := 20) hx hb dX6_startsAt_13 (by decide) (fun h_5 => ?_) (fun h_5 => ?_)
    · skip
      refine lv_iconst (v := 0) hx hb dX6_startsAt_20 (by decide) ?_
      have hq6 : sX_Way_startsAt n G i0 a1 = 0 := by subst e4 e1; exact (if_neg h_2).trans (if_neg h_5)
      exact W.zret (v := 0) hx hb hr rfl (fun t ht hW => ⟨by rw [hq6], ht⟩) (fun q h => by cases h) dX6_startsAt_21
    · skip
      refine lv_iconst (v := 1) hx hb dX6_startsAt_16 (by decide) ?_
      refine lv_goto (tgt := 21) hx hb dX6_startsAt_17 (by decide) ?_
      have hq7 : sX_Way_startsAt n G i0 a1 = 1 := by subst e4 e1; exact (if_neg h_2).trans (if_pos h_5)
      exact W.zret (v := 1) hx hb hr rfl (fun t ht hW => ⟨by rw [hq7], ht⟩) (fun q h => by cases h) dX6_startsAt_21

set_option maxHeartbeats 8000000 in
set_option maxRecDepth 100000 in
theorem k_X6_otherEnd (l : Launch) (dC : Nat → ClassId) (dI : Nat → Nat → Nat) (h0 : Nat) (q : Nat → Nat) (cI : ClassId) (cy : Nat → ClassId) (A : Nat → Prop) (ad : Nat → Nat → Nat) (rl : Nat → Nat × Nat) (L : List Nat) (n : Nat → Nat) (G : Nat → Nat → Int32) (hN : nb_ n) (i0 : Nat) (hi0 : i0 < n 2) (a1 : Int32) : Met l yX6_otherEnd wsX6_otherEnd ({ frames := 0, cells := 0, slots := 0, locals := 0 }) (va_Pc [.ref (ad 2 i0), .int a1] (ct_P (dC, dI) cI cy h0 q A ad rl L n G)) (pu_Q (.int (sX_Way_otherEnd n G i0 a1))) 0 0 pu_F := by
  refine Met.ofW (cc := cX6_otherEnd) (maxL := 2) (ret := (some .int)) (by decide) rfl ?_
  intro p e s m args below meth c s₁ B hml hv
  obtain ⟨rfl, hC, hK, hW0⟩ := hv
  have hx := B.exec
  have hb := B.bytes
  have hr := B.returns
  have hts := atoms_spec (ws := wsX6_otherEnd) B.pre
  have hown : s.vm.findClass RX6 = some m.cls := findClass_of_methodNamed B.named
  have hlocks := B.notSynchronized
  have hinX6 : ∀ w ∈ u_ws RX6 TX6 6, w ∈ wsX6_otherEnd := by decide +kernel
  have hl := lv_entry ([.ref (ad 2 i0), .int a1]) (n := 2) (Nat.le_of_ble_eq_true rfl)
  rw [lg_entry_eq]
  generalize (lg_sl ([.ref (ad 2 i0), .int a1]) ++ List.replicate (2 - (lg_sl ([.ref (ad 2 i0), .int a1])).length) Slot.unset).toArray = ls at hl ⊢
  have hl : lv_has ls 2 [(0, .ref (ad 2 i0)), (1, .int a1)] := hl
  refine lv_iload_n hx hb dX6_otherEnd_0 rfl (lv_at hl 1 rfl) ?_
  refine lv_aload_n hx hb dX6_otherEnd_1 rfl (lv_at hl 0 rfl) ?_
  refine co_get 2 i0 (C := RX6) (T := TX6) (N := 6) (ci := 5) (v := .int (G 6 i0)) hx hb hts hinX6 hown hK hC hi0 (fun _ h9 => h9) rfl 0 (by decide) (hts (.fieldLink RX6 9 "FurPosts$Way" "a" "I") (by decide +kernel)) (fun _ h9 => h9) rfl dX6_otherEnd_2 ?_
  refine lv_topi (fun v1 (e1 : v1 = G 6 i0) => ?_)
  refine lv_icmp_ne (tgt := 15) hx hb dX6_otherEnd_5 (by decide) (fun h_2 => ?_) (fun h_2 => ?_)
  · skip
    refine lv_aload_n hx hb dX6_otherEnd_15 rfl (lv_at hl 0 rfl) ?_
    refine co_get 2 i0 (C := RX6) (T := TX6) (N := 6) (ci := 5) (v := .int (G 6 i0)) hx hb hts hinX6 hown hK hC hi0 (fun _ h9 => h9) rfl 0 (by decide) (hts (.fieldLink RX6 9 "FurPosts$Way" "a" "I") (by decide +kernel)) (fun _ h9 => h9) rfl dX6_otherEnd_16 ?_
    refine lv_topi (fun v3 (e3 : v3 = G 6 i0) => ?_)
    have hq4 : sX_Way_otherEnd n G i0 a1 = v3 := by subst e3 e1; exact (if_neg h_2)
    exact W.iret (v := v3) hx hb hr (fun t ht hW => ⟨by rw [hq4], ht⟩) (fun q h => by cases h) dX6_otherEnd_19
  · skip
    refine lv_aload_n hx hb dX6_otherEnd_8 rfl (lv_at hl 0 rfl) ?_
    refine co_get 2 i0 (C := RX6) (T := TX6) (N := 6) (ci := 5) (v := .int (G 7 i0)) hx hb hts hinX6 hown hK hC hi0 (fun _ h9 => h9) rfl 1 (by decide) (hts (.fieldLink RX6 15 "FurPosts$Way" "b" "I") (by decide +kernel)) (fun _ h9 => h9) rfl dX6_otherEnd_9 ?_
    refine lv_topi (fun v5 (e5 : v5 = G 7 i0) => ?_)
    refine lv_goto (tgt := 19) hx hb dX6_otherEnd_12 (by decide) ?_
    have hq6 : sX_Way_otherEnd n G i0 a1 = v5 := by subst e5 e1; exact (if_pos h_2)
    exact W.iret (v := v5) hx hb hr (fun t ht hW => ⟨by rw [hq6], ht⟩) (fun q h => by cases h) dX6_otherEnd_19

set_option maxHeartbeats 8000000 in
set_option maxRecDepth 100000 in
theorem k_X6_isOpenOn (l : Launch) (dC : Nat → ClassId) (dI : Nat → Nat → Nat) (h0 : Nat) (q : Nat → Nat) (cI : ClassId) (cy : Nat → ClassId) (A : Nat → Prop) (ad : Nat → Nat → Nat) (rl : Nat → Nat × Nat) (L : List Nat) (n : Nat → Nat) (G : Nat → Nat → Int32) (hN : nb_ n) (i0 : Nat) (hi0 : i0 < n 2) (a1 : Int32) : Met l yX6_isOpenOn wsX6_isOpenOn ({ frames := 1, cells := 0, slots := 0, locals := 22 }) (va_Pc [.ref (ad 2 i0), .int a1] (ct_P (dC, dI) cI cy h0 q A ad rl L n G)) (pu_Q (.int (sX_Way_isOpenOn n G i0 a1))) 0 0 pu_F := by
  refine Met.ofW (cc := cX6_isOpenOn) (maxL := 2) (ret := (some .boolean)) (by decide) rfl ?_
  intro p e s m args below meth c s₁ B hml hv
  obtain ⟨rfl, hC, hK, hW0⟩ := hv
  have hx := B.exec
  have hb := B.bytes
  have hr := B.returns
  have hts := atoms_spec (ws := wsX6_isOpenOn) B.pre
  have hown : s.vm.findClass RX6 = some m.cls := findClass_of_methodNamed B.named
  have hlocks := B.notSynchronized
  have hinX6 : ∀ w ∈ u_ws RX6 TX6 6, w ∈ wsX6_isOpenOn := by decide +kernel
  have hl := lv_entry ([.ref (ad 2 i0), .int a1]) (n := 2) (Nat.le_of_ble_eq_true rfl)
  rw [lg_entry_eq]
  generalize (lg_sl ([.ref (ad 2 i0), .int a1]) ++ List.replicate (2 - (lg_sl ([.ref (ad 2 i0), .int a1])).length) Slot.unset).toArray = ls at hl ⊢
  have hl : lv_has ls 2 [(0, .ref (ad 2 i0)), (1, .int a1)] := hl
  refine lv_iload_n hx hb dX6_isOpenOn_0 rfl (lv_at hl 1 rfl) ?_
  refine lv_sipush (v := 365) hx hb dX6_isOpenOn_1 (by decide) ?_
  refine lv_irem hx hb dX6_isOpenOn_4 (by decide) ?_
  refine lv_aload_n hx hb dX6_isOpenOn_5 rfl (lv_at hl 0 rfl) ?_
  refine co_get 2 i0 (C := RX6) (T := TX6) (N := 6) (ci := 5) (v := .int (G 9 i0)) hx hb hts hinX6 hown hK hC hi0 (fun _ h9 => h9) rfl 3 (by decide) (hts (.fieldLink RX6 21 "FurPosts$Way" "firstOpen" "I") (by decide +kernel)) (fun _ h9 => h9) rfl dX6_isOpenOn_6 ?_
  refine lv_topi (fun v1 (e1 : v1 = G 9 i0) => ?_)
  refine lv_aload_n hx hb dX6_isOpenOn_9 rfl (lv_at hl 0 rfl) ?_
  refine co_get 2 i0 (C := RX6) (T := TX6) (N := 6) (ci := 5) (v := .int (G 10 i0)) hx hb hts hinX6 hown hK hC hi0 (fun _ h9 => h9) rfl 4 (by decide) (hts (.fieldLink RX6 24 "FurPosts$Way" "lastOpen" "I") (by decide +kernel)) (fun _ h9 => h9) rfl dX6_isOpenOn_10 ?_
  refine lv_topi (fun v2 (e2 : v2 = G 10 i0) => ?_)
  refine pu_call (va_runSN (As := [.int (a1 - a1 / 365 * 365), .int v1, .int v2]) (rest := []) ⟨hx, hb, hml, hown, hts⟩ (c_X7_isWithin l (a1 - a1 / 365 * 365) v1 v2) ⟨va_cnB 3 hts gX6_isOpenOn_X7_isWithin_n30 rfl rfl rfl (nw_w6 hW0) (hts (.initialized RX7) (by decide +kernel)) (by decide +kernel) ⟨Nat.le_of_ble_eq_true rfl, Nat.le_of_ble_eq_true rfl⟩, hts (.static yX7_isWithin) (by decide +kernel), trivial⟩ pu_preS rfl rfl hl.1 rfl (lv_room (Nat.le_of_ble_eq_true rfl)) dX6_isOpenOn_13 ⟨Nat.le_of_ble_eq_true rfl, Nat.le_of_ble_eq_true rfl⟩) ?_
  have hq3 : sX_Way_isOpenOn n G i0 a1 = (sp_in (a1 - a1 / 365 * 365) v1 v2) := by subst e2 e1; exact rfl
  exact W.zret (v := (sp_in (a1 - a1 / 365 * 365) v1 v2)) hx hb hr (sp_narrow _ _ _) (fun t ht hW => ⟨by rw [hq3], ht⟩) (fun q h => by cases h) dX6_isOpenOn_16

set_option maxHeartbeats 8000000 in
set_option maxRecDepth 100000 in
theorem k_X0_isBetween (l : Launch) (dC : Nat → ClassId) (dI : Nat → Nat → Nat) (h0 : Nat) (q : Nat → Nat) (cI : ClassId) (cy : Nat → ClassId) (A : Nat → Prop) (ad : Nat → Nat → Nat) (rl : Nat → Nat × Nat) (L : List Nat) (n : Nat → Nat) (G : Nat → Nat → Int32) (hN : nb_ n) (i0 : Nat) (hi0 : i0 < n 3) (a1 : Int32) (a2 : Int32) : Met l yX0_isBetween wsX0_isBetween ({ frames := 0, cells := 0, slots := 0, locals := 0 }) (va_Pc [.ref (ad 3 i0), .int a1, .int a2] (ct_P (dC, dI) cI cy h0 q A ad rl L n G)) (pu_Q (.int (sX_Canoe_isBetween n G i0 a1 a2))) 0 0 pu_F := by
  refine Met.ofW (cc := cX0_isBetween) (maxL := 3) (ret := (some .boolean)) (by decide) rfl ?_
  intro p e s m args below meth c s₁ B hml hv
  obtain ⟨rfl, hC, hK, hW0⟩ := hv
  have hx := B.exec
  have hb := B.bytes
  have hr := B.returns
  have hts := atoms_spec (ws := wsX0_isBetween) B.pre
  have hown : s.vm.findClass RX0 = some m.cls := findClass_of_methodNamed B.named
  have hlocks := B.notSynchronized
  have hinX0 : ∀ w ∈ u_ws RX0 TX0 11, w ∈ wsX0_isBetween := by decide +kernel
  have hl := lv_entry ([.ref (ad 3 i0), .int a1, .int a2]) (n := 3) (Nat.le_of_ble_eq_true rfl)
  rw [lg_entry_eq]
  generalize (lg_sl ([.ref (ad 3 i0), .int a1, .int a2]) ++ List.replicate (3 - (lg_sl ([.ref (ad 3 i0), .int a1, .int a2])).length) Slot.unset).toArray = ls at hl ⊢
  have hl : lv_has ls 3 [(0, .ref (ad 3 i0)), (1, .int a1), (2, .int a2)] := hl
  refine lv_aload_n hx hb dX0_isBetween_0 rfl (lv_at hl 0 rfl) ?_
  refine co_get 3 i0 (C := RX0) (T := TX0) (N := 11) (ci := 0) (v := .int (G 14 i0)) hx hb hts hinX0 hown hK hC hi0 (fun _ h9 => h9) rfl 0 (by decide) (hts (.fieldLink RX0 18 "FurPosts$Canoe" "from" "I") (by decide +kernel)) (fun _ h9 => h9) rfl dX0_isBetween_1 ?_
  refine lv_topi (fun v1 (e1 : v1 = G 14 i0) => ?_)
  refine lv_iload_n hx hb dX0_isBetween_4 rfl (lv_at hl 1 rfl) ?_
  refine lv_icmp_ne (tgt := 16) hx hb dX0_isBetween_5 (by decide) (fun h_2 => ?_) (fun h_2 => ?_)
  · skip
    refine lv_aload_n hx hb dX0_isBetween_16 rfl (lv_at hl 0 rfl) ?_
    refine co_get 3 i0 (C := RX0) (T := TX0) (N := 11) (ci := 0) (v := .int (G 14 i0)) hx hb hts hinX0 hown hK hC hi0 (fun _ h9 => h9) rfl 0 (by decide) (hts (.fieldLink RX0 18 "FurPosts$Canoe" "from" "I") (by decide +kernel)) (fun _ h9 => h9) rfl dX0_isBetween_17 ?_
    refine lv_topi (fun v3 (e3 : v3 = G 14 i0) => ?_)
    refine lv_iload_n hx hb dX0_isBetween_20 rfl (lv_at hl 2 rfl) ?_
    refine lv_icmp_ne (tgt := 36) hx hb dX0_isBetween_21 (by decide) (fun h_4 => ?_) (fun h_4 => ?_)
    · skip
      refine lv_iconst (v := 0) hx hb dX0_isBetween_36 (by decide) ?_
      have hq5 : sX_Canoe_isBetween n G i0 a1 a2 = 0 := by subst e3 e1; exact (if_neg h_2).trans (if_neg h_4)
      exact W.zret (v := 0) hx hb hr rfl (fun t ht hW => ⟨by rw [hq5], ht⟩) (fun q h => by cases h) dX0_isBetween_37
    · skip
      refine lv_aload_n hx hb dX0_isBetween_24 rfl (lv_at hl 0 rfl) ?_
      refine co_get 3 i0 (C := RX0) (T := TX0) (N := 11) (ci := 0) (v := .int (G 15 i0)) hx hb hts hinX0 hown hK hC hi0 (fun _ h9 => h9) rfl 1 (by decide) (hts (.fieldLink RX0 21 "FurPosts$Canoe" "to" "I") (by decide +kernel)) (fun _ h9 => h9) rfl dX0_isBetween_25 ?_
      refine lv_topi (fun v6 (e6 : v6 = G 15 i0) => ?_)
      refine lv_iload_n hx hb dX0_isBetween_28 rfl (lv_at hl 1 rfl) ?_
      refine lv_icmp_ne (tgt := 36) hx hb dX0_isBetween_29 (by decide) (fun h_7 => ?_) (fun h_7 => ?_)
      · skip
        refine lv_iconst (v := 0) hx hb dX0_isBetween_36 (by decide) ?_
        have hq8 : sX_Canoe_isBetween n G i0 a1 a2 = 0 := by subst e6 e3 e1; exact (if_neg h_2).trans ((if_pos h_4).trans (if_neg h_7))
        exact W.zret (v := 0) hx hb hr rfl (fun t ht hW => ⟨by rw [hq8], ht⟩) (fun q h => by cases h) dX0_isBetween_37
      · skip
        refine lv_iconst (v := 1) hx hb dX0_isBetween_32 (by decide) ?_
        refine lv_goto (tgt := 37) hx hb dX0_isBetween_33 (by decide) ?_
        have hq9 : sX_Canoe_isBetween n G i0 a1 a2 = 1 := by subst e6 e3 e1; exact (if_neg h_2).trans ((if_pos h_4).trans (if_pos h_7))
        exact W.zret (v := 1) hx hb hr rfl (fun t ht hW => ⟨by rw [hq9], ht⟩) (fun q h => by cases h) dX0_isBetween_37
  · skip
    refine lv_aload_n hx hb dX0_isBetween_8 rfl (lv_at hl 0 rfl) ?_
    refine co_get 3 i0 (C := RX0) (T := TX0) (N := 11) (ci := 0) (v := .int (G 15 i0)) hx hb hts hinX0 hown hK hC hi0 (fun _ h9 => h9) rfl 1 (by decide) (hts (.fieldLink RX0 21 "FurPosts$Canoe" "to" "I") (by decide +kernel)) (fun _ h9 => h9) rfl dX0_isBetween_9 ?_
    refine lv_topi (fun v10 (e10 : v10 = G 15 i0) => ?_)
    refine lv_iload_n hx hb dX0_isBetween_12 rfl (lv_at hl 2 rfl) ?_
    refine lv_icmp_eq (tgt := 32) hx hb dX0_isBetween_13 (by decide) (fun h_11 => ?_) (fun h_11 => ?_)
    · skip
      refine lv_iconst (v := 1) hx hb dX0_isBetween_32 (by decide) ?_
      refine lv_goto (tgt := 37) hx hb dX0_isBetween_33 (by decide) ?_
      have hq12 : sX_Canoe_isBetween n G i0 a1 a2 = 1 := by subst e10 e1; exact (if_pos h_2).trans (if_pos h_11)
      exact W.zret (v := 1) hx hb hr rfl (fun t ht hW => ⟨by rw [hq12], ht⟩) (fun q h => by cases h) dX0_isBetween_37
    · skip
      refine lv_aload_n hx hb dX0_isBetween_16 rfl (lv_at hl 0 rfl) ?_
      refine co_get 3 i0 (C := RX0) (T := TX0) (N := 11) (ci := 0) (v := .int (G 14 i0)) hx hb hts hinX0 hown hK hC hi0 (fun _ h9 => h9) rfl 0 (by decide) (hts (.fieldLink RX0 18 "FurPosts$Canoe" "from" "I") (by decide +kernel)) (fun _ h9 => h9) rfl dX0_isBetween_17 ?_
      refine lv_topi (fun v13 (e13 : v13 = G 14 i0) => ?_)
      refine lv_iload_n hx hb dX0_isBetween_20 rfl (lv_at hl 2 rfl) ?_
      refine lv_icmp_ne (tgt := 36) hx hb dX0_isBetween_21 (by decide) (fun h_14 => ?_) (fun h_14 => ?_)
      · skip
        refine lv_iconst (v := 0) hx hb dX0_isBetween_36 (by decide) ?_
        have hq15 : sX_Canoe_isBetween n G i0 a1 a2 = 0 := by subst e13 e10 e1; exact (if_pos h_2).trans ((if_neg h_11).trans (if_neg h_14))
        exact W.zret (v := 0) hx hb hr rfl (fun t ht hW => ⟨by rw [hq15], ht⟩) (fun q h => by cases h) dX0_isBetween_37
      · skip
        refine lv_aload_n hx hb dX0_isBetween_24 rfl (lv_at hl 0 rfl) ?_
        refine co_get 3 i0 (C := RX0) (T := TX0) (N := 11) (ci := 0) (v := .int (G 15 i0)) hx hb hts hinX0 hown hK hC hi0 (fun _ h9 => h9) rfl 1 (by decide) (hts (.fieldLink RX0 21 "FurPosts$Canoe" "to" "I") (by decide +kernel)) (fun _ h9 => h9) rfl dX0_isBetween_25 ?_
        refine lv_topi (fun v16 (e16 : v16 = G 15 i0) => ?_)
        refine lv_iload_n hx hb dX0_isBetween_28 rfl (lv_at hl 1 rfl) ?_
        refine lv_icmp_ne (tgt := 36) hx hb dX0_isBetween_29 (by decide) (fun h_17 => ?_) (fun h_17 => ?_)
        · skip
          refine lv_iconst (v := 0) hx hb dX0_isBetween_36 (by decide) ?_
          have hq18 : sX_Canoe_isBetween n G i0 a1 a2 = 0 := by subst e16 e13 e10 e1; exact (if_pos h_2).trans ((if_neg h_11).trans ((if_pos h_14).trans (if_neg h_17)))
          exact W.zret (v := 0) hx hb hr rfl (fun t ht hW => ⟨by rw [hq18], ht⟩) (fun q h => by cases h) dX0_isBetween_37
        · skip
          refine lv_iconst (v := 1) hx hb dX0_isBetween_32 (by decide) ?_
          refine lv_goto (tgt := 37) hx hb dX0_isBetween_33 (by decide) ?_
          have hq19 : sX_Canoe_isBetween n G i0 a1 a2 = 1 := by subst e16 e13 e10 e1; exact (if_pos h_2).trans ((if_neg h_11).trans ((if_pos h_14).trans (if_pos h_17)))
          exact W.zret (v := 1) hx hb hr rfl (fun t ht hW => ⟨by rw [hq19], ht⟩) (fun q h => by cases h) dX0_isBetween_37

set_option maxHeartbeats 8000000 in
set_option maxRecDepth 100000 in
theorem k_X0_partsBooks (l : Launch) (dC : Nat → ClassId) (dI : Nat → Nat → Nat) (h0 : Nat) (q : Nat → Nat) (cI : ClassId) (cy : Nat → ClassId) (A : Nat → Prop) (ad : Nat → Nat → Nat) (rl : Nat → Nat × Nat) (L : List Nat) (n : Nat → Nat) (G : Nat → Nat → Int32) (hN : nb_ n) (i0 : Nat) (hi0 : i0 < n 3) : Met l yX0_partsBooks wsX0_partsBooks ({ frames := 0, cells := 0, slots := 0, locals := 0 }) (va_Pc [.ref (ad 3 i0)] (ct_P (dC, dI) cI cy h0 q A ad rl L n G)) (pu_Q (.int (sX_Canoe_partsBooks n G i0))) 0 0 pu_F := by
  refine Met.ofW (cc := cX0_partsBooks) (maxL := 1) (ret := (some .boolean)) (by decide) rfl ?_
  intro p e s m args below meth c s₁ B hml hv
  obtain ⟨rfl, hC, hK, hW0⟩ := hv
  have hx := B.exec
  have hb := B.bytes
  have hr := B.returns
  have hts := atoms_spec (ws := wsX0_partsBooks) B.pre
  have hown : s.vm.findClass RX0 = some m.cls := findClass_of_methodNamed B.named
  have hlocks := B.notSynchronized
  have hinX0 : ∀ w ∈ u_ws RX0 TX0 11, w ∈ wsX0_partsBooks := by decide +kernel
  have hl := lv_entry ([.ref (ad 3 i0)]) (n := 1) (Nat.le_of_ble_eq_true rfl)
  rw [lg_entry_eq]
  generalize (lg_sl ([.ref (ad 3 i0)]) ++ List.replicate (1 - (lg_sl ([.ref (ad 3 i0)])).length) Slot.unset).toArray = ls at hl ⊢
  have hl : lv_has ls 1 [(0, .ref (ad 3 i0))] := hl
  refine lv_aload_n hx hb dX0_partsBooks_0 rfl (lv_at hl 0 rfl) ?_
  refine co_get 3 i0 (C := RX0) (T := TX0) (N := 11) (ci := 0) (v := .int (G 18 i0)) hx hb hts hinX0 hown hK hC hi0 (fun _ h9 => h9) rfl 9 (by decide) (hts (.fieldLink RX0 15 "FurPosts$Canoe" "state" "I") (by decide +kernel)) (fun _ h9 => h9) rfl dX0_partsBooks_1 ?_
  refine lv_topi (fun v1 (e1 : v1 = G 18 i0) => ?_)
  refine lv_iconst (v := 2) hx hb dX0_partsBooks_4 (by decide) ?_
  refine lv_icmp_eq (tgt := 23) hx hb dX0_partsBooks_5 (by decide) (fun h_2 => ?_) (fun h_2 => ?_)
  · skip
    refine lv_iconst (v := 1) hx hb dX0_partsBooks_23 (by decide) ?_
    refine lv_goto (tgt := 28) hx hb dX0_partsBooks_24 (by decide) ?_
    have hq3 : sX_Canoe_partsBooks n G i0 = 1 := by subst e1; exact (if_pos h_2)
    exact W.zret (v := 1) hx hb hr rfl (fun t ht hW => ⟨by rw [hq3], ht⟩) (fun q h => by cases h) dX0_partsBooks_28
  · skip
    refine lv_aload_n hx hb dX0_partsBooks_8 rfl (lv_at hl 0 rfl) ?_
    refine co_get 3 i0 (C := RX0) (T := TX0) (N := 11) (ci := 0) (v := .int (G 18 i0)) hx hb hts hinX0 hown hK hC hi0 (fun _ h9 => h9) rfl 9 (by decide) (hts (.fieldLink RX0 15 "FurPosts$Canoe" "state" "I") (by decide +kernel)) (fun _ h9 => h9) rfl dX0_partsBooks_9 ?_
    refine lv_topi (fun v4 (e4 : v4 = G 18 i0) => ?_)
    refine lv_iconst (v := 1) hx hb dX0_partsBooks_12 (by decide) ?_
    refine lv_icmp_ne (tgt := 27) hx hb dX0_partsBooks_13 (by decide) (fun h_5 => ?_) (fun h_5 => ?_)
    · skip
      refine lv_iconst (v := 0) hx hb dX0_partsBooks_27 (by decide) ?_
      have hq6 : sX_Canoe_partsBooks n G i0 = 0 := by subst e4 e1; exact (if_neg h_2).trans (if_neg h_5)
      exact W.zret (v := 0) hx hb hr rfl (fun t ht hW => ⟨by rw [hq6], ht⟩) (fun q h => by cases h) dX0_partsBooks_28
    · skip
      refine lv_aload_n hx hb dX0_partsBooks_16 rfl (lv_at hl 0 rfl) ?_
      refine co_get 3 i0 (C := RX0) (T := TX0) (N := 11) (ci := 0) (v := .int (G 24 i0)) hx hb hts hinX0 hown hK hC hi0 (fun _ h9 => h9) rfl 10 (by decide) (hts (.fieldLink RX0 45 "FurPosts$Canoe" "spoilt" "Z") (by decide +kernel)) (fun _ h9 => h9) rfl dX0_partsBooks_17 ?_
      refine lv_topi (fun v7 (e7 : v7 = G 24 i0) => ?_)
      refine lv_if_eq (tgt := 27) hx hb dX0_partsBooks_20 (by decide) (fun h_8 => ?_) (fun h_8 => ?_)
      · skip
        refine lv_iconst (v := 0) hx hb dX0_partsBooks_27 (by decide) ?_
        have hq9 : sX_Canoe_partsBooks n G i0 = 0 := by subst e7 e4 e1; exact (if_neg h_2).trans ((if_pos h_5).trans (if_pos h_8))
        exact W.zret (v := 0) hx hb hr rfl (fun t ht hW => ⟨by rw [hq9], ht⟩) (fun q h => by cases h) dX0_partsBooks_28
      · skip
        refine lv_iconst (v := 1) hx hb dX0_partsBooks_23 (by decide) ?_
        refine lv_goto (tgt := 28) hx hb dX0_partsBooks_24 (by decide) ?_
        have hq10 : sX_Canoe_partsBooks n G i0 = 1 := by subst e7 e4 e1; exact (if_neg h_2).trans ((if_pos h_5).trans (if_neg h_8))
        exact W.zret (v := 1) hx hb hr rfl (fun t ht hW => ⟨by rw [hq10], ht⟩) (fun q h => by cases h) dX0_partsBooks_28

set_option maxHeartbeats 8000000 in
set_option maxRecDepth 100000 in
theorem k_X4_owedByAll (l : Launch) (dC : Nat → ClassId) (dI : Nat → Nat → Nat) (h0 : Nat) (q : Nat → Nat) (cI : ClassId) (cy : Nat → ClassId) (A : Nat → Prop) (ad : Nat → Nat → Nat) (rl : Nat → Nat × Nat) (L : List Nat) (n : Nat → Nat) (G : Nat → Nat → Int32) (hN : nb_ n) (i0 : Nat) (hi0 : i0 < n 1) : Met l yX4_owedByAll wsX4_owedByAll ({ frames := 0, cells := 0, slots := 0, locals := 0 }) (va_Pc [.ref (ad 1 i0)] (ct_P (dC, dI) cI cy h0 q A ad rl L n G)) (pu_Q (.int (sX_Post_owedByAll n G i0))) 0 0 pu_F := by
  refine Met.ofW (cc := cX4_owedByAll) (maxL := 3) (ret := (some .int)) (by decide) rfl ?_
  intro p e s m args below meth c s₁ B hml hv
  obtain ⟨rfl, hC, hK, hW0⟩ := hv
  have hx := B.exec
  have hb := B.bytes
  have hr := B.returns
  have hts := atoms_spec (ws := wsX4_owedByAll) B.pre
  have hown : s.vm.findClass RX4 = some m.cls := findClass_of_methodNamed B.named
  have hlocks := B.notSynchronized
  have hinX4 : ∀ w ∈ u_ws RX4 TX4 4, w ∈ wsX4_owedByAll := by decide +kernel
  have hl := lv_entry ([.ref (ad 1 i0)]) (n := 3) (Nat.le_of_ble_eq_true rfl)
  rw [lg_entry_eq]
  generalize (lg_sl ([.ref (ad 1 i0)]) ++ List.replicate (3 - (lg_sl ([.ref (ad 1 i0)])).length) Slot.unset).toArray = ls at hl ⊢
  have hl : lv_has ls 3 [(0, .ref (ad 1 i0))] := hl
  refine lv_iconst (v := 0) hx hb dX4_owedByAll_0 (by decide) ?_
  refine lv_istore_n (lv' := [(1, .int 0), (0, .ref (ad 1 i0))]) hx hb dX4_owedByAll_1 rfl hl (by decide) rfl (fun ls hl => ?_)
  refine lv_iconst (v := 0) hx hb dX4_owedByAll_2 (by decide) ?_
  refine lv_istore_n (lv' := [(2, .int 0), (1, .int 0), (0, .ref (ad 1 i0))]) hx hb dX4_owedByAll_3 rfl hl (by decide) rfl (fun ls hl => ?_)
  have key4 : ∀ (k jL4 : Nat) (xL4_1 : Int32) (ls : Array Slot), jL4 + k = 12 → lv_has ls 3 [(2, .int (nI jL4)), (1, .int xL4_1), (0, .ref (ad 1 i0))] → (∀ (ls : Array Slot), lv_has ls 3 [(2, .int (nI 12)), (1, .int (sX_Post_owedByAll_L4 G i0 k jL4 xL4_1)), (0, .ref (ad 1 i0))] → W p l e (headSpec wsX4_owedByAll ({ frames := 0, cells := 0, slots := 0, locals := 0 })).room s m [.ref (ad 1 i0)].toArray below meth c s.heap [] 0 0 (MQ below (pu_Q (.int (sX_Post_owedByAll n G i0))) [.ref (ad 1 i0)].toArray s 0 0 pu_F) (F0 m 25 ls [])) → 
      W p l e (headSpec wsX4_owedByAll ({ frames := 0, cells := 0, slots := 0, locals := 0 })).room s m [.ref (ad 1 i0)].toArray below meth c s.heap [] 0 0 (MQ below (pu_Q (.int (sX_Post_owedByAll n G i0))) [.ref (ad 1 i0)].toArray s 0 0 pu_F) (F0 m 4 ls []) := by
    intro k
    induction k with
    | zero =>
      intro jL4 xL4_1 ls hj hl hex
      have hj : jL4 = 12 := by omega
      subst jL4
      refine lv_iload_n hx hb dX4_owedByAll_4 rfl (lv_at hl 0 rfl) ?_
      refine lv_bipush (v := 12) hx hb dX4_owedByAll_5 (by decide) ?_
      refine lv_icmp_ge (tgt := 25) hx hb dX4_owedByAll_7 (by decide) (fun h_1 => ?_) (fun h_1 => absurd (lp_ge0 (B := 12) rfl) h_1)
      exact hex ls (lv_sub hl [0, 1, 2] rfl)
    | succ k ih4 =>
      intro jL4 xL4_1 ls hj hl hex
      have hj4 : jL4 < 12 := by omega
      refine lv_iload_n hx hb dX4_owedByAll_4 rfl (lv_at hl 0 rfl) ?_
      refine lv_bipush (v := 12) hx hb dX4_owedByAll_5 (by decide) ?_
      refine lv_icmp_ge (tgt := 25) hx hb dX4_owedByAll_7 (by decide) (fun h_2 => absurd h_2 (lp_ge (B := 12) (by omega) (by omega) rfl)) (fun h_2 => ?_)
      refine lv_iload_n hx hb dX4_owedByAll_10 rfl (lv_at hl 1 rfl) ?_
      refine lv_aload_n hx hb dX4_owedByAll_11 rfl (lv_at hl 2 rfl) ?_
      refine co_get 1 i0 (C := RX4) (T := TX4) (N := 4) (ci := 3) (v := .ref (ad 7 i0)) hx hb hts hinX4 hown hK hC hi0 (fun _ h9 => h9) rfl 2 (by decide) (hts (.fieldLink RX4 18 "FurPosts$Post" "owed" "[I") (by decide +kernel)) (fun _ h9 => h9) rfl dX4_owedByAll_12 ?_
      refine lv_iload_n hx hb dX4_owedByAll_15 rfl (lv_at hl 0 rfl) ?_
      refine ci_ald 7 i0 hx hb hK hC hi0 (by decide) (w := (nI jL4)) (vp_in_nI (show jL4 < 12 by omega) (by decide)) dX4_owedByAll_16 ?_
      refine lv_topi (fun v3 (e3 : v3 = G 4 (12 * i0 + (nI jL4).toNatClampNeg)) => ?_)
      rw [(show (nI jL4).toNatClampNeg = jL4 from nI_clamp (by omega))] at e3
      refine lv_iadd hx hb dX4_owedByAll_17 ?_
      refine lv_istore_n (lv' := [(1, .int (xL4_1 + v3)), (2, .int (nI jL4)), (0, .ref (ad 1 i0))]) hx hb dX4_owedByAll_18 rfl hl (by decide) rfl (fun ls hl => ?_)
      refine lv_iinc (v := (nI (jL4 + 1))) (lv' := [(2, .int (nI (jL4 + 1))), (1, .int (xL4_1 + v3)), (0, .ref (ad 1 i0))]) hx hb dX4_owedByAll_19 hl (k := 1) rfl (show nI jL4 + 1 = nI (jL4 + 1) from nI_1 jL4) (by decide) rfl (fun ls hl => ?_)
      refine lv_goto (tgt := 4) hx hb dX4_owedByAll_22 (by decide) ?_
      have hI4 : (sX_Post_owedByAll_L4 G i0 (k + 1) jL4 xL4_1) = (sX_Post_owedByAll_L4 G i0 k (jL4 + 1) (xL4_1 + v3)) := by subst e3; exact rfl
      exact ih4 (jL4 + 1) (xL4_1 + v3) ls (by omega) (lv_sub hl [0, 1, 2] rfl) (by rw [← hI4]; exact hex)
  refine key4 12 0 0 ls (by omega) (lv_sub hl [0, 1, 2] rfl) (fun ls hl => ?_)
  obtain ⟨v4, e4⟩ : ∃ v4 : Int32, v4 = (sX_Post_owedByAll_L4 G i0 12 0 0) := ⟨_, rfl⟩
  rw [← e4] at hl
  refine lv_iload_n hx hb dX4_owedByAll_25 rfl (lv_at hl 1 rfl) ?_
  have hq5 : sX_Post_owedByAll n G i0 = v4 := by subst e4; exact rfl
  exact W.iret (v := v4) hx hb hr (fun t ht hW => ⟨by rw [hq5], ht⟩) (fun q h => by cases h) dX4_owedByAll_26

set_option maxHeartbeats 8000000 in
set_option maxRecDepth 100000 in
theorem k_X7_next (l : Launch) (dC : Nat → ClassId) (dI : Nat → Nat → Nat) (h0 : Nat) (q : Nat → Nat) (cI : ClassId) (cy : Nat → ClassId) (A : Nat → Prop) (ad : Nat → Nat → Nat) (rl : Nat → Nat × Nat) (L : List Nat) (n : Nat → Nat) (G : Nat → Nat → Int32) (hN : nb_ n) (a1 : Int32) (a2 : Int32) : Met l yX7_next wsX7_next ({ frames := 2, cells := 0, slots := 0, locals := 43 }) (va_Pc [.ref h0, .int a1, .int a2] (ct_P (dC, dI) cI cy h0 q A ad rl L n G)) (pu_Q (.int (sX_next n G a1 a2))) 0 0 pu_F := by
  refine Met.ofW (cc := cX7_next) (maxL := 4) (ret := (some .int)) (by decide) rfl ?_
  intro p e s m args below meth c s₁ B hml hv
  obtain ⟨rfl, hC, hK, hW0⟩ := hv
  have hx := B.exec
  have hb := B.bytes
  have hr := B.returns
  have hts := atoms_spec (ws := wsX7_next) B.pre
  have hown : s.vm.findClass RX7 = some m.cls := findClass_of_methodNamed B.named
  have hlocks := B.notSynchronized
  have hinX7 : ∀ w ∈ u_ws RX7 TX7 14, w ∈ wsX7_next := by decide +kernel
  have hl := lv_entry ([.ref h0, .int a1, .int a2]) (n := 4) (Nat.le_of_ble_eq_true rfl)
  rw [lg_entry_eq]
  generalize (lg_sl ([.ref h0, .int a1, .int a2]) ++ List.replicate (4 - (lg_sl ([.ref h0, .int a1, .int a2])).length) Slot.unset).toArray = ls at hl ⊢
  have hl : lv_has ls 4 [(0, .ref h0), (1, .int a1), (2, .int a2)] := hl
  refine lv_aload_n hx hb dX7_next_0 rfl (lv_at hl 0 rfl) ?_
  refine lv_iload_n hx hb dX7_next_1 rfl (lv_at hl 1 rfl) ?_
  refine lv_iload_n hx hb dX7_next_2 rfl (lv_at hl 2 rfl) ?_
  refine pu_call (va_runV (As := [.int a1, .int a2]) (rest := []) ⟨hx, hb, hml, hown, hts⟩ (k_X7_areTwoPosts l dC dI h0 q cI cy A ad rl L n G hN a1 a2) (cwV 2 hts gX7_next_X7_areTwoPosts rfl rfl rfl (by decide +kernel) ⟨Nat.le_of_ble_eq_true rfl, Nat.le_of_ble_eq_true rfl⟩) (ct_pre hC hK hW0) rfl rfl hl.1 rfl (lv_room (Nat.le_of_ble_eq_true rfl)) dX7_next_3 ⟨Nat.le_of_ble_eq_true rfl, Nat.le_of_ble_eq_true rfl⟩) ?_
  refine lv_topi (fun r1 (e1 : r1 = sX_areTwoPosts n G a1 a2) => ?_)
  have hg1 : ¬ r1 = 0 → vp_in a1 8 ∧ vp_in a2 8 := by rw [e1]; exact sX_areTwoPosts_b hN
  refine lv_if_eq (tgt := 22) hx hb dX7_next_6 (by decide) (fun h_2 => ?_) (fun h_2 => ?_)
  · skip
    refine lv_iconst (v := (-1)) hx hb dX7_next_22 (by decide) ?_
    have hq3 : sX_next n G a1 a2 = (-1) := by subst e1; exact (if_pos h_2)
    exact W.iret (v := (-1)) hx hb hr (fun t ht hW => ⟨by rw [hq3], ht⟩) (fun q h => by cases h) dX7_next_23
  · skip
    refine lv_aload_n hx hb dX7_next_9 rfl (lv_at hl 0 rfl) ?_
    refine cx_get hx hb hts hinX7 hown hK hC 4 (by decide) (v := .ref (q 5)) rfl (hts (.fieldLink RX7 35 "FurPosts" "distances" "[[I") (by decide +kernel)) dX7_next_10 ?_
    refine lv_iload_n hx hb dX7_next_13 rfl (lv_at hl 1 rfl) ?_
    refine cr_ald25 hx hb hK hC (w := a1) ((hg1 h_2).1) dX7_next_14 ?_
    refine lv_iload_n hx hb dX7_next_15 rfl (lv_at hl 2 rfl) ?_
    refine ci_ald 12 a1.toNatClampNeg hx hb hK hC (vp_lt ((hg1 h_2).1)) (by decide) (w := a2) ((hg1 h_2).2) dX7_next_16 ?_
    refine lv_topi (fun v4 (e4 : v4 = G 43 (8 * a1.toNatClampNeg + a2.toNatClampNeg)) => ?_)
    refine lv_bipush (v := 100) hx hb dX7_next_17 (by decide) ?_
    refine lv_icmp_lt (tgt := 24) hx hb dX7_next_19 (by decide) (fun h_5 => ?_) (fun h_5 => ?_)
    · skip
      refine lv_iconst (v := 0) hx hb dX7_next_24 (by decide) ?_
      refine lv_istore_n (lv' := [(3, .int 0), (0, .ref h0), (1, .int a1), (2, .int a2)]) hx hb dX7_next_25 rfl hl (by decide) rfl (fun ls hl => ?_)
      have key26 : ∀ (k jL26 : Nat) (ls : Array Slot), jL26 + k = 8 → sX_next n G a1 a2 = (sX_next_L26 G a1 a2 k jL26) → lv_has ls 4 [(3, .int (nI jL26)), (0, .ref h0), (1, .int a1), (2, .int a2)] → 
          W p l e (headSpec wsX7_next ({ frames := 2, cells := 0, slots := 0, locals := 43 })).room s m [.ref h0, .int a1, .int a2].toArray below meth c s.heap [] 0 0 (MQ below (pu_Q (.int (sX_next n G a1 a2))) [.ref h0, .int a1, .int a2].toArray s 0 0 pu_F) (F0 m 26 ls []) := by
        intro k
        induction k with
        | zero =>
          intro jL26 ls hj hE26 hl
          have hj : jL26 = 8 := by omega
          subst jL26
          refine lv_iload_n hx hb dX7_next_26 rfl (lv_at hl 0 rfl) ?_
          refine lv_bipush (v := 8) hx hb dX7_next_27 (by decide) ?_
          refine lv_icmp_ge (tgt := 73) hx hb dX7_next_29 (by decide) (fun h_6 => ?_) (fun h_6 => absurd (lp_ge0 (B := 8) rfl) h_6)
          refine lv_iconst (v := (-1)) hx hb dX7_next_73 (by decide) ?_
          have hq7 : sX_next n G a1 a2 = (-1) := by subst e4 e1; exact hE26
          exact W.iret (v := (-1)) hx hb hr (fun t ht hW => ⟨by rw [hq7], ht⟩) (fun q h => by cases h) dX7_next_74
        | succ k ih26 =>
          intro jL26 ls hj hE26 hl
          have hj26 : jL26 < 8 := by omega
          refine lv_iload_n hx hb dX7_next_26 rfl (lv_at hl 0 rfl) ?_
          refine lv_bipush (v := 8) hx hb dX7_next_27 (by decide) ?_
          refine lv_icmp_ge (tgt := 73) hx hb dX7_next_29 (by decide) (fun h_8 => absurd h_8 (lp_ge (B := 8) (by omega) (by omega) rfl)) (fun h_8 => ?_)
          refine lv_aload_n hx hb dX7_next_32 rfl (lv_at hl 1 rfl) ?_
          refine cx_get hx hb hts hinX7 hown hK hC 4 (by decide) (v := .ref (q 5)) rfl (hts (.fieldLink RX7 35 "FurPosts" "distances" "[[I") (by decide +kernel)) dX7_next_33 ?_
          refine lv_iload_n hx hb dX7_next_36 rfl (lv_at hl 2 rfl) ?_
          refine cr_ald25 hx hb hK hC (w := a1) ((hg1 h_2).1) dX7_next_37 ?_
          refine lv_iload_n hx hb dX7_next_38 rfl (lv_at hl 0 rfl) ?_
          refine ci_ald 12 a1.toNatClampNeg hx hb hK hC (vp_lt ((hg1 h_2).1)) (by decide) (w := (nI jL26)) (vp_in_nI (show jL26 < 8 by omega) (by decide)) dX7_next_39 ?_
          refine lv_topi (fun v9 (e9 : v9 = G 43 (8 * a1.toNatClampNeg + (nI jL26).toNatClampNeg)) => ?_)
          rw [(show (nI jL26).toNatClampNeg = jL26 from nI_clamp (by omega))] at e9
          refine lv_iconst (v := 1) hx hb dX7_next_40 (by decide) ?_
          refine lv_icmp_ne (tgt := 67) hx hb dX7_next_41 (by decide) (fun h_10 => ?_) (fun h_10 => ?_)
          · skip
            refine lv_iinc (v := (nI (jL26 + 1))) (lv' := [(3, .int (nI (jL26 + 1))), (0, .ref h0), (1, .int a1), (2, .int a2)]) hx hb dX7_next_67 hl (k := 0) rfl (show nI jL26 + 1 = nI (jL26 + 1) from nI_1 jL26) (by decide) rfl (fun ls hl => ?_)
            refine lv_goto (tgt := 26) hx hb dX7_next_70 (by decide) ?_
            exact ih26 (jL26 + 1) ls (by omega) (by subst e9 e4 e1; exact hE26.trans (if_neg h_10)) (lv_sub hl [0, 1, 2, 3] rfl)
          · skip
            refine lv_aload_n hx hb dX7_next_44 rfl (lv_at hl 1 rfl) ?_
            refine cx_get hx hb hts hinX7 hown hK hC 4 (by decide) (v := .ref (q 5)) rfl (hts (.fieldLink RX7 35 "FurPosts" "distances" "[[I") (by decide +kernel)) dX7_next_45 ?_
            refine lv_iload_n hx hb dX7_next_48 rfl (lv_at hl 0 rfl) ?_
            refine cr_ald25 hx hb hK hC (w := (nI jL26)) (vp_in_nI (show jL26 < 8 by omega) (by decide)) dX7_next_49 ?_
            rw [(show (nI jL26).toNatClampNeg = jL26 from nI_clamp (by omega))]
            refine lv_iload_n hx hb dX7_next_50 rfl (lv_at hl 3 rfl) ?_
            refine ci_ald 12 jL26 hx hb hK hC (show jL26 < 8 by omega) (by decide) (w := a2) ((hg1 h_2).2) dX7_next_51 ?_
            refine lv_topi (fun v11 (e11 : v11 = G 43 (8 * jL26 + a2.toNatClampNeg)) => ?_)
            refine lv_aload_n hx hb dX7_next_52 rfl (lv_at hl 1 rfl) ?_
            refine cx_get hx hb hts hinX7 hown hK hC 4 (by decide) (v := .ref (q 5)) rfl (hts (.fieldLink RX7 35 "FurPosts" "distances" "[[I") (by decide +kernel)) dX7_next_53 ?_
            refine lv_iload_n hx hb dX7_next_56 rfl (lv_at hl 2 rfl) ?_
            refine cr_ald25 hx hb hK hC (w := a1) ((hg1 h_2).1) dX7_next_57 ?_
            refine lv_iload_n hx hb dX7_next_58 rfl (lv_at hl 3 rfl) ?_
            refine ci_ald 12 a1.toNatClampNeg hx hb hK hC (vp_lt ((hg1 h_2).1)) (by decide) (w := a2) ((hg1 h_2).2) dX7_next_59 ?_
            refine lv_topi (fun v12 (e12 : v12 = G 43 (8 * a1.toNatClampNeg + a2.toNatClampNeg)) => ?_)
            refine lv_iconst (v := 1) hx hb dX7_next_60 (by decide) ?_
            refine lv_isub hx hb dX7_next_61 ?_
            refine lv_icmp_ne (tgt := 67) hx hb dX7_next_62 (by decide) (fun h_13 => ?_) (fun h_13 => ?_)
            · skip
              refine lv_iinc (v := (nI (jL26 + 1))) (lv' := [(3, .int (nI (jL26 + 1))), (0, .ref h0), (1, .int a1), (2, .int a2)]) hx hb dX7_next_67 hl (k := 0) rfl (show nI jL26 + 1 = nI (jL26 + 1) from nI_1 jL26) (by decide) rfl (fun ls hl => ?_)
              refine lv_goto (tgt := 26) hx hb dX7_next_70 (by decide) ?_
              exact ih26 (jL26 + 1) ls (by omega) (by subst e12 e11 e9 e4 e1; exact hE26.trans ((if_pos h_10).trans (if_neg h_13))) (lv_sub hl [0, 1, 2, 3] rfl)
            · skip
              refine lv_iload_n hx hb dX7_next_65 rfl (lv_at hl 0 rfl) ?_
              have hq14 : sX_next n G a1 a2 = (nI jL26) := by subst e12 e11 e9 e4 e1; exact hE26.trans ((if_pos h_10).trans (if_pos h_13))
              exact W.iret (v := (nI jL26)) hx hb hr (fun t ht hW => ⟨by rw [hq14], ht⟩) (fun q h => by cases h) dX7_next_66
      exact key26 8 0 ls (by omega) (by subst e4 e1; exact (if_neg h_2).trans (if_pos h_5)) (lv_sub hl [0, 1, 2, 3] rfl)
    · skip
      refine lv_iconst (v := (-1)) hx hb dX7_next_22 (by decide) ?_
      have hq15 : sX_next n G a1 a2 = (-1) := by subst e4 e1; exact (if_neg h_2).trans (if_neg h_5)
      exact W.iret (v := (-1)) hx hb hr (fun t ht hW => ⟨by rw [hq15], ht⟩) (fun q h => by cases h) dX7_next_23

set_option maxHeartbeats 8000000 in
set_option maxRecDepth 100000 in
theorem k_X7_canLoad (l : Launch) (dC : Nat → ClassId) (dI : Nat → Nat → Nat) (h0 : Nat) (q : Nat → Nat) (cI : ClassId) (cy : Nat → ClassId) (A : Nat → Prop) (ad : Nat → Nat → Nat) (rl : Nat → Nat × Nat) (L : List Nat) (n : Nat → Nat) (G : Nat → Nat → Int32) (hN : nb_ n) (i1 : Nat) (hi1 : i1 < n 1) (i2 : Nat) (hi2 : i2 < n 2) : Met l yX7_canLoad wsX7_canLoad ({ frames := 0, cells := 0, slots := 0, locals := 0 }) (va_Pc [.ref h0, .ref (ad 1 i1), .ref (ad 2 i2)] (ct_P (dC, dI) cI cy h0 q A ad rl L n G)) (pu_Q (.int (sX_canLoad n G i1 i2))) 0 0 pu_F := by
  refine Met.ofW (cc := cX7_canLoad) (maxL := 5) (ret := (some .boolean)) (by decide) rfl ?_
  intro p e s m args below meth c s₁ B hml hv
  obtain ⟨rfl, hC, hK, hW0⟩ := hv
  have hx := B.exec
  have hb := B.bytes
  have hr := B.returns
  have hts := atoms_spec (ws := wsX7_canLoad) B.pre
  have hown : s.vm.findClass RX7 = some m.cls := findClass_of_methodNamed B.named
  have hlocks := B.notSynchronized
  have hinX4 : ∀ w ∈ u_ws RX4 TX4 4, w ∈ wsX7_canLoad := by decide +kernel
  have hinX6 : ∀ w ∈ u_ws RX6 TX6 6, w ∈ wsX7_canLoad := by decide +kernel
  have hinX7 : ∀ w ∈ u_ws RX7 TX7 14, w ∈ wsX7_canLoad := by decide +kernel
  have hl := lv_entry ([.ref h0, .ref (ad 1 i1), .ref (ad 2 i2)]) (n := 5) (Nat.le_of_ble_eq_true rfl)
  rw [lg_entry_eq]
  generalize (lg_sl ([.ref h0, .ref (ad 1 i1), .ref (ad 2 i2)]) ++ List.replicate (5 - (lg_sl ([.ref h0, .ref (ad 1 i1), .ref (ad 2 i2)])).length) Slot.unset).toArray = ls at hl ⊢
  have hl : lv_has ls 5 [(0, .ref h0), (1, .ref (ad 1 i1)), (2, .ref (ad 2 i2))] := hl
  refine lv_iconst (v := 0) hx hb dX7_canLoad_0 (by decide) ?_
  refine lv_istore_n (lv' := [(3, .int 0), (0, .ref h0), (1, .ref (ad 1 i1)), (2, .ref (ad 2 i2))]) hx hb dX7_canLoad_1 rfl hl (by decide) rfl (fun ls hl => ?_)
  refine lv_iconst (v := 0) hx hb dX7_canLoad_2 (by decide) ?_
  refine lv_istore (lv' := [(4, .int 0), (3, .int 0), (0, .ref h0), (1, .ref (ad 1 i1)), (2, .ref (ad 2 i2))]) hx hb dX7_canLoad_3 hl (by decide) rfl (fun ls hl => ?_)
  have key5 : ∀ (k jL5 : Nat) (xL5_3 : Int32) (ls : Array Slot), jL5 + k = 6 → sX_canLoad n G i1 i2 = (sX_canLoad_L5 G i2 i1 k jL5 xL5_3) → lv_has ls 5 [(4, .int (nI jL5)), (3, .int xL5_3), (0, .ref h0), (1, .ref (ad 1 i1)), (2, .ref (ad 2 i2))] → 
      W p l e (headSpec wsX7_canLoad ({ frames := 0, cells := 0, slots := 0, locals := 0 })).room s m [.ref h0, .ref (ad 1 i1), .ref (ad 2 i2)].toArray below meth c s.heap [] 0 0 (MQ below (pu_Q (.int (sX_canLoad n G i1 i2))) [.ref h0, .ref (ad 1 i1), .ref (ad 2 i2)].toArray s 0 0 pu_F) (F0 m 5 ls []) := by
    intro k
    induction k with
    | zero =>
      intro jL5 xL5_3 ls hj hE5 hl
      have hj : jL5 = 6 := by omega
      subst jL5
      refine lv_iload hx hb dX7_canLoad_5 (lv_at hl 0 rfl) ?_
      refine lv_bipush (v := 6) hx hb dX7_canLoad_7 (by decide) ?_
      refine lv_icmp_ge (tgt := 47) hx hb dX7_canLoad_9 (by decide) (fun h_1 => ?_) (fun h_1 => absurd (lp_ge0 (B := 6) rfl) h_1)
      refine lv_iload_n hx hb dX7_canLoad_47 rfl (lv_at hl 1 rfl) ?_
      refine lv_aload_n hx hb dX7_canLoad_48 rfl (lv_at hl 4 rfl) ?_
      refine co_get 2 i2 (C := RX6) (T := TX6) (N := 6) (ci := 5) (v := .int (G 11 i2)) hx hb hts hinX6 hown hK hC hi2 (fun _ h9 => h9) rfl 5 (by decide) (hts (.fieldLink RX7 162 "FurPosts$Way" "bears" "I") (by decide +kernel)) (fun _ h9 => h9) rfl dX7_canLoad_49 ?_
      refine lv_topi (fun v2 (e2 : v2 = G 11 i2) => ?_)
      refine lv_icmp_gt (tgt := 59) hx hb dX7_canLoad_52 (by decide) (fun h_3 => ?_) (fun h_3 => ?_)
      · skip
        refine lv_iconst (v := 0) hx hb dX7_canLoad_59 (by decide) ?_
        have hq4 : sX_canLoad n G i1 i2 = 0 := by subst e2; exact hE5.trans (if_pos h_3)
        exact W.zret (v := 0) hx hb hr rfl (fun t ht hW => ⟨by rw [hq4], ht⟩) (fun q h => by cases h) dX7_canLoad_60
      · skip
        refine lv_iconst (v := 1) hx hb dX7_canLoad_55 (by decide) ?_
        refine lv_goto (tgt := 60) hx hb dX7_canLoad_56 (by decide) ?_
        have hq5 : sX_canLoad n G i1 i2 = 1 := by subst e2; exact hE5.trans (if_neg h_3)
        exact W.zret (v := 1) hx hb hr rfl (fun t ht hW => ⟨by rw [hq5], ht⟩) (fun q h => by cases h) dX7_canLoad_60
    | succ k ih5 =>
      intro jL5 xL5_3 ls hj hE5 hl
      have hj5 : jL5 < 6 := by omega
      refine lv_iload hx hb dX7_canLoad_5 (lv_at hl 0 rfl) ?_
      refine lv_bipush (v := 6) hx hb dX7_canLoad_7 (by decide) ?_
      refine lv_icmp_ge (tgt := 47) hx hb dX7_canLoad_9 (by decide) (fun h_6 => absurd h_6 (lp_ge (B := 6) (by omega) (by omega) rfl)) (fun h_6 => ?_)
      refine lv_aload_n hx hb dX7_canLoad_12 rfl (lv_at hl 2 rfl) ?_
      refine cx_get hx hb hts hinX7 hown hK hC 7 (by decide) (v := .ref (q 8)) rfl (hts (.fieldLink RX7 44 "FurPosts" "loaded" "[I") (by decide +kernel)) dX7_canLoad_13 ?_
      refine lv_iload hx hb dX7_canLoad_16 (lv_at hl 0 rfl) ?_
      rw [show q 8 = ad 28 0 from cp_q8 hC]
      refine ci_ald 28 0 hx hb hK hC rfl (by decide) (w := (nI jL5)) (vp_in_nI (show jL5 < 6 by omega) (by decide)) dX7_canLoad_18 ?_
      refine lv_topi (fun v7 (e7 : v7 = G 12 ((nI jL5).toNatClampNeg)) => ?_)
      rw [(show (nI jL5).toNatClampNeg = jL5 from nI_clamp (by omega))] at e7
      refine lv_aload_n hx hb dX7_canLoad_19 rfl (lv_at hl 3 rfl) ?_
      refine co_get 1 i1 (C := RX4) (T := TX4) (N := 4) (ci := 3) (v := .ref (ad 5 i1)) hx hb hts hinX4 hown hK hC hi1 (fun _ h9 => h9) rfl 0 (by decide) (hts (.fieldLink RX7 92 "FurPosts$Post" "stock" "[I") (by decide +kernel)) (fun _ h9 => h9) rfl dX7_canLoad_20 ?_
      refine lv_iload hx hb dX7_canLoad_23 (lv_at hl 0 rfl) ?_
      refine ci_ald 5 i1 hx hb hK hC hi1 (by decide) (w := (nI jL5)) (vp_in_nI (show jL5 < 6 by omega) (by decide)) dX7_canLoad_25 ?_
      refine lv_topi (fun v8 (e8 : v8 = G 2 (6 * i1 + (nI jL5).toNatClampNeg)) => ?_)
      rw [(show (nI jL5).toNatClampNeg = jL5 from nI_clamp (by omega))] at e8
      refine lv_icmp_le (tgt := 31) hx hb dX7_canLoad_26 (by decide) (fun h_9 => ?_) (fun h_9 => ?_)
      · skip
        refine lv_iload_n hx hb dX7_canLoad_31 rfl (lv_at hl 1 rfl) ?_
        refine lv_aload_n hx hb dX7_canLoad_32 rfl (lv_at hl 2 rfl) ?_
        refine cx_get hx hb hts hinX7 hown hK hC 7 (by decide) (v := .ref (q 8)) rfl (hts (.fieldLink RX7 44 "FurPosts" "loaded" "[I") (by decide +kernel)) dX7_canLoad_33 ?_
        refine lv_iload hx hb dX7_canLoad_36 (lv_at hl 0 rfl) ?_
        rw [show q 8 = ad 28 0 from cp_q8 hC]
        refine ci_ald 28 0 hx hb hK hC rfl (by decide) (w := (nI jL5)) (vp_in_nI (show jL5 < 6 by omega) (by decide)) dX7_canLoad_38 ?_
        refine lv_topi (fun v10 (e10 : v10 = G 12 ((nI jL5).toNatClampNeg)) => ?_)
        rw [(show (nI jL5).toNatClampNeg = jL5 from nI_clamp (by omega))] at e10
        refine lv_iadd hx hb dX7_canLoad_39 ?_
        refine lv_istore_n (lv' := [(3, .int (xL5_3 + v10)), (4, .int (nI jL5)), (0, .ref h0), (1, .ref (ad 1 i1)), (2, .ref (ad 2 i2))]) hx hb dX7_canLoad_40 rfl hl (by decide) rfl (fun ls hl => ?_)
        refine lv_iinc (v := (nI (jL5 + 1))) (lv' := [(4, .int (nI (jL5 + 1))), (3, .int (xL5_3 + v10)), (0, .ref h0), (1, .ref (ad 1 i1)), (2, .ref (ad 2 i2))]) hx hb dX7_canLoad_41 hl (k := 1) rfl (show nI jL5 + 1 = nI (jL5 + 1) from nI_1 jL5) (by decide) rfl (fun ls hl => ?_)
        refine lv_goto (tgt := 5) hx hb dX7_canLoad_44 (by decide) ?_
        exact ih5 (jL5 + 1) (xL5_3 + v10) ls (by omega) (by subst e10 e8 e7; exact hE5.trans (if_pos h_9)) (lv_sub hl [0, 1, 2, 3, 4] rfl)
      · skip
        refine lv_iconst (v := 0) hx hb dX7_canLoad_29 (by decide) ?_
        have hq11 : sX_canLoad n G i1 i2 = 0 := by subst e8 e7; exact hE5.trans (if_neg h_9)
        exact W.zret (v := 0) hx hb hr rfl (fun t ht hW => ⟨by rw [hq11], ht⟩) (fun q h => by cases h) dX7_canLoad_30
  exact key5 6 0 0 ls (by omega) (by exact rfl) (lv_sub hl [0, 1, 2, 3, 4] rfl)

set_option maxHeartbeats 8000000 in
set_option maxRecDepth 100000 in
theorem k_X7_areWantsRight (l : Launch) (dC : Nat → ClassId) (dI : Nat → Nat → Nat) (h0 : Nat) (q : Nat → Nat) (cI : ClassId) (cy : Nat → ClassId) (A : Nat → Prop) (ad : Nat → Nat → Nat) (rl : Nat → Nat × Nat) (L : List Nat) (n : Nat → Nat) (G : Nat → Nat → Int32) (hN : nb_ n) (a1 : Int32) (hb0 : vp_in a1 6) : Met l yX7_areWantsRight wsX7_areWantsRight ({ frames := 0, cells := 0, slots := 0, locals := 0 }) (va_Pc [.ref h0, .int a1] (ct_P (dC, dI) cI cy h0 q A ad rl L n G)) (pu_Q (.int (sX_areWantsRight n G a1))) 0 0 pu_F := by
  refine Met.ofW (cc := cX7_areWantsRight) (maxL := 4) (ret := (some .boolean)) (by decide) rfl ?_
  intro p e s m args below meth c s₁ B hml hv
  obtain ⟨rfl, hC, hK, hW0⟩ := hv
  have hx := B.exec
  have hb := B.bytes
  have hr := B.returns
  have hts := atoms_spec (ws := wsX7_areWantsRight) B.pre
  have hown : s.vm.findClass RX7 = some m.cls := findClass_of_methodNamed B.named
  have hlocks := B.notSynchronized
  have hinX7 : ∀ w ∈ u_ws RX7 TX7 14, w ∈ wsX7_areWantsRight := by decide +kernel
  have hl := lv_entry ([.ref h0, .int a1]) (n := 4) (Nat.le_of_ble_eq_true rfl)
  rw [lg_entry_eq]
  generalize (lg_sl ([.ref h0, .int a1]) ++ List.replicate (4 - (lg_sl ([.ref h0, .int a1])).length) Slot.unset).toArray = ls at hl ⊢
  have hl : lv_has ls 4 [(0, .ref h0), (1, .int a1)] := hl
  refine lv_iconst (v := 0) hx hb dX7_areWantsRight_0 (by decide) ?_
  refine lv_istore_n (lv' := [(2, .int 0), (0, .ref h0), (1, .int a1)]) hx hb dX7_areWantsRight_1 rfl hl (by decide) rfl (fun ls hl => ?_)
  refine lv_iconst (v := 0) hx hb dX7_areWantsRight_2 (by decide) ?_
  refine lv_istore_n (lv' := [(3, .int 0), (2, .int 0), (0, .ref h0), (1, .int a1)]) hx hb dX7_areWantsRight_3 rfl hl (by decide) rfl (fun ls hl => ?_)
  have key4 : ∀ (k jL4 : Nat) (xL4_2 : Int32) (ls : Array Slot), jL4 + k = 21 → lv_has ls 4 [(3, .int (nI jL4)), (2, .int xL4_2), (0, .ref h0), (1, .int a1)] → (∀ (ls : Array Slot), lv_has ls 4 [(3, .int (nI 21)), (2, .int (sX_areWantsRight_L4 G a1 k jL4 xL4_2)), (0, .ref h0), (1, .int a1)] → W p l e (headSpec wsX7_areWantsRight ({ frames := 0, cells := 0, slots := 0, locals := 0 })).room s m [.ref h0, .int a1].toArray below meth c s.heap [] 0 0 (MQ below (pu_Q (.int (sX_areWantsRight n G a1))) [.ref h0, .int a1].toArray s 0 0 pu_F) (F0 m 27 ls [])) → 
      W p l e (headSpec wsX7_areWantsRight ({ frames := 0, cells := 0, slots := 0, locals := 0 })).room s m [.ref h0, .int a1].toArray below meth c s.heap [] 0 0 (MQ below (pu_Q (.int (sX_areWantsRight n G a1))) [.ref h0, .int a1].toArray s 0 0 pu_F) (F0 m 4 ls []) := by
    intro k
    induction k with
    | zero =>
      intro jL4 xL4_2 ls hj hl hex
      have hj : jL4 = 21 := by omega
      subst jL4
      refine lv_iload_n hx hb dX7_areWantsRight_4 rfl (lv_at hl 0 rfl) ?_
      refine lv_bipush (v := 20) hx hb dX7_areWantsRight_5 (by decide) ?_
      refine lv_icmp_gt (tgt := 27) hx hb dX7_areWantsRight_7 (by decide) (fun h_1 => ?_) (fun h_1 => absurd (lp_gt0 (B := 21) (by omega) rfl) h_1)
      exact hex ls (lv_sub hl [0, 1, 2, 3] rfl)
    | succ k ih4 =>
      intro jL4 xL4_2 ls hj hl hex
      have hj4 : jL4 < 21 := by omega
      refine lv_iload_n hx hb dX7_areWantsRight_4 rfl (lv_at hl 0 rfl) ?_
      refine lv_bipush (v := 20) hx hb dX7_areWantsRight_5 (by decide) ?_
      refine lv_icmp_gt (tgt := 27) hx hb dX7_areWantsRight_7 (by decide) (fun h_2 => absurd h_2 (lp_gt (B := 21) (by omega) (by omega) rfl)) (fun h_2 => ?_)
      refine lv_iload_n hx hb dX7_areWantsRight_10 rfl (lv_at hl 1 rfl) ?_
      refine lv_aload_n hx hb dX7_areWantsRight_11 rfl (lv_at hl 2 rfl) ?_
      refine cx_get hx hb hts hinX7 hown hK hC 5 (by decide) (v := .ref (q 6)) rfl (hts (.fieldLink RX7 38 "FurPosts" "wants" "[[I") (by decide +kernel)) dX7_areWantsRight_12 ?_
      refine lv_iload_n hx hb dX7_areWantsRight_15 rfl (lv_at hl 3 rfl) ?_
      refine cr_ald26 hx hb hK hC (w := a1) hb0 dX7_areWantsRight_16 ?_
      refine lv_iload_n hx hb dX7_areWantsRight_17 rfl (lv_at hl 0 rfl) ?_
      refine ci_ald 13 a1.toNatClampNeg hx hb hK hC (vp_lt hb0) (by decide) (w := (nI jL4)) (vp_in_nI (show jL4 < 21 by omega) (by decide)) dX7_areWantsRight_18 ?_
      refine lv_topi (fun v3 (e3 : v3 = G 33 (21 * a1.toNatClampNeg + (nI jL4).toNatClampNeg)) => ?_)
      rw [(show (nI jL4).toNatClampNeg = jL4 from nI_clamp (by omega))] at e3
      refine lv_iadd hx hb dX7_areWantsRight_19 ?_
      refine lv_istore_n (lv' := [(2, .int (xL4_2 + v3)), (3, .int (nI jL4)), (0, .ref h0), (1, .int a1)]) hx hb dX7_areWantsRight_20 rfl hl (by decide) rfl (fun ls hl => ?_)
      refine lv_iinc (v := (nI (jL4 + 1))) (lv' := [(3, .int (nI (jL4 + 1))), (2, .int (xL4_2 + v3)), (0, .ref h0), (1, .int a1)]) hx hb dX7_areWantsRight_21 hl (k := 1) rfl (show nI jL4 + 1 = nI (jL4 + 1) from nI_1 jL4) (by decide) rfl (fun ls hl => ?_)
      refine lv_goto (tgt := 4) hx hb dX7_areWantsRight_24 (by decide) ?_
      have hI4 : (sX_areWantsRight_L4 G a1 (k + 1) jL4 xL4_2) = (sX_areWantsRight_L4 G a1 k (jL4 + 1) (xL4_2 + v3)) := by subst e3; exact rfl
      exact ih4 (jL4 + 1) (xL4_2 + v3) ls (by omega) (lv_sub hl [0, 1, 2, 3] rfl) (by rw [← hI4]; exact hex)
  refine key4 21 0 0 ls (by omega) (lv_sub hl [0, 1, 2, 3] rfl) (fun ls hl => ?_)
  obtain ⟨v4, e4⟩ : ∃ v4 : Int32, v4 = (sX_areWantsRight_L4 G a1 21 0 0) := ⟨_, rfl⟩
  rw [← e4] at hl
  refine lv_iload_n hx hb dX7_areWantsRight_27 rfl (lv_at hl 1 rfl) ?_
  refine lv_sipush (v := 1000) hx hb dX7_areWantsRight_28 (by decide) ?_
  refine lv_icmp_ne (tgt := 38) hx hb dX7_areWantsRight_31 (by decide) (fun h_5 => ?_) (fun h_5 => ?_)
  · skip
    refine lv_iconst (v := 0) hx hb dX7_areWantsRight_38 (by decide) ?_
    have hq6 : sX_areWantsRight n G a1 = 0 := by subst e4; exact (if_neg h_5)
    exact W.zret (v := 0) hx hb hr rfl (fun t ht hW => ⟨by rw [hq6], ht⟩) (fun q h => by cases h) dX7_areWantsRight_39
  · skip
    refine lv_iconst (v := 1) hx hb dX7_areWantsRight_34 (by decide) ?_
    refine lv_goto (tgt := 39) hx hb dX7_areWantsRight_35 (by decide) ?_
    have hq7 : sX_areWantsRight n G a1 = 1 := by subst e4; exact (if_pos h_5)
    exact W.zret (v := 1) hx hb hr rfl (fun t ht hW => ⟨by rw [hq7], ht⟩) (fun q h => by cases h) dX7_areWantsRight_39

set_option maxHeartbeats 8000000 in
set_option maxRecDepth 100000 in
theorem k_X7_countBag (l : Launch) (dC : Nat → ClassId) (dI : Nat → Nat → Nat) (h0 : Nat) (q : Nat → Nat) (cI : ClassId) (cy : Nat → ClassId) (A : Nat → Prop) (ad : Nat → Nat → Nat) (rl : Nat → Nat × Nat) (L : List Nat) (n : Nat → Nat) (G : Nat → Nat → Int32) (hN : nb_ n) (a1 : Int32) : Met l yX7_countBag wsX7_countBag ({ frames := 1, cells := 0, slots := 0, locals := 21 }) (va_Pc [.ref h0, .int a1] (ct_P (dC, dI) cI cy h0 q A ad rl L n G)) (pu_Q (.int (sX_countBag n G a1))) 0 0 pu_F := by
  refine Met.ofW (cc := cX7_countBag) (maxL := 5) (ret := (some .int)) (by decide) rfl ?_
  intro p e s m args below meth c s₁ B hml hv
  obtain ⟨rfl, hC, hK, hW0⟩ := hv
  have hx := B.exec
  have hb := B.bytes
  have hr := B.returns
  have hts := atoms_spec (ws := wsX7_countBag) B.pre
  have hown : s.vm.findClass RX7 = some m.cls := findClass_of_methodNamed B.named
  have hlocks := B.notSynchronized
  have hinX1 : ∀ w ∈ u_ws RX1 TX1 6, w ∈ wsX7_countBag := by decide +kernel
  have hinX3 : ∀ w ∈ u_ws RX3 TX3 6, w ∈ wsX7_countBag := by decide +kernel
  have hinX5 : ∀ w ∈ u_ws RX5 TX5 6, w ∈ wsX7_countBag := by decide +kernel
  have hinX7 : ∀ w ∈ u_ws RX7 TX7 14, w ∈ wsX7_countBag := by decide +kernel
  have hl := lv_entry ([.ref h0, .int a1]) (n := 5) (Nat.le_of_ble_eq_true rfl)
  rw [lg_entry_eq]
  generalize (lg_sl ([.ref h0, .int a1]) ++ List.replicate (5 - (lg_sl ([.ref h0, .int a1])).length) Slot.unset).toArray = ls at hl ⊢
  have hl : lv_has ls 5 [(0, .ref h0), (1, .int a1)] := hl
  refine lv_iconst (v := 0) hx hb dX7_countBag_0 (by decide) ?_
  refine lv_istore_n (lv' := [(2, .int 0), (0, .ref h0), (1, .int a1)]) hx hb dX7_countBag_1 rfl hl (by decide) rfl (fun ls hl => ?_)
  refine lv_iconst (v := 0) hx hb dX7_countBag_2 (by decide) ?_
  refine lv_istore_n (lv' := [(3, .int 0), (2, .int 0), (0, .ref h0), (1, .int a1)]) hx hb dX7_countBag_3 rfl hl (by decide) rfl (fun ls hl => ?_)
  have key4 : ∀ (k jL4 : Nat) (xL4_2 : Int32) (ls : Array Slot), jL4 + k = (n 4) → lv_has ls 5 [(3, .int (nI jL4)), (2, .int xL4_2), (0, .ref h0), (1, .int a1)] → (∀ (ls : Array Slot), lv_has ls 5 [(3, .int (nI (n 4))), (2, .int (sX_countBag_L4 G a1 k jL4 xL4_2)), (0, .ref h0), (1, .int a1)] → W p l e (headSpec wsX7_countBag ({ frames := 1, cells := 0, slots := 0, locals := 21 })).room s m [.ref h0, .int a1].toArray below meth c s.heap [] 0 0 (MQ below (pu_Q (.int (sX_countBag n G a1))) [.ref h0, .int a1].toArray s 0 0 pu_F) (F0 m 42 ls [])) → 
      W p l e (headSpec wsX7_countBag ({ frames := 1, cells := 0, slots := 0, locals := 21 })).room s m [.ref h0, .int a1].toArray below meth c s.heap [] 0 0 (MQ below (pu_Q (.int (sX_countBag n G a1))) [.ref h0, .int a1].toArray s 0 0 pu_F) (F0 m 4 ls []) := by
    intro k
    induction k with
    | zero =>
      intro jL4 xL4_2 ls hj hl hex
      have hj : jL4 = (n 4) := by omega
      subst jL4
      refine lv_iload_n hx hb dX7_countBag_4 rfl (lv_at hl 0 rfl) ?_
      refine lv_aload_n hx hb dX7_countBag_5 rfl (lv_at hl 2 rfl) ?_
      refine cx_get hx hb hts hinX7 hown hK hC 12 (by decide) (v := .int (nI (n 4))) rfl (hts (.fieldLink RX7 165 "FurPosts" "letterCount" "I") (by decide +kernel)) dX7_countBag_6 ?_
      refine lv_icmp_ge (tgt := 42) hx hb dX7_countBag_9 (by decide) (fun h_1 => ?_) (fun h_1 => absurd (lp_ge0 (B := (n 4)) rfl) h_1)
      exact hex ls (lv_sub hl [0, 1, 2, 3] rfl)
    | succ k ih4 =>
      intro jL4 xL4_2 ls hj hl hex
      have hj4 : jL4 < (n 4) := by omega
      refine lv_iload_n hx hb dX7_countBag_4 rfl (lv_at hl 0 rfl) ?_
      refine lv_aload_n hx hb dX7_countBag_5 rfl (lv_at hl 2 rfl) ?_
      refine cx_get hx hb hts hinX7 hown hK hC 12 (by decide) (v := .int (nI (n 4))) rfl (hts (.fieldLink RX7 165 "FurPosts" "letterCount" "I") (by decide +kernel)) dX7_countBag_6 ?_
      refine lv_icmp_ge (tgt := 42) hx hb dX7_countBag_9 (by decide) (fun h_2 => absurd h_2 (lp_ge (B := (n 4)) (by omega) (by omega) rfl)) (fun h_2 => ?_)
      refine lv_aload_n hx hb dX7_countBag_12 rfl (lv_at hl 2 rfl) ?_
      refine lv_iload_n hx hb dX7_countBag_13 rfl (lv_at hl 0 rfl) ?_
      refine pu_call (va_runV (As := [.int (nI jL4)]) (rest := []) ⟨hx, hb, hml, hown, hts⟩ (k_X7_letterAt l dC dI h0 q cI cy A ad rl L n G hN (nI jL4)) (cwV 1 hts gX7_countBag_X7_letterAt rfl rfl rfl (by decide +kernel) ⟨Nat.le_of_ble_eq_true rfl, Nat.le_of_ble_eq_true rfl⟩) (ct_pre hC hK hW0) rfl rfl hl.1 rfl (lv_room (Nat.le_of_ble_eq_true rfl)) dX7_countBag_14 ⟨Nat.le_of_ble_eq_true rfl, Nat.le_of_ble_eq_true rfl⟩) ?_
      rw [if_neg (sp_nIn (show jL4 < n 4 by omega) (by omega)), show (nI jL4).toNatClampNeg = jL4 from nI_clamp (by omega)]
      have hv3 : jL4 < n 4 := by omega
      refine lv_astore (lv' := [(4, .ref (ad 4 jL4)), (3, .int (nI jL4)), (2, .int xL4_2), (0, .ref h0), (1, .int a1)]) hx hb dX7_countBag_17 hl (by decide) rfl (fun ls hl => ?_)
      refine lv_aload hx hb dX7_countBag_19 (lv_at hl 0 rfl) ?_
      refine lv_ifnull hx hb dX7_countBag_21 ?_
      refine lv_aload hx hb dX7_countBag_24 (lv_at hl 0 rfl) ?_
      refine cl_get2 jL4 hx hb hts hinX1 hinX3 hinX5 hown hK hC hv3 (own := RX7) (index := 172) (hts (.fieldLink RX7 172 "FurPosts$Letter" "bag" "I") (by decide +kernel)) dX7_countBag_26 ?_
      refine lv_topi (fun v4 (e4 : v4 = G 41 jL4) => ?_)
      refine lv_iload_n hx hb dX7_countBag_29 rfl (lv_at hl 4 rfl) ?_
      refine lv_icmp_ne (tgt := 36) hx hb dX7_countBag_30 (by decide) (fun h_5 => ?_) (fun h_5 => ?_)
      · skip
        refine lv_iinc (v := (nI (jL4 + 1))) (lv' := [(3, .int (nI (jL4 + 1))), (4, .ref (ad 4 jL4)), (2, .int xL4_2), (0, .ref h0), (1, .int a1)]) hx hb dX7_countBag_36 hl (k := 1) rfl (show nI jL4 + 1 = nI (jL4 + 1) from nI_1 jL4) (by decide) rfl (fun ls hl => ?_)
        refine lv_goto (tgt := 4) hx hb dX7_countBag_39 (by decide) ?_
        have hI4 : (sX_countBag_L4 G a1 (k + 1) jL4 xL4_2) = (sX_countBag_L4 G a1 k (jL4 + 1) xL4_2) := by subst e4; exact (if_neg h_5)
        exact ih4 (jL4 + 1) xL4_2 ls (by omega) (lv_sub hl [0, 2, 3, 4] rfl) (by rw [← hI4]; exact hex)
      · skip
        refine lv_iinc (v := (xL4_2 + 1)) (lv' := [(2, .int (xL4_2 + 1)), (4, .ref (ad 4 jL4)), (3, .int (nI jL4)), (0, .ref h0), (1, .int a1)]) hx hb dX7_countBag_33 hl (k := 2) rfl rfl (by decide) rfl (fun ls hl => ?_)
        refine lv_iinc (v := (nI (jL4 + 1))) (lv' := [(3, .int (nI (jL4 + 1))), (2, .int (xL4_2 + 1)), (4, .ref (ad 4 jL4)), (0, .ref h0), (1, .int a1)]) hx hb dX7_countBag_36 hl (k := 2) rfl (show nI jL4 + 1 = nI (jL4 + 1) from nI_1 jL4) (by decide) rfl (fun ls hl => ?_)
        refine lv_goto (tgt := 4) hx hb dX7_countBag_39 (by decide) ?_
        have hI4 : (sX_countBag_L4 G a1 (k + 1) jL4 xL4_2) = (sX_countBag_L4 G a1 k (jL4 + 1) (xL4_2 + 1)) := by subst e4; exact (if_pos h_5)
        exact ih4 (jL4 + 1) (xL4_2 + 1) ls (by omega) (lv_sub hl [0, 1, 3, 4] rfl) (by rw [← hI4]; exact hex)
  refine key4 (n 4) 0 0 ls (by omega) (lv_sub hl [0, 1, 2, 3] rfl) (fun ls hl => ?_)
  obtain ⟨v6, e6⟩ : ∃ v6 : Int32, v6 = (sX_countBag_L4 G a1 (n 4) 0 0) := ⟨_, rfl⟩
  rw [← e6] at hl
  refine lv_iload_n hx hb dX7_countBag_42 rfl (lv_at hl 1 rfl) ?_
  have hq7 : sX_countBag n G a1 = v6 := by subst e6; exact rfl
  exact W.iret (v := v6) hx hb hr (fun t ht hW => ⟨by rw [hq7], ht⟩) (fun q h => by cases h) dX7_countBag_43

set_option maxHeartbeats 8000000 in
set_option maxRecDepth 100000 in
theorem k_X7_countOfAll (l : Launch) (dC : Nat → ClassId) (dI : Nat → Nat → Nat) (h0 : Nat) (q : Nat → Nat) (cI : ClassId) (cy : Nat → ClassId) (A : Nat → Prop) (ad : Nat → Nat → Nat) (rl : Nat → Nat × Nat) (L : List Nat) (n : Nat → Nat) (G : Nat → Nat → Int32) (hN : nb_ n) (a1 : Int32) : Met l yX7_countOfAll wsX7_countOfAll ({ frames := 0, cells := 0, slots := 0, locals := 0 }) (va_Pc [.ref h0, .int a1] (ct_P (dC, dI) cI cy h0 q A ad rl L n G)) (pu_Q (.int (sX_countOfAll n G a1))) 0 0 pu_F := by
  refine Met.ofW (cc := cX7_countOfAll) (maxL := 2) (ret := (some .int)) (by decide) rfl ?_
  intro p e s m args below meth c s₁ B hml hv
  obtain ⟨rfl, hC, hK, hW0⟩ := hv
  have hx := B.exec
  have hb := B.bytes
  have hr := B.returns
  have hts := atoms_spec (ws := wsX7_countOfAll) B.pre
  have hown : s.vm.findClass RX7 = some m.cls := findClass_of_methodNamed B.named
  have hlocks := B.notSynchronized
  have hinX7 : ∀ w ∈ u_ws RX7 TX7 14, w ∈ wsX7_countOfAll := by decide +kernel
  have hl := lv_entry ([.ref h0, .int a1]) (n := 2) (Nat.le_of_ble_eq_true rfl)
  rw [lg_entry_eq]
  generalize (lg_sl ([.ref h0, .int a1]) ++ List.replicate (2 - (lg_sl ([.ref h0, .int a1])).length) Slot.unset).toArray = ls at hl ⊢
  have hl : lv_has ls 2 [(0, .ref h0), (1, .int a1)] := hl
  refine lv_iload_n hx hb dX7_countOfAll_0 rfl (lv_at hl 1 rfl) ?_
  rcases (Decidable.em (a1 = 0)) with q_1 | q_1
  · refine lv_tableIn (off := 39) (tgt := 40) hx hb dX7_countOfAll_1 (by rw [q_1]; decide) (by rw [q_1]; decide) (by rw [q_1]; rfl) (by decide) ?_
    refine lv_aload_n hx hb dX7_countOfAll_40 rfl (lv_at hl 0 rfl) ?_
    refine cx_get hx hb hts hinX7 hown hK hC 8 (by decide) (v := .int (nI (n 0))) rfl (hts (.fieldLink RX7 103 "FurPosts" "now" "I") (by decide +kernel)) dX7_countOfAll_41 ?_
    have hq2 : sX_countOfAll n G a1 = (nI (n 0)) := by exact (if_pos q_1)
    exact W.iret (v := (nI (n 0))) hx hb hr (fun t ht hW => ⟨by rw [hq2], ht⟩) (fun q h => by cases h) dX7_countOfAll_44
  rcases (Decidable.em (a1 = 1)) with q_3 | q_3
  · refine lv_tableIn (off := 44) (tgt := 45) hx hb dX7_countOfAll_1 (by rw [q_3]; decide) (by rw [q_3]; decide) (by rw [q_3]; rfl) (by decide) ?_
    refine lv_aload_n hx hb dX7_countOfAll_45 rfl (lv_at hl 0 rfl) ?_
    refine cx_get hx hb hts hinX7 hown hK hC 9 (by decide) (v := .int (nI (n 1))) rfl (hts (.fieldLink RX7 54 "FurPosts" "postCount" "I") (by decide +kernel)) dX7_countOfAll_46 ?_
    have hq4 : sX_countOfAll n G a1 = (nI (n 1)) := by exact (if_neg q_1).trans (if_pos q_3)
    exact W.iret (v := (nI (n 1))) hx hb hr (fun t ht hW => ⟨by rw [hq4], ht⟩) (fun q h => by cases h) dX7_countOfAll_49
  rcases (Decidable.em (a1 = 2)) with q_5 | q_5
  · refine lv_tableIn (off := 49) (tgt := 50) hx hb dX7_countOfAll_1 (by rw [q_5]; decide) (by rw [q_5]; decide) (by rw [q_5]; rfl) (by decide) ?_
    refine lv_aload_n hx hb dX7_countOfAll_50 rfl (lv_at hl 0 rfl) ?_
    refine cx_get hx hb hts hinX7 hown hK hC 10 (by decide) (v := .int (nI (n 2))) rfl (hts (.fieldLink RX7 63 "FurPosts" "wayCount" "I") (by decide +kernel)) dX7_countOfAll_51 ?_
    have hq6 : sX_countOfAll n G a1 = (nI (n 2)) := by exact (if_neg q_1).trans ((if_neg q_3).trans (if_pos q_5))
    exact W.iret (v := (nI (n 2))) hx hb hr (fun t ht hW => ⟨by rw [hq6], ht⟩) (fun q h => by cases h) dX7_countOfAll_54
  rcases (Decidable.em (a1 = 3)) with q_7 | q_7
  · refine lv_tableIn (off := 54) (tgt := 55) hx hb dX7_countOfAll_1 (by rw [q_7]; decide) (by rw [q_7]; decide) (by rw [q_7]; rfl) (by decide) ?_
    refine lv_aload_n hx hb dX7_countOfAll_55 rfl (lv_at hl 0 rfl) ?_
    refine cx_get hx hb hts hinX7 hown hK hC 11 (by decide) (v := .int (nI (n 3))) rfl (hts (.fieldLink RX7 113 "FurPosts" "canoeCount" "I") (by decide +kernel)) dX7_countOfAll_56 ?_
    have hq8 : sX_countOfAll n G a1 = (nI (n 3)) := by exact (if_neg q_1).trans ((if_neg q_3).trans ((if_neg q_5).trans (if_pos q_7)))
    exact W.iret (v := (nI (n 3))) hx hb hr (fun t ht hW => ⟨by rw [hq8], ht⟩) (fun q h => by cases h) dX7_countOfAll_59
  rcases (Decidable.em (a1 = 4)) with q_9 | q_9
  · refine lv_tableIn (off := 59) (tgt := 60) hx hb dX7_countOfAll_1 (by rw [q_9]; decide) (by rw [q_9]; decide) (by rw [q_9]; rfl) (by decide) ?_
    refine lv_aload_n hx hb dX7_countOfAll_60 rfl (lv_at hl 0 rfl) ?_
    refine cx_get hx hb hts hinX7 hown hK hC 12 (by decide) (v := .int (nI (n 4))) rfl (hts (.fieldLink RX7 165 "FurPosts" "letterCount" "I") (by decide +kernel)) dX7_countOfAll_61 ?_
    have hq10 : sX_countOfAll n G a1 = (nI (n 4)) := by exact (if_neg q_1).trans ((if_neg q_3).trans ((if_neg q_5).trans ((if_neg q_7).trans (if_pos q_9))))
    exact W.iret (v := (nI (n 4))) hx hb hr (fun t ht hW => ⟨by rw [hq10], ht⟩) (fun q h => by cases h) dX7_countOfAll_64
  rcases (Decidable.em (a1 = 5)) with q_11 | q_11
  · refine lv_tableIn (off := 64) (tgt := 65) hx hb dX7_countOfAll_1 (by rw [q_11]; decide) (by rw [q_11]; decide) (by rw [q_11]; rfl) (by decide) ?_
    refine lv_aload_n hx hb dX7_countOfAll_65 rfl (lv_at hl 0 rfl) ?_
    refine cx_get hx hb hts hinX7 hown hK hC 13 (by decide) (v := .int (G 44 0)) rfl (hts (.fieldLink RX7 190 "FurPosts" "debtsLost" "I") (by decide +kernel)) dX7_countOfAll_66 ?_
    refine lv_topi (fun v12 (e12 : v12 = G 44 0) => ?_)
    have hq13 : sX_countOfAll n G a1 = v12 := by subst e12; exact (if_neg q_1).trans ((if_neg q_3).trans ((if_neg q_5).trans ((if_neg q_7).trans ((if_neg q_9).trans (if_pos q_11)))))
    exact W.iret (v := v12) hx hb hr (fun t ht hW => ⟨by rw [hq13], ht⟩) (fun q h => by cases h) dX7_countOfAll_69
  refine lv_tableOut (tgt := 70) hx hb dX7_countOfAll_1 (by have j_0 := sw_n (n := 0) (k := 0) q_1 (by decide); have j_1 := sw_n (n := 1) (k := 1) q_3 (by decide); have j_2 := sw_n (n := 2) (k := 2) q_5 (by decide); have j_3 := sw_n (n := 3) (k := 3) q_7 (by decide); have j_4 := sw_n (n := 4) (k := 4) q_9 (by decide); have j_5 := sw_n (n := 5) (k := 5) q_11 (by decide); omega) (by decide) ?_
  refine lv_iconst (v := (-1)) hx hb dX7_countOfAll_70 (by decide) ?_
  have hq14 : sX_countOfAll n G a1 = (-1) := by exact (if_neg q_1).trans ((if_neg q_3).trans ((if_neg q_5).trans ((if_neg q_7).trans ((if_neg q_9).trans (if_neg q_11)))))
  exact W.iret (v := (-1)) hx hb hr (fun t ht hW => ⟨by rw [hq14], ht⟩) (fun q h => by cases h) dX7_countOfAll_71

set_option maxHeartbeats 8000000 in
set_option maxRecDepth 100000 in
theorem k_X7_owes (l : Launch) (dC : Nat → ClassId) (dI : Nat → Nat → Nat) (h0 : Nat) (q : Nat → Nat) (cI : ClassId) (cy : Nat → ClassId) (A : Nat → Prop) (ad : Nat → Nat → Nat) (rl : Nat → Nat × Nat) (L : List Nat) (n : Nat → Nat) (G : Nat → Nat → Int32) (hN : nb_ n) (a1 : Int32) (a2 : Int32) : Met l yX7_owes wsX7_owes ({ frames := 1, cells := 0, slots := 0, locals := 21 }) (va_Pc [.ref h0, .int a1, .int a2] (ct_P (dC, dI) cI cy h0 q A ad rl L n G)) (pu_Q (.int (sX_owes n G a1 a2))) 0 0 pu_F := by
  refine Met.ofW (cc := cX7_owes) (maxL := 4) (ret := (some .int)) (by decide) rfl ?_
  intro p e s m args below meth c s₁ B hml hv
  obtain ⟨rfl, hC, hK, hW0⟩ := hv
  have hx := B.exec
  have hb := B.bytes
  have hr := B.returns
  have hts := atoms_spec (ws := wsX7_owes) B.pre
  have hown : s.vm.findClass RX7 = some m.cls := findClass_of_methodNamed B.named
  have hlocks := B.notSynchronized
  have hinX4 : ∀ w ∈ u_ws RX4 TX4 4, w ∈ wsX7_owes := by decide +kernel
  have hl := lv_entry ([.ref h0, .int a1, .int a2]) (n := 4) (Nat.le_of_ble_eq_true rfl)
  rw [lg_entry_eq]
  generalize (lg_sl ([.ref h0, .int a1, .int a2]) ++ List.replicate (4 - (lg_sl ([.ref h0, .int a1, .int a2])).length) Slot.unset).toArray = ls at hl ⊢
  have hl : lv_has ls 4 [(0, .ref h0), (1, .int a1), (2, .int a2)] := hl
  refine lv_aload_n hx hb dX7_owes_0 rfl (lv_at hl 0 rfl) ?_
  refine lv_iload_n hx hb dX7_owes_1 rfl (lv_at hl 1 rfl) ?_
  refine pu_call (va_runV (As := [.int a1]) (rest := []) ⟨hx, hb, hml, hown, hts⟩ (k_X7_postAt l dC dI h0 q cI cy A ad rl L n G hN a1) (cwV 1 hts gX7_owes_X7_postAt rfl rfl rfl (by decide +kernel) ⟨Nat.le_of_ble_eq_true rfl, Nat.le_of_ble_eq_true rfl⟩) (ct_pre hC hK hW0) rfl rfl hl.1 rfl (lv_room (Nat.le_of_ble_eq_true rfl)) dX7_owes_2 ⟨Nat.le_of_ble_eq_true rfl, Nat.le_of_ble_eq_true rfl⟩) ?_
  by_cases h_1 : (sp_in a1 0 ((nI (n 1)) - 1)) = 0
  · rw [if_pos h_1]
    refine lv_astore_nN (lv' := [(3, .null), (0, .ref h0), (1, .int a1), (2, .int a2)]) hx hb dX7_owes_5 rfl hl (by decide) rfl (fun ls hl => ?_)
    refine lv_aload_nN hx hb dX7_owes_6 rfl (lv_at hl 0 rfl) ?_
    refine lv_ifnullN (tgt := 17) hx hb dX7_owes_7 (by decide) ?_
    refine lv_iconst (v := 0) hx hb dX7_owes_17 (by decide) ?_
    refine lv_goto (tgt := 27) hx hb dX7_owes_18 (by decide) ?_
    have hq2 : sX_owes n G a1 a2 = 0 := by exact (if_pos h_1)
    exact W.iret (v := 0) hx hb hr (fun t ht hW => ⟨by rw [hq2], ht⟩) (fun q h => by cases h) dX7_owes_27
  · rw [if_neg h_1]
    have hv1 := sp_live h_1 (by omega)
    refine lv_astore_n (lv' := [(3, .ref (ad 1 a1.toNatClampNeg)), (0, .ref h0), (1, .int a1), (2, .int a2)]) hx hb dX7_owes_5 rfl hl (by decide) rfl (fun ls hl => ?_)
    refine lv_aload_n hx hb dX7_owes_6 rfl (lv_at hl 0 rfl) ?_
    refine lv_ifnull hx hb dX7_owes_7 ?_
    refine lv_iload_n hx hb dX7_owes_10 rfl (lv_at hl 3 rfl) ?_
    refine pu_call (va_runS (As := [.int a2]) (rest := []) ⟨hx, hb, hml, hown, hts⟩ (c_X7_isHunter l a2) (va_cwS 1 hts gX7_owes_X7_isHunter rfl rfl rfl (by decide +kernel) ⟨Nat.le_of_ble_eq_true rfl, Nat.le_of_ble_eq_true rfl⟩) pu_preS rfl rfl hl.1 rfl (lv_room (Nat.le_of_ble_eq_true rfl)) dX7_owes_11 ⟨Nat.le_of_ble_eq_true rfl, Nat.le_of_ble_eq_true rfl⟩) ?_
    refine lv_if_ne (tgt := 21) hx hb dX7_owes_14 (by decide) (fun h_3 => ?_) (fun h_3 => ?_)
    · skip
      refine lv_aload_n hx hb dX7_owes_21 rfl (lv_at hl 0 rfl) ?_
      refine co_get 1 a1.toNatClampNeg (C := RX4) (T := TX4) (N := 4) (ci := 3) (v := .ref (ad 7 a1.toNatClampNeg)) hx hb hts hinX4 hown hK hC hv1 (fun _ h9 => h9) rfl 2 (by decide) (hts (.fieldLink RX7 214 "FurPosts$Post" "owed" "[I") (by decide +kernel)) (fun _ h9 => h9) rfl dX7_owes_22 ?_
      refine lv_iload_n hx hb dX7_owes_25 rfl (lv_at hl 3 rfl) ?_
      refine ci_ald 7 a1.toNatClampNeg hx hb hK hC hv1 (by decide) (w := a2) (sp_vp h_3 rfl) dX7_owes_26 ?_
      refine lv_topi (fun v4 (e4 : v4 = G 4 (12 * a1.toNatClampNeg + a2.toNatClampNeg)) => ?_)
      have hq5 : sX_owes n G a1 a2 = v4 := by subst e4; exact (if_neg h_1).trans (if_neg h_3)
      exact W.iret (v := v4) hx hb hr (fun t ht hW => ⟨by rw [hq5], ht⟩) (fun q h => by cases h) dX7_owes_27
    · skip
      refine lv_iconst (v := 0) hx hb dX7_owes_17 (by decide) ?_
      refine lv_goto (tgt := 27) hx hb dX7_owes_18 (by decide) ?_
      have hq6 : sX_owes n G a1 a2 = 0 := by exact (if_neg h_1).trans (if_pos h_3)
      exact W.iret (v := 0) hx hb hr (fun t ht hW => ⟨by rw [hq6], ht⟩) (fun q h => by cases h) dX7_owes_27

set_option maxHeartbeats 8000000 in
set_option maxRecDepth 100000 in
theorem k_X7_price (l : Launch) (dC : Nat → ClassId) (dI : Nat → Nat → Nat) (h0 : Nat) (q : Nat → Nat) (cI : ClassId) (cy : Nat → ClassId) (A : Nat → Prop) (ad : Nat → Nat → Nat) (rl : Nat → Nat × Nat) (L : List Nat) (n : Nat → Nat) (G : Nat → Nat → Int32) (hN : nb_ n) (a1 : Int32) (a2 : Int32) : Met l yX7_price wsX7_price ({ frames := 1, cells := 0, slots := 0, locals := 21 }) (va_Pc [.ref h0, .int a1, .int a2] (ct_P (dC, dI) cI cy h0 q A ad rl L n G)) (pu_Q (.int (sX_price n G a1 a2))) 0 0 pu_F := by
  refine Met.ofW (cc := cX7_price) (maxL := 4) (ret := (some .int)) (by decide) rfl ?_
  intro p e s m args below meth c s₁ B hml hv
  obtain ⟨rfl, hC, hK, hW0⟩ := hv
  have hx := B.exec
  have hb := B.bytes
  have hr := B.returns
  have hts := atoms_spec (ws := wsX7_price) B.pre
  have hown : s.vm.findClass RX7 = some m.cls := findClass_of_methodNamed B.named
  have hlocks := B.notSynchronized
  have hinX4 : ∀ w ∈ u_ws RX4 TX4 4, w ∈ wsX7_price := by decide +kernel
  have hl := lv_entry ([.ref h0, .int a1, .int a2]) (n := 4) (Nat.le_of_ble_eq_true rfl)
  rw [lg_entry_eq]
  generalize (lg_sl ([.ref h0, .int a1, .int a2]) ++ List.replicate (4 - (lg_sl ([.ref h0, .int a1, .int a2])).length) Slot.unset).toArray = ls at hl ⊢
  have hl : lv_has ls 4 [(0, .ref h0), (1, .int a1), (2, .int a2)] := hl
  refine lv_aload_n hx hb dX7_price_0 rfl (lv_at hl 0 rfl) ?_
  refine lv_iload_n hx hb dX7_price_1 rfl (lv_at hl 1 rfl) ?_
  refine pu_call (va_runV (As := [.int a1]) (rest := []) ⟨hx, hb, hml, hown, hts⟩ (k_X7_postAt l dC dI h0 q cI cy A ad rl L n G hN a1) (cwV 1 hts gX7_price_X7_postAt rfl rfl rfl (by decide +kernel) ⟨Nat.le_of_ble_eq_true rfl, Nat.le_of_ble_eq_true rfl⟩) (ct_pre hC hK hW0) rfl rfl hl.1 rfl (lv_room (Nat.le_of_ble_eq_true rfl)) dX7_price_2 ⟨Nat.le_of_ble_eq_true rfl, Nat.le_of_ble_eq_true rfl⟩) ?_
  by_cases h_1 : (sp_in a1 0 ((nI (n 1)) - 1)) = 0
  · rw [if_pos h_1]
    refine lv_astore_nN (lv' := [(3, .null), (0, .ref h0), (1, .int a1), (2, .int a2)]) hx hb dX7_price_5 rfl hl (by decide) rfl (fun ls hl => ?_)
    refine lv_aload_nN hx hb dX7_price_6 rfl (lv_at hl 0 rfl) ?_
    refine lv_ifnullN (tgt := 17) hx hb dX7_price_7 (by decide) ?_
    refine lv_iconst (v := (-1)) hx hb dX7_price_17 (by decide) ?_
    refine lv_goto (tgt := 27) hx hb dX7_price_18 (by decide) ?_
    have hq2 : sX_price n G a1 a2 = (-1) := by exact (if_pos h_1)
    exact W.iret (v := (-1)) hx hb hr (fun t ht hW => ⟨by rw [hq2], ht⟩) (fun q h => by cases h) dX7_price_27
  · rw [if_neg h_1]
    have hv1 := sp_live h_1 (by omega)
    refine lv_astore_n (lv' := [(3, .ref (ad 1 a1.toNatClampNeg)), (0, .ref h0), (1, .int a1), (2, .int a2)]) hx hb dX7_price_5 rfl hl (by decide) rfl (fun ls hl => ?_)
    refine lv_aload_n hx hb dX7_price_6 rfl (lv_at hl 0 rfl) ?_
    refine lv_ifnull hx hb dX7_price_7 ?_
    refine lv_iload_n hx hb dX7_price_10 rfl (lv_at hl 3 rfl) ?_
    refine pu_call (va_runS (As := [.int a2]) (rest := []) ⟨hx, hb, hml, hown, hts⟩ (c_X7_isWare l a2) (va_cwS 1 hts gX7_price_X7_isWare rfl rfl rfl (by decide +kernel) ⟨Nat.le_of_ble_eq_true rfl, Nat.le_of_ble_eq_true rfl⟩) pu_preS rfl rfl hl.1 rfl (lv_room (Nat.le_of_ble_eq_true rfl)) dX7_price_11 ⟨Nat.le_of_ble_eq_true rfl, Nat.le_of_ble_eq_true rfl⟩) ?_
    refine lv_if_ne (tgt := 21) hx hb dX7_price_14 (by decide) (fun h_3 => ?_) (fun h_3 => ?_)
    · skip
      refine lv_aload_n hx hb dX7_price_21 rfl (lv_at hl 0 rfl) ?_
      refine co_get 1 a1.toNatClampNeg (C := RX4) (T := TX4) (N := 4) (ci := 3) (v := .ref (ad 6 a1.toNatClampNeg)) hx hb hts hinX4 hown hK hC hv1 (fun _ h9 => h9) rfl 1 (by decide) (hts (.fieldLink RX7 217 "FurPosts$Post" "prices" "[I") (by decide +kernel)) (fun _ h9 => h9) rfl dX7_price_22 ?_
      refine lv_iload_n hx hb dX7_price_25 rfl (lv_at hl 3 rfl) ?_
      refine ci_ald 6 a1.toNatClampNeg hx hb hK hC hv1 (by decide) (w := a2) (sp_vp h_3 rfl) dX7_price_26 ?_
      refine lv_topi (fun v4 (e4 : v4 = G 3 (6 * a1.toNatClampNeg + a2.toNatClampNeg)) => ?_)
      have hq5 : sX_price n G a1 a2 = v4 := by subst e4; exact (if_neg h_1).trans (if_neg h_3)
      exact W.iret (v := v4) hx hb hr (fun t ht hW => ⟨by rw [hq5], ht⟩) (fun q h => by cases h) dX7_price_27
    · skip
      refine lv_iconst (v := (-1)) hx hb dX7_price_17 (by decide) ?_
      refine lv_goto (tgt := 27) hx hb dX7_price_18 (by decide) ?_
      have hq6 : sX_price n G a1 a2 = (-1) := by exact (if_neg h_1).trans (if_pos h_3)
      exact W.iret (v := (-1)) hx hb hr (fun t ht hW => ⟨by rw [hq6], ht⟩) (fun q h => by cases h) dX7_price_27

set_option maxHeartbeats 8000000 in
set_option maxRecDepth 100000 in
theorem k_X7_known (l : Launch) (dC : Nat → ClassId) (dI : Nat → Nat → Nat) (h0 : Nat) (q : Nat → Nat) (cI : ClassId) (cy : Nat → ClassId) (A : Nat → Prop) (ad : Nat → Nat → Nat) (rl : Nat → Nat × Nat) (L : List Nat) (n : Nat → Nat) (G : Nat → Nat → Int32) (hN : nb_ n) (a1 : Int32) (a2 : Int32) (a3 : Int32) : Met l yX7_known wsX7_known ({ frames := 1, cells := 0, slots := 0, locals := 21 }) (va_Pc [.ref h0, .int a1, .int a2, .int a3] (ct_P (dC, dI) cI cy h0 q A ad rl L n G)) (pu_Q (.int (sX_known n G a1 a2 a3))) 0 0 pu_F := by
  refine Met.ofW (cc := cX7_known) (maxL := 6) (ret := (some .int)) (by decide) rfl ?_
  intro p e s m args below meth c s₁ B hml hv
  obtain ⟨rfl, hC, hK, hW0⟩ := hv
  have hx := B.exec
  have hb := B.bytes
  have hr := B.returns
  have hts := atoms_spec (ws := wsX7_known) B.pre
  have hown : s.vm.findClass RX7 = some m.cls := findClass_of_methodNamed B.named
  have hlocks := B.notSynchronized
  have hinX4 : ∀ w ∈ u_ws RX4 TX4 4, w ∈ wsX7_known := by decide +kernel
  have hinX5 : ∀ w ∈ u_ws RX5 TX5 6, w ∈ wsX7_known := by decide +kernel
  have hl := lv_entry ([.ref h0, .int a1, .int a2, .int a3]) (n := 6) (Nat.le_of_ble_eq_true rfl)
  rw [lg_entry_eq]
  generalize (lg_sl ([.ref h0, .int a1, .int a2, .int a3]) ++ List.replicate (6 - (lg_sl ([.ref h0, .int a1, .int a2, .int a3])).length) Slot.unset).toArray = ls at hl ⊢
  have hl : lv_has ls 6 [(0, .ref h0), (1, .int a1), (2, .int a2), (3, .int a3)] := hl
  refine lv_aload_n hx hb dX7_known_0 rfl (lv_at hl 0 rfl) ?_
  refine lv_iload_n hx hb dX7_known_1 rfl (lv_at hl 1 rfl) ?_
  refine pu_call (va_runV (As := [.int a1]) (rest := []) ⟨hx, hb, hml, hown, hts⟩ (k_X7_postAt l dC dI h0 q cI cy A ad rl L n G hN a1) (cwV 1 hts gX7_known_X7_postAt rfl rfl rfl (by decide +kernel) ⟨Nat.le_of_ble_eq_true rfl, Nat.le_of_ble_eq_true rfl⟩) (ct_pre hC hK hW0) rfl rfl hl.1 rfl (lv_room (Nat.le_of_ble_eq_true rfl)) dX7_known_2 ⟨Nat.le_of_ble_eq_true rfl, Nat.le_of_ble_eq_true rfl⟩) ?_
  by_cases h_1 : (sp_in a1 0 ((nI (n 1)) - 1)) = 0
  · rw [if_pos h_1]
    refine lv_astoreN (lv' := [(4, .null), (0, .ref h0), (1, .int a1), (2, .int a2), (3, .int a3)]) hx hb dX7_known_5 hl (by decide) rfl (fun ls hl => ?_)
    refine lv_aloadN hx hb dX7_known_7 (lv_at hl 0 rfl) ?_
    refine lv_ifnullN (tgt := 19) hx hb dX7_known_9 (by decide) ?_
    refine lv_iconst (v := (-1)) hx hb dX7_known_19 (by decide) ?_
    have hq2 : sX_known n G a1 a2 a3 = (-1) := by exact (if_pos h_1)
    exact W.iret (v := (-1)) hx hb hr (fun t ht hW => ⟨by rw [hq2], ht⟩) (fun q h => by cases h) dX7_known_20
  · rw [if_neg h_1]
    have hv1 := sp_live h_1 (by omega)
    refine lv_astore (lv' := [(4, .ref (ad 1 a1.toNatClampNeg)), (0, .ref h0), (1, .int a1), (2, .int a2), (3, .int a3)]) hx hb dX7_known_5 hl (by decide) rfl (fun ls hl => ?_)
    refine lv_aload hx hb dX7_known_7 (lv_at hl 0 rfl) ?_
    refine lv_ifnull hx hb dX7_known_9 ?_
    refine lv_iload_n hx hb dX7_known_12 rfl (lv_at hl 4 rfl) ?_
    refine pu_call (va_runS (As := [.int a3]) (rest := []) ⟨hx, hb, hml, hown, hts⟩ (c_X7_isWare l a3) (va_cwS 1 hts gX7_known_X7_isWare rfl rfl rfl (by decide +kernel) ⟨Nat.le_of_ble_eq_true rfl, Nat.le_of_ble_eq_true rfl⟩) pu_preS rfl rfl hl.1 rfl (lv_room (Nat.le_of_ble_eq_true rfl)) dX7_known_13 ⟨Nat.le_of_ble_eq_true rfl, Nat.le_of_ble_eq_true rfl⟩) ?_
    refine lv_if_ne (tgt := 21) hx hb dX7_known_16 (by decide) (fun h_3 => ?_) (fun h_3 => ?_)
    · skip
      refine lv_iload_n hx hb dX7_known_21 rfl (lv_at hl 2 rfl) ?_
      refine lv_iload_n hx hb dX7_known_22 rfl (lv_at hl 3 rfl) ?_
      refine lv_icmp_ne (tgt := 34) hx hb dX7_known_23 (by decide) (fun h_4 => ?_) (fun h_4 => ?_)
      · skip
        refine lv_aload hx hb dX7_known_34 (lv_at hl 0 rfl) ?_
        refine lv_iload_n hx hb dX7_known_36 rfl (lv_at hl 3 rfl) ?_
        refine pu_call (va_runV (As := [.int a2]) (rest := []) ⟨hx, hb, hml, hown, hts⟩ (k_X4_reportOf l dC dI h0 q cI cy A ad rl L n G hN a1.toNatClampNeg hv1 a2) (cwV 1 hts gX7_known_X4_reportOf rfl rfl rfl (by decide +kernel) ⟨Nat.le_of_ble_eq_true rfl, Nat.le_of_ble_eq_true rfl⟩) (ct_preO 1 a1.toNatClampNeg (r := (RX4, TX4, 4)) (ci := 3) hC hK hW0 hv1 (fun _ h9 => h9) rfl) rfl rfl hl.1 rfl (lv_room (Nat.le_of_ble_eq_true rfl)) dX7_known_37 ⟨Nat.le_of_ble_eq_true rfl, Nat.le_of_ble_eq_true rfl⟩) ?_
        by_cases h_5 : (sp_in a2 0 7) = 0
        · rw [if_pos h_5]
          refine lv_astoreN (lv' := [(5, .null), (4, .ref (ad 1 a1.toNatClampNeg)), (0, .ref h0), (1, .int a1), (2, .int a2), (3, .int a3)]) hx hb dX7_known_40 hl (by decide) rfl (fun ls hl => ?_)
          refine lv_aloadN hx hb dX7_known_42 (lv_at hl 0 rfl) ?_
          refine lv_ifnonnullN hx hb dX7_known_44 ?_
          refine lv_iconst (v := (-1)) hx hb dX7_known_47 (by decide) ?_
          refine lv_goto (tgt := 58) hx hb dX7_known_48 (by decide) ?_
          have hq6 : sX_known n G a1 a2 a3 = (-1) := by exact (if_neg h_1).trans ((if_neg h_3).trans ((if_neg h_4).trans (if_pos h_5)))
          exact W.iret (v := (-1)) hx hb hr (fun t ht hW => ⟨by rw [hq6], ht⟩) (fun q h => by cases h) dX7_known_58
        · rw [if_neg h_5]
          by_cases h_7 : (G 32 (8 * a1.toNatClampNeg + a2.toNatClampNeg)) = -1
          · rw [show ro_ ad (G 32 (8 * a1.toNatClampNeg + a2.toNatClampNeg)) = none from if_pos h_7]
            refine lv_astoreN (lv' := [(5, .null), (4, .ref (ad 1 a1.toNatClampNeg)), (0, .ref h0), (1, .int a1), (2, .int a2), (3, .int a3)]) hx hb dX7_known_40 hl (by decide) rfl (fun ls hl => ?_)
            refine lv_aloadN hx hb dX7_known_42 (lv_at hl 0 rfl) ?_
            refine lv_ifnonnullN hx hb dX7_known_44 ?_
            refine lv_iconst (v := (-1)) hx hb dX7_known_47 (by decide) ?_
            refine lv_goto (tgt := 58) hx hb dX7_known_48 (by decide) ?_
            have hq8 : sX_known n G a1 a2 a3 = (-1) := by exact (if_neg h_1).trans ((if_neg h_3).trans ((if_neg h_4).trans ((if_neg h_5).trans (if_pos h_7))))
            exact W.iret (v := (-1)) hx hb hr (fun t ht hW => ⟨by rw [hq8], ht⟩) (fun q h => by cases h) dX7_known_58
          · rw [show ro_ ad (G 32 (8 * a1.toNatClampNeg + a2.toNatClampNeg)) = some (ad 4 (G 32 (8 * a1.toNatClampNeg + a2.toNatClampNeg)).toNatClampNeg) from if_neg h_7]
            obtain ⟨hv7, hk07, hk17, hk27⟩ := cp_rv hC hv1 (vp_lt (sp_vp h_5 (n := 8) rfl)) hN h_7
            refine lv_astore (lv' := [(5, .ref (ad 4 ((G 32 (8 * a1.toNatClampNeg + a2.toNatClampNeg)).toNatClampNeg))), (4, .ref (ad 1 a1.toNatClampNeg)), (0, .ref h0), (1, .int a1), (2, .int a2), (3, .int a3)]) hx hb dX7_known_40 hl (by decide) rfl (fun ls hl => ?_)
            refine lv_aload hx hb dX7_known_42 (lv_at hl 0 rfl) ?_
            refine lv_ifnonnull (tgt := 51) hx hb dX7_known_44 (by decide) ?_
            refine lv_aload hx hb dX7_known_51 (lv_at hl 0 rfl) ?_
            refine co_get 4 ((G 32 (8 * a1.toNatClampNeg + a2.toNatClampNeg)).toNatClampNeg) (C := RX5) (T := TX5) (N := 6) (ci := 4) (v := .ref (ad 11 ((G 32 (8 * a1.toNatClampNeg + a2.toNatClampNeg)).toNatClampNeg))) hx hb hts hinX5 hown hK hC hv7 (fun z9 h9 => (show z9 = lq_ ad G ((G 32 (8 * a1.toNatClampNeg + a2.toNatClampNeg)).toNatClampNeg) from h9).trans (lq_2 hk07 hk17)) rfl 5 (by decide) (hts (.fieldLink RX7 246 "FurPosts$Report" "stock" "[I") (by decide +kernel)) (fun _ h9 => h9) rfl dX7_known_53 ?_
            refine lv_iload_n hx hb dX7_known_56 rfl (lv_at hl 5 rfl) ?_
            refine ci_ald 11 ((G 32 (8 * a1.toNatClampNeg + a2.toNatClampNeg)).toNatClampNeg) hx hb hK hC ⟨hv7, hk07, hk17⟩ (by decide) (w := a3) (sp_vp h_3 rfl) dX7_known_57 ?_
            refine lv_topi (fun v9 (e9 : v9 = G 31 (6 * ((G 32 (8 * a1.toNatClampNeg + a2.toNatClampNeg)).toNatClampNeg) + a3.toNatClampNeg)) => ?_)
            have hq10 : sX_known n G a1 a2 a3 = v9 := by subst e9; exact (if_neg h_1).trans ((if_neg h_3).trans ((if_neg h_4).trans ((if_neg h_5).trans (if_neg h_7))))
            exact W.iret (v := v9) hx hb hr (fun t ht hW => ⟨by rw [hq10], ht⟩) (fun q h => by cases h) dX7_known_58
      · skip
        refine lv_aload hx hb dX7_known_26 (lv_at hl 0 rfl) ?_
        refine co_get 1 a1.toNatClampNeg (C := RX4) (T := TX4) (N := 4) (ci := 3) (v := .ref (ad 5 a1.toNatClampNeg)) hx hb hts hinX4 hown hK hC hv1 (fun _ h9 => h9) rfl 0 (by decide) (hts (.fieldLink RX7 92 "FurPosts$Post" "stock" "[I") (by decide +kernel)) (fun _ h9 => h9) rfl dX7_known_28 ?_
        refine lv_iload_n hx hb dX7_known_31 rfl (lv_at hl 4 rfl) ?_
        refine ci_ald 5 a1.toNatClampNeg hx hb hK hC hv1 (by decide) (w := a3) (sp_vp h_3 rfl) dX7_known_32 ?_
        refine lv_topi (fun v11 (e11 : v11 = G 2 (6 * a1.toNatClampNeg + a3.toNatClampNeg)) => ?_)
        have hq12 : sX_known n G a1 a2 a3 = v11 := by subst e11; exact (if_neg h_1).trans ((if_neg h_3).trans (if_pos h_4))
        exact W.iret (v := v11) hx hb hr (fun t ht hW => ⟨by rw [hq12], ht⟩) (fun q h => by cases h) dX7_known_33
    · skip
      refine lv_iconst (v := (-1)) hx hb dX7_known_19 (by decide) ?_
      have hq13 : sX_known n G a1 a2 a3 = (-1) := by exact (if_neg h_1).trans (if_pos h_3)
      exact W.iret (v := (-1)) hx hb hr (fun t ht hW => ⟨by rw [hq13], ht⟩) (fun q h => by cases h) dX7_known_20

set_option maxHeartbeats 8000000 in
set_option maxRecDepth 100000 in
theorem k_X7_knownDay (l : Launch) (dC : Nat → ClassId) (dI : Nat → Nat → Nat) (h0 : Nat) (q : Nat → Nat) (cI : ClassId) (cy : Nat → ClassId) (A : Nat → Prop) (ad : Nat → Nat → Nat) (rl : Nat → Nat × Nat) (L : List Nat) (n : Nat → Nat) (G : Nat → Nat → Int32) (hN : nb_ n) (a1 : Int32) (a2 : Int32) : Met l yX7_knownDay wsX7_knownDay ({ frames := 1, cells := 0, slots := 0, locals := 21 }) (va_Pc [.ref h0, .int a1, .int a2] (ct_P (dC, dI) cI cy h0 q A ad rl L n G)) (pu_Q (.int (sX_knownDay n G a1 a2))) 0 0 pu_F := by
  refine Met.ofW (cc := cX7_knownDay) (maxL := 5) (ret := (some .int)) (by decide) rfl ?_
  intro p e s m args below meth c s₁ B hml hv
  obtain ⟨rfl, hC, hK, hW0⟩ := hv
  have hx := B.exec
  have hb := B.bytes
  have hr := B.returns
  have hts := atoms_spec (ws := wsX7_knownDay) B.pre
  have hown : s.vm.findClass RX7 = some m.cls := findClass_of_methodNamed B.named
  have hlocks := B.notSynchronized
  have hinX5 : ∀ w ∈ u_ws RX5 TX5 6, w ∈ wsX7_knownDay := by decide +kernel
  have hinX7 : ∀ w ∈ u_ws RX7 TX7 14, w ∈ wsX7_knownDay := by decide +kernel
  have hl := lv_entry ([.ref h0, .int a1, .int a2]) (n := 5) (Nat.le_of_ble_eq_true rfl)
  rw [lg_entry_eq]
  generalize (lg_sl ([.ref h0, .int a1, .int a2]) ++ List.replicate (5 - (lg_sl ([.ref h0, .int a1, .int a2])).length) Slot.unset).toArray = ls at hl ⊢
  have hl : lv_has ls 5 [(0, .ref h0), (1, .int a1), (2, .int a2)] := hl
  refine lv_aload_n hx hb dX7_knownDay_0 rfl (lv_at hl 0 rfl) ?_
  refine lv_iload_n hx hb dX7_knownDay_1 rfl (lv_at hl 1 rfl) ?_
  refine pu_call (va_runV (As := [.int a1]) (rest := []) ⟨hx, hb, hml, hown, hts⟩ (k_X7_postAt l dC dI h0 q cI cy A ad rl L n G hN a1) (cwV 1 hts gX7_knownDay_X7_postAt rfl rfl rfl (by decide +kernel) ⟨Nat.le_of_ble_eq_true rfl, Nat.le_of_ble_eq_true rfl⟩) (ct_pre hC hK hW0) rfl rfl hl.1 rfl (lv_room (Nat.le_of_ble_eq_true rfl)) dX7_knownDay_2 ⟨Nat.le_of_ble_eq_true rfl, Nat.le_of_ble_eq_true rfl⟩) ?_
  by_cases h_1 : (sp_in a1 0 ((nI (n 1)) - 1)) = 0
  · rw [if_pos h_1]
    refine lv_astore_nN (lv' := [(3, .null), (0, .ref h0), (1, .int a1), (2, .int a2)]) hx hb dX7_knownDay_5 rfl hl (by decide) rfl (fun ls hl => ?_)
    refine lv_aload_nN hx hb dX7_knownDay_6 rfl (lv_at hl 0 rfl) ?_
    refine lv_ifnonnullN hx hb dX7_knownDay_7 ?_
    refine lv_iconst (v := (-1)) hx hb dX7_knownDay_10 (by decide) ?_
    have hq2 : sX_knownDay n G a1 a2 = (-1) := by exact (if_pos h_1)
    exact W.iret (v := (-1)) hx hb hr (fun t ht hW => ⟨by rw [hq2], ht⟩) (fun q h => by cases h) dX7_knownDay_11
  · rw [if_neg h_1]
    have hv1 := sp_live h_1 (by omega)
    refine lv_astore_n (lv' := [(3, .ref (ad 1 a1.toNatClampNeg)), (0, .ref h0), (1, .int a1), (2, .int a2)]) hx hb dX7_knownDay_5 rfl hl (by decide) rfl (fun ls hl => ?_)
    refine lv_aload_n hx hb dX7_knownDay_6 rfl (lv_at hl 0 rfl) ?_
    refine lv_ifnonnull (tgt := 12) hx hb dX7_knownDay_7 (by decide) ?_
    refine lv_iload_n hx hb dX7_knownDay_12 rfl (lv_at hl 2 rfl) ?_
    refine lv_iload_n hx hb dX7_knownDay_13 rfl (lv_at hl 3 rfl) ?_
    refine lv_icmp_ne (tgt := 22) hx hb dX7_knownDay_14 (by decide) (fun h_3 => ?_) (fun h_3 => ?_)
    · skip
      refine lv_aload_n hx hb dX7_knownDay_22 rfl (lv_at hl 0 rfl) ?_
      refine lv_iload_n hx hb dX7_knownDay_23 rfl (lv_at hl 3 rfl) ?_
      refine pu_call (va_runV (As := [.int a2]) (rest := []) ⟨hx, hb, hml, hown, hts⟩ (k_X4_reportOf l dC dI h0 q cI cy A ad rl L n G hN a1.toNatClampNeg hv1 a2) (cwV 1 hts gX7_knownDay_X4_reportOf rfl rfl rfl (by decide +kernel) ⟨Nat.le_of_ble_eq_true rfl, Nat.le_of_ble_eq_true rfl⟩) (ct_preO 1 a1.toNatClampNeg (r := (RX4, TX4, 4)) (ci := 3) hC hK hW0 hv1 (fun _ h9 => h9) rfl) rfl rfl hl.1 rfl (lv_room (Nat.le_of_ble_eq_true rfl)) dX7_knownDay_24 ⟨Nat.le_of_ble_eq_true rfl, Nat.le_of_ble_eq_true rfl⟩) ?_
      by_cases h_4 : (sp_in a2 0 7) = 0
      · rw [if_pos h_4]
        refine lv_astoreN (lv' := [(4, .null), (3, .ref (ad 1 a1.toNatClampNeg)), (0, .ref h0), (1, .int a1), (2, .int a2)]) hx hb dX7_knownDay_27 hl (by decide) rfl (fun ls hl => ?_)
        refine lv_aloadN hx hb dX7_knownDay_29 (lv_at hl 0 rfl) ?_
        refine lv_ifnonnullN hx hb dX7_knownDay_31 ?_
        refine lv_iconst (v := (-1)) hx hb dX7_knownDay_34 (by decide) ?_
        refine lv_goto (tgt := 43) hx hb dX7_knownDay_35 (by decide) ?_
        have hq5 : sX_knownDay n G a1 a2 = (-1) := by exact (if_neg h_1).trans ((if_neg h_3).trans (if_pos h_4))
        exact W.iret (v := (-1)) hx hb hr (fun t ht hW => ⟨by rw [hq5], ht⟩) (fun q h => by cases h) dX7_knownDay_43
      · rw [if_neg h_4]
        by_cases h_6 : (G 32 (8 * a1.toNatClampNeg + a2.toNatClampNeg)) = -1
        · rw [show ro_ ad (G 32 (8 * a1.toNatClampNeg + a2.toNatClampNeg)) = none from if_pos h_6]
          refine lv_astoreN (lv' := [(4, .null), (3, .ref (ad 1 a1.toNatClampNeg)), (0, .ref h0), (1, .int a1), (2, .int a2)]) hx hb dX7_knownDay_27 hl (by decide) rfl (fun ls hl => ?_)
          refine lv_aloadN hx hb dX7_knownDay_29 (lv_at hl 0 rfl) ?_
          refine lv_ifnonnullN hx hb dX7_knownDay_31 ?_
          refine lv_iconst (v := (-1)) hx hb dX7_knownDay_34 (by decide) ?_
          refine lv_goto (tgt := 43) hx hb dX7_knownDay_35 (by decide) ?_
          have hq7 : sX_knownDay n G a1 a2 = (-1) := by exact (if_neg h_1).trans ((if_neg h_3).trans ((if_neg h_4).trans (if_pos h_6)))
          exact W.iret (v := (-1)) hx hb hr (fun t ht hW => ⟨by rw [hq7], ht⟩) (fun q h => by cases h) dX7_knownDay_43
        · rw [show ro_ ad (G 32 (8 * a1.toNatClampNeg + a2.toNatClampNeg)) = some (ad 4 (G 32 (8 * a1.toNatClampNeg + a2.toNatClampNeg)).toNatClampNeg) from if_neg h_6]
          obtain ⟨hv6, hk06, hk16, hk26⟩ := cp_rv hC hv1 (vp_lt (sp_vp h_4 (n := 8) rfl)) hN h_6
          refine lv_astore (lv' := [(4, .ref (ad 4 ((G 32 (8 * a1.toNatClampNeg + a2.toNatClampNeg)).toNatClampNeg))), (3, .ref (ad 1 a1.toNatClampNeg)), (0, .ref h0), (1, .int a1), (2, .int a2)]) hx hb dX7_knownDay_27 hl (by decide) rfl (fun ls hl => ?_)
          refine lv_aload hx hb dX7_knownDay_29 (lv_at hl 0 rfl) ?_
          refine lv_ifnonnull (tgt := 38) hx hb dX7_knownDay_31 (by decide) ?_
          refine lv_aload hx hb dX7_knownDay_38 (lv_at hl 0 rfl) ?_
          refine co_get 4 ((G 32 (8 * a1.toNatClampNeg + a2.toNatClampNeg)).toNatClampNeg) (C := RX5) (T := TX5) (N := 6) (ci := 4) (v := .int (G 30 ((G 32 (8 * a1.toNatClampNeg + a2.toNatClampNeg)).toNatClampNeg))) hx hb hts hinX5 hown hK hC hv6 (fun z9 h9 => (show z9 = lq_ ad G ((G 32 (8 * a1.toNatClampNeg + a2.toNatClampNeg)).toNatClampNeg) from h9).trans (lq_2 hk06 hk16)) rfl 4 (by decide) (hts (.fieldLink RX7 247 "FurPosts$Report" "day" "I") (by decide +kernel)) (fun _ h9 => h9) rfl dX7_knownDay_40 ?_
          refine lv_topi (fun v8 (e8 : v8 = G 30 ((G 32 (8 * a1.toNatClampNeg + a2.toNatClampNeg)).toNatClampNeg)) => ?_)
          have hq9 : sX_knownDay n G a1 a2 = v8 := by subst e8; exact (if_neg h_1).trans ((if_neg h_3).trans ((if_neg h_4).trans (if_neg h_6)))
          exact W.iret (v := v8) hx hb hr (fun t ht hW => ⟨by rw [hq9], ht⟩) (fun q h => by cases h) dX7_knownDay_43
    · skip
      refine lv_aload_n hx hb dX7_knownDay_17 rfl (lv_at hl 1 rfl) ?_
      refine cx_get hx hb hts hinX7 hown hK hC 8 (by decide) (v := .int (nI (n 0))) rfl (hts (.fieldLink RX7 103 "FurPosts" "now" "I") (by decide +kernel)) dX7_knownDay_18 ?_
      have hq10 : sX_knownDay n G a1 a2 = (nI (n 0)) := by exact (if_neg h_1).trans (if_pos h_3)
      exact W.iret (v := (nI (n 0))) hx hb hr (fun t ht hW => ⟨by rw [hq10], ht⟩) (fun q h => by cases h) dX7_knownDay_21

set_option maxHeartbeats 8000000 in
set_option maxRecDepth 100000 in
theorem k_X7_cost (l : Launch) (dC : Nat → ClassId) (dI : Nat → Nat → Nat) (h0 : Nat) (q : Nat → Nat) (cI : ClassId) (cy : Nat → ClassId) (A : Nat → Prop) (ad : Nat → Nat → Nat) (rl : Nat → Nat × Nat) (L : List Nat) (n : Nat → Nat) (G : Nat → Nat → Int32) (hN : nb_ n) (a1 : Int32) (a2 : Int32) (a3 : Int32) (a4 : Int32) (a5 : Int32) : Met l yX7_cost wsX7_cost ({ frames := 1, cells := 0, slots := 0, locals := 23 }) (va_Pc [.ref h0, .int a1, .int a2, .int a3, .int a4, .int a5] (ct_P (dC, dI) cI cy h0 q A ad rl L n G)) (pu_Q (.int (sX_cost n G a1 a2 a3 a4 a5))) 0 0 pu_F := by
  refine Met.ofW (cc := cX7_cost) (maxL := 11) (ret := (some .int)) (by decide) rfl ?_
  intro p e s m args below meth c s₁ B hml hv
  obtain ⟨rfl, hC, hK, hW0⟩ := hv
  have hx := B.exec
  have hb := B.bytes
  have hr := B.returns
  have hts := atoms_spec (ws := wsX7_cost) B.pre
  have hown : s.vm.findClass RX7 = some m.cls := findClass_of_methodNamed B.named
  have hlocks := B.notSynchronized
  have hinX4 : ∀ w ∈ u_ws RX4 TX4 4, w ∈ wsX7_cost := by decide +kernel
  have hinX7 : ∀ w ∈ u_ws RX7 TX7 14, w ∈ wsX7_cost := by decide +kernel
  have hl := lv_entry ([.ref h0, .int a1, .int a2, .int a3, .int a4, .int a5]) (n := 11) (Nat.le_of_ble_eq_true rfl)
  rw [lg_entry_eq]
  generalize (lg_sl ([.ref h0, .int a1, .int a2, .int a3, .int a4, .int a5]) ++ List.replicate (11 - (lg_sl ([.ref h0, .int a1, .int a2, .int a3, .int a4, .int a5])).length) Slot.unset).toArray = ls at hl ⊢
  have hl : lv_has ls 11 [(0, .ref h0), (1, .int a1), (2, .int a2), (3, .int a3), (4, .int a4), (5, .int a5)] := hl
  refine lv_aload_n hx hb dX7_cost_0 rfl (lv_at hl 0 rfl) ?_
  refine lv_iload_n hx hb dX7_cost_1 rfl (lv_at hl 1 rfl) ?_
  refine pu_call (va_runV (As := [.int a1]) (rest := []) ⟨hx, hb, hml, hown, hts⟩ (k_X7_postAt l dC dI h0 q cI cy A ad rl L n G hN a1) (cwV 1 hts gX7_cost_X7_postAt rfl rfl rfl (by decide +kernel) ⟨Nat.le_of_ble_eq_true rfl, Nat.le_of_ble_eq_true rfl⟩) (ct_pre hC hK hW0) rfl rfl hl.1 rfl (lv_room (Nat.le_of_ble_eq_true rfl)) dX7_cost_2 ⟨Nat.le_of_ble_eq_true rfl, Nat.le_of_ble_eq_true rfl⟩) ?_
  by_cases h_1 : (sp_in a1 0 ((nI (n 1)) - 1)) = 0
  · rw [if_pos h_1]
    refine lv_astoreN (lv' := [(6, .null), (0, .ref h0), (1, .int a1), (2, .int a2), (3, .int a3), (4, .int a4), (5, .int a5)]) hx hb dX7_cost_5 hl (by decide) rfl (fun ls hl => ?_)
    refine lv_aloadN hx hb dX7_cost_7 (lv_at hl 0 rfl) ?_
    refine lv_ifnullN (tgt := 59) hx hb dX7_cost_9 (by decide) ?_
    refine lv_iconst (v := (-1)) hx hb dX7_cost_59 (by decide) ?_
    have hq2 : sX_cost n G a1 a2 a3 a4 a5 = (-1) := by exact (if_pos h_1)
    exact W.iret (v := (-1)) hx hb hr (fun t ht hW => ⟨by rw [hq2], ht⟩) (fun q h => by cases h) dX7_cost_60
  · rw [if_neg h_1]
    have hv1 := sp_live h_1 (by omega)
    refine lv_astore (lv' := [(6, .ref (ad 1 a1.toNatClampNeg)), (0, .ref h0), (1, .int a1), (2, .int a2), (3, .int a3), (4, .int a4), (5, .int a5)]) hx hb dX7_cost_5 hl (by decide) rfl (fun ls hl => ?_)
    refine lv_aload hx hb dX7_cost_7 (lv_at hl 0 rfl) ?_
    refine lv_ifnull hx hb dX7_cost_9 ?_
    refine lv_iload_n hx hb dX7_cost_12 rfl (lv_at hl 3 rfl) ?_
    refine pu_call (va_runS (As := [.int a2]) (rest := []) ⟨hx, hb, hml, hown, hts⟩ (c_X7_isWare l a2) (va_cwS 1 hts gX7_cost_X7_isWare rfl rfl rfl (by decide +kernel) ⟨Nat.le_of_ble_eq_true rfl, Nat.le_of_ble_eq_true rfl⟩) pu_preS rfl rfl hl.1 rfl (lv_room (Nat.le_of_ble_eq_true rfl)) dX7_cost_13 ⟨Nat.le_of_ble_eq_true rfl, Nat.le_of_ble_eq_true rfl⟩) ?_
    refine lv_if_eq (tgt := 59) hx hb dX7_cost_16 (by decide) (fun h_3 => ?_) (fun h_3 => ?_)
    · skip
      refine lv_iconst (v := (-1)) hx hb dX7_cost_59 (by decide) ?_
      have hq4 : sX_cost n G a1 a2 a3 a4 a5 = (-1) := by exact (if_neg h_1).trans (if_pos h_3)
      exact W.iret (v := (-1)) hx hb hr (fun t ht hW => ⟨by rw [hq4], ht⟩) (fun q h => by cases h) dX7_cost_60
    · skip
      refine lv_aload_n hx hb dX7_cost_19 rfl (lv_at hl 1 rfl) ?_
      refine lv_iload_n hx hb dX7_cost_20 rfl (lv_at hl 3 rfl) ?_
      refine pu_call (va_runV (As := [.int a2]) (rest := []) ⟨hx, hb, hml, hown, hts⟩ (k_X7_areWantsRight l dC dI h0 q cI cy A ad rl L n G hN a2 (sp_vp h_3 rfl)) (cwV 1 hts gX7_cost_X7_areWantsRight rfl rfl rfl (by decide +kernel) ⟨Nat.le_of_ble_eq_true rfl, Nat.le_of_ble_eq_true rfl⟩) (ct_pre hC hK hW0) rfl rfl hl.1 rfl (lv_room (Nat.le_of_ble_eq_true rfl)) dX7_cost_21 ⟨Nat.le_of_ble_eq_true rfl, Nat.le_of_ble_eq_true rfl⟩) ?_
      refine lv_topi (fun r5 (e5 : r5 = sX_areWantsRight n G a2) => ?_)
      refine lv_if_eq (tgt := 59) hx hb dX7_cost_24 (by decide) (fun h_6 => ?_) (fun h_6 => ?_)
      · skip
        refine lv_iconst (v := (-1)) hx hb dX7_cost_59 (by decide) ?_
        have hq7 : sX_cost n G a1 a2 a3 a4 a5 = (-1) := by subst e5; exact (if_neg h_1).trans ((if_neg h_3).trans (if_pos h_6))
        exact W.iret (v := (-1)) hx hb hr (fun t ht hW => ⟨by rw [hq7], ht⟩) (fun q h => by cases h) dX7_cost_60
      · skip
        refine lv_iload hx hb dX7_cost_27 (lv_at hl 6 rfl) ?_
        refine lv_iconst (v := 0) hx hb dX7_cost_29 (by decide) ?_
        refine lv_bipush (v := 20) hx hb dX7_cost_30 (by decide) ?_
        refine pu_call (va_runS (As := [.int a5, .int 0, .int 20]) (rest := []) ⟨hx, hb, hml, hown, hts⟩ (c_X7_isWithin l a5 0 20) (va_cwS 3 hts gX7_cost_X7_isWithin rfl rfl rfl (by decide +kernel) ⟨Nat.le_of_ble_eq_true rfl, Nat.le_of_ble_eq_true rfl⟩) pu_preS rfl rfl hl.1 rfl (lv_room (Nat.le_of_ble_eq_true rfl)) dX7_cost_32 ⟨Nat.le_of_ble_eq_true rfl, Nat.le_of_ble_eq_true rfl⟩) ?_
        refine lv_if_eq (tgt := 59) hx hb dX7_cost_35 (by decide) (fun h_8 => ?_) (fun h_8 => ?_)
        · skip
          refine lv_iconst (v := (-1)) hx hb dX7_cost_59 (by decide) ?_
          have hq9 : sX_cost n G a1 a2 a3 a4 a5 = (-1) := by subst e5; exact (if_neg h_1).trans ((if_neg h_3).trans ((if_neg h_6).trans (if_pos h_8)))
          exact W.iret (v := (-1)) hx hb hr (fun t ht hW => ⟨by rw [hq9], ht⟩) (fun q h => by cases h) dX7_cost_60
        · skip
          refine lv_iload_n hx hb dX7_cost_38 rfl (lv_at hl 4 rfl) ?_
          refine lv_iconst (v := 0) hx hb dX7_cost_39 (by decide) ?_
          refine lv_bipush (v := 100) hx hb dX7_cost_40 (by decide) ?_
          refine pu_call (va_runS (As := [.int a3, .int 0, .int 100]) (rest := []) ⟨hx, hb, hml, hown, hts⟩ (c_X7_isWithin l a3 0 100) (va_cwS 3 hts gX7_cost_X7_isWithin rfl rfl rfl (by decide +kernel) ⟨Nat.le_of_ble_eq_true rfl, Nat.le_of_ble_eq_true rfl⟩) pu_preS rfl rfl hl.1 rfl (lv_room (Nat.le_of_ble_eq_true rfl)) dX7_cost_42 ⟨Nat.le_of_ble_eq_true rfl, Nat.le_of_ble_eq_true rfl⟩) ?_
          refine lv_if_eq (tgt := 59) hx hb dX7_cost_45 (by decide) (fun h_10 => ?_) (fun h_10 => ?_)
          · skip
            refine lv_iconst (v := (-1)) hx hb dX7_cost_59 (by decide) ?_
            have hq11 : sX_cost n G a1 a2 a3 a4 a5 = (-1) := by subst e5; exact (if_neg h_1).trans ((if_neg h_3).trans ((if_neg h_6).trans ((if_neg h_8).trans (if_pos h_10))))
            exact W.iret (v := (-1)) hx hb hr (fun t ht hW => ⟨by rw [hq11], ht⟩) (fun q h => by cases h) dX7_cost_60
          · skip
            refine lv_iload hx hb dX7_cost_48 (lv_at hl 5 rfl) ?_
            refine lv_iconst (v := 0) hx hb dX7_cost_50 (by decide) ?_
            refine lv_bipush (v := 100) hx hb dX7_cost_51 (by decide) ?_
            refine pu_call (va_runS (As := [.int a4, .int 0, .int 100]) (rest := []) ⟨hx, hb, hml, hown, hts⟩ (c_X7_isWithin l a4 0 100) (va_cwS 3 hts gX7_cost_X7_isWithin rfl rfl rfl (by decide +kernel) ⟨Nat.le_of_ble_eq_true rfl, Nat.le_of_ble_eq_true rfl⟩) pu_preS rfl rfl hl.1 rfl (lv_room (Nat.le_of_ble_eq_true rfl)) dX7_cost_53 ⟨Nat.le_of_ble_eq_true rfl, Nat.le_of_ble_eq_true rfl⟩) ?_
            refine lv_if_ne (tgt := 61) hx hb dX7_cost_56 (by decide) (fun h_12 => ?_) (fun h_12 => ?_)
            · skip
              refine lv_aload hx hb dX7_cost_61 (lv_at hl 0 rfl) ?_
              refine co_get 1 a1.toNatClampNeg (C := RX4) (T := TX4) (N := 4) (ci := 3) (v := .ref (ad 5 a1.toNatClampNeg)) hx hb hts hinX4 hown hK hC hv1 (fun _ h9 => h9) rfl 0 (by decide) (hts (.fieldLink RX7 92 "FurPosts$Post" "stock" "[I") (by decide +kernel)) (fun _ h9 => h9) rfl dX7_cost_63 ?_
              refine lv_iload_n hx hb dX7_cost_66 rfl (lv_at hl 3 rfl) ?_
              refine ci_ald 5 a1.toNatClampNeg hx hb hK hC hv1 (by decide) (w := a2) (sp_vp h_3 rfl) dX7_cost_67 ?_
              refine lv_topi (fun v13 (e13 : v13 = G 2 (6 * a1.toNatClampNeg + a2.toNatClampNeg)) => ?_)
              refine lv_sipush (v := 1000) hx hb dX7_cost_68 (by decide) ?_
              refine va_mmin hx hb (hml.trans hl.1.symm) hown (hts (.methodLink RX7 78 Lib.Math.min.name) (by decide +kernel)) (hts (.static Lib.Math.min.name) (by decide +kernel)) (hts (.initialized "java/lang/Math") (by decide +kernel)) (hts (.code Lib.Math.min.name Lib.Math.min.code 2 (some .int)) (by decide +kernel)) (Nat.le_of_ble_eq_true rfl) (Nat.le_of_ble_eq_true rfl) (Nat.le_of_ble_eq_true rfl) (Nat.le_of_ble_eq_true rfl) dX7_cost_71 ?_
              refine lv_topi (fun v14 (e14 : v14 = if 1000 < v13 then 1000 else v13) => ?_)
              refine lv_iload hx hb dX7_cost_74 (lv_at hl 6 rfl) ?_
              refine lv_iadd hx hb dX7_cost_76 ?_
              refine lv_istore (lv' := [(7, .int (v14 + a5)), (6, .ref (ad 1 a1.toNatClampNeg)), (0, .ref h0), (1, .int a1), (2, .int a2), (3, .int a3), (4, .int a4), (5, .int a5)]) hx hb dX7_cost_77 hl (by decide) rfl (fun ls hl => ?_)
              refine lv_iconst (v := 0) hx hb dX7_cost_79 (by decide) ?_
              refine lv_istore (lv' := [(8, .int 0), (7, .int (v14 + a5)), (6, .ref (ad 1 a1.toNatClampNeg)), (0, .ref h0), (1, .int a1), (2, .int a2), (3, .int a3), (4, .int a4), (5, .int a5)]) hx hb dX7_cost_80 hl (by decide) rfl (fun ls hl => ?_)
              refine lv_iconst (v := 0) hx hb dX7_cost_82 (by decide) ?_
              refine lv_istore (lv' := [(9, .int 0), (8, .int 0), (7, .int (v14 + a5)), (6, .ref (ad 1 a1.toNatClampNeg)), (0, .ref h0), (1, .int a1), (2, .int a2), (3, .int a3), (4, .int a4), (5, .int a5)]) hx hb dX7_cost_83 hl (by decide) rfl (fun ls hl => ?_)
              have key85 : ∀ (k jL85 : Nat) (xL85_8 : Int32) (ls : Array Slot), jL85 + k = 21 → lv_has ls 11 [(9, .int (nI jL85)), (8, .int xL85_8), (7, .int (v14 + a5)), (6, .ref (ad 1 a1.toNatClampNeg)), (0, .ref h0), (1, .int a1), (2, .int a2), (3, .int a3), (4, .int a4), (5, .int a5)] → (∀ (ls : Array Slot), lv_has ls 11 [(9, .int (nI 21)), (8, .int (sX_cost_L85 G a1 a2 a5 a4 a3 k jL85 xL85_8)), (7, .int (v14 + a5)), (6, .ref (ad 1 a1.toNatClampNeg)), (0, .ref h0), (1, .int a1), (2, .int a2), (3, .int a3), (4, .int a4), (5, .int a5)] → W p l e (headSpec wsX7_cost ({ frames := 1, cells := 0, slots := 0, locals := 23 })).room s m [.ref h0, .int a1, .int a2, .int a3, .int a4, .int a5].toArray below meth c s.heap [] 0 0 (MQ below (pu_Q (.int (sX_cost n G a1 a2 a3 a4 a5))) [.ref h0, .int a1, .int a2, .int a3, .int a4, .int a5].toArray s 0 0 pu_F) (F0 m 142 ls [])) → 
                  W p l e (headSpec wsX7_cost ({ frames := 1, cells := 0, slots := 0, locals := 23 })).room s m [.ref h0, .int a1, .int a2, .int a3, .int a4, .int a5].toArray below meth c s.heap [] 0 0 (MQ below (pu_Q (.int (sX_cost n G a1 a2 a3 a4 a5))) [.ref h0, .int a1, .int a2, .int a3, .int a4, .int a5].toArray s 0 0 pu_F) (F0 m 85 ls []) := by
                intro k
                induction k with
                | zero =>
                  intro jL85 xL85_8 ls hj hl hex
                  have hj : jL85 = 21 := by omega
                  subst jL85
                  refine lv_iload hx hb dX7_cost_85 (lv_at hl 0 rfl) ?_
                  refine lv_bipush (v := 20) hx hb dX7_cost_87 (by decide) ?_
                  refine lv_icmp_gt (tgt := 142) hx hb dX7_cost_89 (by decide) (fun h_15 => ?_) (fun h_15 => absurd (lp_gt0 (B := 21) (by omega) rfl) h_15)
                  exact hex ls (lv_sub hl [0, 1, 2, 3, 4, 5, 6, 7, 8, 9] rfl)
                | succ k ih85 =>
                  intro jL85 xL85_8 ls hj hl hex
                  have hj85 : jL85 < 21 := by omega
                  refine lv_iload hx hb dX7_cost_85 (lv_at hl 0 rfl) ?_
                  refine lv_bipush (v := 20) hx hb dX7_cost_87 (by decide) ?_
                  refine lv_icmp_gt (tgt := 142) hx hb dX7_cost_89 (by decide) (fun h_16 => absurd h_16 (lp_gt (B := 21) (by omega) (by omega) rfl)) (fun h_16 => ?_)
                  refine lv_iload hx hb dX7_cost_92 (lv_at hl 0 rfl) ?_
                  refine lv_iload hx hb dX7_cost_94 (lv_at hl 2 rfl) ?_
                  refine lv_icmp_le (tgt := 109) hx hb dX7_cost_96 (by decide) (fun h_17 => ?_) (fun h_17 => ?_)
                  · skip
                    refine lv_iload hx hb dX7_cost_109 (lv_at hl 8 rfl) ?_
                    refine lv_iload hx hb dX7_cost_111 (lv_at hl 2 rfl) ?_
                    refine lv_iload hx hb dX7_cost_113 (lv_at hl 0 rfl) ?_
                    refine lv_isub hx hb dX7_cost_115 ?_
                    refine lv_imul hx hb dX7_cost_116 ?_
                    refine lv_istore (lv' := [(10, .int (a4 * ((v14 + a5) - (nI jL85)))), (9, .int (nI jL85)), (8, .int xL85_8), (7, .int (v14 + a5)), (6, .ref (ad 1 a1.toNatClampNeg)), (0, .ref h0), (1, .int a1), (2, .int a2), (3, .int a3), (4, .int a4), (5, .int a5)]) hx hb dX7_cost_117 hl (by decide) rfl (fun ls hl => ?_)
                    refine lv_iload hx hb dX7_cost_119 (lv_at hl 2 rfl) ?_
                    refine lv_aload_n hx hb dX7_cost_121 rfl (lv_at hl 5 rfl) ?_
                    refine cx_get hx hb hts hinX7 hown hK hC 5 (by decide) (v := .ref (q 6)) rfl (hts (.fieldLink RX7 38 "FurPosts" "wants" "[[I") (by decide +kernel)) dX7_cost_122 ?_
                    refine lv_iload_n hx hb dX7_cost_125 rfl (lv_at hl 7 rfl) ?_
                    refine cr_ald26 hx hb hK hC (w := a2) (sp_vp h_3 rfl) dX7_cost_126 ?_
                    refine lv_iload hx hb dX7_cost_127 (lv_at hl 1 rfl) ?_
                    refine ci_ald 13 a2.toNatClampNeg hx hb hK hC (vp_lt (sp_vp h_3 rfl)) (by decide) (w := (nI jL85)) (vp_in_nI (show jL85 < 21 by omega) (by decide)) dX7_cost_129 ?_
                    refine lv_topi (fun v18 (e18 : v18 = G 33 (21 * a2.toNatClampNeg + (nI jL85).toNatClampNeg)) => ?_)
                    rw [(show (nI jL85).toNatClampNeg = jL85 from nI_clamp (by omega))] at e18
                    refine lv_iload hx hb dX7_cost_130 (lv_at hl 0 rfl) ?_
                    refine lv_imul hx hb dX7_cost_132 ?_
                    refine lv_iadd hx hb dX7_cost_133 ?_
                    refine lv_istore (lv' := [(8, .int (xL85_8 + (v18 * (a4 * ((v14 + a5) - (nI jL85)))))), (10, .int (a4 * ((v14 + a5) - (nI jL85)))), (9, .int (nI jL85)), (7, .int (v14 + a5)), (6, .ref (ad 1 a1.toNatClampNeg)), (0, .ref h0), (1, .int a1), (2, .int a2), (3, .int a3), (4, .int a4), (5, .int a5)]) hx hb dX7_cost_134 hl (by decide) rfl (fun ls hl => ?_)
                    refine lv_iinc (v := (nI (jL85 + 1))) (lv' := [(9, .int (nI (jL85 + 1))), (8, .int (xL85_8 + (v18 * (a4 * ((v14 + a5) - (nI jL85)))))), (10, .int (a4 * ((v14 + a5) - (nI jL85)))), (7, .int (v14 + a5)), (6, .ref (ad 1 a1.toNatClampNeg)), (0, .ref h0), (1, .int a1), (2, .int a2), (3, .int a3), (4, .int a4), (5, .int a5)]) hx hb dX7_cost_136 hl (k := 2) rfl (show nI jL85 + 1 = nI (jL85 + 1) from nI_1 jL85) (by decide) rfl (fun ls hl => ?_)
                    refine lv_goto (tgt := 85) hx hb dX7_cost_139 (by decide) ?_
                    have hI85 : (sX_cost_L85 G a1 a2 a5 a4 a3 (k + 1) jL85 xL85_8) = (sX_cost_L85 G a1 a2 a5 a4 a3 k (jL85 + 1) (xL85_8 + (v18 * (a4 * ((v14 + a5) - (nI jL85)))))) := by subst e18 e14 e13 e5; exact (if_pos h_17)
                    exact ih85 (jL85 + 1) (xL85_8 + (v18 * (a4 * ((v14 + a5) - (nI jL85))))) ls (by omega) (lv_sub hl [0, 1, 3, 4, 5, 6, 7, 8, 9, 10] rfl) (by rw [← hI85]; exact hex)
                  · skip
                    refine lv_iload_n hx hb dX7_cost_99 rfl (lv_at hl 7 rfl) ?_
                    refine lv_iload hx hb dX7_cost_100 (lv_at hl 0 rfl) ?_
                    refine lv_iload hx hb dX7_cost_102 (lv_at hl 2 rfl) ?_
                    refine lv_isub hx hb dX7_cost_104 ?_
                    refine lv_imul hx hb dX7_cost_105 ?_
                    refine lv_goto (tgt := 117) hx hb dX7_cost_106 (by decide) ?_
                    refine lv_istore (lv' := [(10, .int (a3 * ((nI jL85) - (v14 + a5)))), (9, .int (nI jL85)), (8, .int xL85_8), (7, .int (v14 + a5)), (6, .ref (ad 1 a1.toNatClampNeg)), (0, .ref h0), (1, .int a1), (2, .int a2), (3, .int a3), (4, .int a4), (5, .int a5)]) hx hb dX7_cost_117 hl (by decide) rfl (fun ls hl => ?_)
                    refine lv_iload hx hb dX7_cost_119 (lv_at hl 2 rfl) ?_
                    refine lv_aload_n hx hb dX7_cost_121 rfl (lv_at hl 5 rfl) ?_
                    refine cx_get hx hb hts hinX7 hown hK hC 5 (by decide) (v := .ref (q 6)) rfl (hts (.fieldLink RX7 38 "FurPosts" "wants" "[[I") (by decide +kernel)) dX7_cost_122 ?_
                    refine lv_iload_n hx hb dX7_cost_125 rfl (lv_at hl 7 rfl) ?_
                    refine cr_ald26 hx hb hK hC (w := a2) (sp_vp h_3 rfl) dX7_cost_126 ?_
                    refine lv_iload hx hb dX7_cost_127 (lv_at hl 1 rfl) ?_
                    refine ci_ald 13 a2.toNatClampNeg hx hb hK hC (vp_lt (sp_vp h_3 rfl)) (by decide) (w := (nI jL85)) (vp_in_nI (show jL85 < 21 by omega) (by decide)) dX7_cost_129 ?_
                    refine lv_topi (fun v19 (e19 : v19 = G 33 (21 * a2.toNatClampNeg + (nI jL85).toNatClampNeg)) => ?_)
                    rw [(show (nI jL85).toNatClampNeg = jL85 from nI_clamp (by omega))] at e19
                    refine lv_iload hx hb dX7_cost_130 (lv_at hl 0 rfl) ?_
                    refine lv_imul hx hb dX7_cost_132 ?_
                    refine lv_iadd hx hb dX7_cost_133 ?_
                    refine lv_istore (lv' := [(8, .int (xL85_8 + (v19 * (a3 * ((nI jL85) - (v14 + a5)))))), (10, .int (a3 * ((nI jL85) - (v14 + a5)))), (9, .int (nI jL85)), (7, .int (v14 + a5)), (6, .ref (ad 1 a1.toNatClampNeg)), (0, .ref h0), (1, .int a1), (2, .int a2), (3, .int a3), (4, .int a4), (5, .int a5)]) hx hb dX7_cost_134 hl (by decide) rfl (fun ls hl => ?_)
                    refine lv_iinc (v := (nI (jL85 + 1))) (lv' := [(9, .int (nI (jL85 + 1))), (8, .int (xL85_8 + (v19 * (a3 * ((nI jL85) - (v14 + a5)))))), (10, .int (a3 * ((nI jL85) - (v14 + a5)))), (7, .int (v14 + a5)), (6, .ref (ad 1 a1.toNatClampNeg)), (0, .ref h0), (1, .int a1), (2, .int a2), (3, .int a3), (4, .int a4), (5, .int a5)]) hx hb dX7_cost_136 hl (k := 2) rfl (show nI jL85 + 1 = nI (jL85 + 1) from nI_1 jL85) (by decide) rfl (fun ls hl => ?_)
                    refine lv_goto (tgt := 85) hx hb dX7_cost_139 (by decide) ?_
                    have hI85 : (sX_cost_L85 G a1 a2 a5 a4 a3 (k + 1) jL85 xL85_8) = (sX_cost_L85 G a1 a2 a5 a4 a3 k (jL85 + 1) (xL85_8 + (v19 * (a3 * ((nI jL85) - (v14 + a5)))))) := by subst e19 e14 e13 e5; exact (if_neg h_17)
                    exact ih85 (jL85 + 1) (xL85_8 + (v19 * (a3 * ((nI jL85) - (v14 + a5))))) ls (by omega) (lv_sub hl [0, 1, 3, 4, 5, 6, 7, 8, 9, 10] rfl) (by rw [← hI85]; exact hex)
              refine key85 21 0 0 ls (by omega) (lv_sub hl [0, 1, 2, 3, 4, 5, 6, 7, 8, 9] rfl) (fun ls hl => ?_)
              obtain ⟨v20, e20⟩ : ∃ v20 : Int32, v20 = (sX_cost_L85 G a1 a2 a5 a4 a3 21 0 0) := ⟨_, rfl⟩
              rw [← e20] at hl
              refine lv_iload hx hb dX7_cost_142 (lv_at hl 1 rfl) ?_
              have hq21 : sX_cost n G a1 a2 a3 a4 a5 = v20 := by subst e20 e14 e13 e5; exact (if_neg h_1).trans ((if_neg h_3).trans ((if_neg h_6).trans ((if_neg h_8).trans ((if_neg h_10).trans (if_neg h_12)))))
              exact W.iret (v := v20) hx hb hr (fun t ht hW => ⟨by rw [hq21], ht⟩) (fun q h => by cases h) dX7_cost_144
            · skip
              refine lv_iconst (v := (-1)) hx hb dX7_cost_59 (by decide) ?_
              have hq22 : sX_cost n G a1 a2 a3 a4 a5 = (-1) := by subst e5; exact (if_neg h_1).trans ((if_neg h_3).trans ((if_neg h_6).trans ((if_neg h_8).trans ((if_neg h_10).trans (if_pos h_12)))))
              exact W.iret (v := (-1)) hx hb hr (fun t ht hW => ⟨by rw [hq22], ht⟩) (fun q h => by cases h) dX7_cost_60

set_option maxHeartbeats 8000000 in
set_option maxRecDepth 100000 in
theorem k_X7_indent (l : Launch) (dC : Nat → ClassId) (dI : Nat → Nat → Nat) (h0 : Nat) (q : Nat → Nat) (cI : ClassId) (cy : Nat → ClassId) (A : Nat → Prop) (ad : Nat → Nat → Nat) (rl : Nat → Nat × Nat) (L : List Nat) (n : Nat → Nat) (G : Nat → Nat → Int32) (hN : nb_ n) (a1 : Int32) (a2 : Int32) (a3 : Int32) (a4 : Int32) : Met l yX7_indent wsX7_indent ({ frames := 2, cells := 0, slots := 0, locals := 53 }) (va_Pc [.ref h0, .int a1, .int a2, .int a3, .int a4] (ct_P (dC, dI) cI cy h0 q A ad rl L n G)) (pu_Q (.int (sX_indent n G a1 a2 a3 a4))) 0 0 pu_F := by
  refine Met.ofW (cc := cX7_indent) (maxL := 9) (ret := (some .int)) (by decide) rfl ?_
  intro p e s m args below meth c s₁ B hml hv
  obtain ⟨rfl, hC, hK, hW0⟩ := hv
  have hx := B.exec
  have hb := B.bytes
  have hr := B.returns
  have hts := atoms_spec (ws := wsX7_indent) B.pre
  have hown : s.vm.findClass RX7 = some m.cls := findClass_of_methodNamed B.named
  have hlocks := B.notSynchronized
  have hl := lv_entry ([.ref h0, .int a1, .int a2, .int a3, .int a4]) (n := 9) (Nat.le_of_ble_eq_true rfl)
  rw [lg_entry_eq]
  generalize (lg_sl ([.ref h0, .int a1, .int a2, .int a3, .int a4]) ++ List.replicate (9 - (lg_sl ([.ref h0, .int a1, .int a2, .int a3, .int a4])).length) Slot.unset).toArray = ls at hl ⊢
  have hl : lv_has ls 9 [(0, .ref h0), (1, .int a1), (2, .int a2), (3, .int a3), (4, .int a4)] := hl
  refine lv_iconst (v := (-1)) hx hb dX7_indent_0 (by decide) ?_
  refine lv_istore (lv' := [(5, .int (-1)), (0, .ref h0), (1, .int a1), (2, .int a2), (3, .int a3), (4, .int a4)]) hx hb dX7_indent_1 hl (by decide) rfl (fun ls hl => ?_)
  refine lv_iconst (v := (-1)) hx hb dX7_indent_3 (by decide) ?_
  refine lv_istore (lv' := [(6, .int (-1)), (5, .int (-1)), (0, .ref h0), (1, .int a1), (2, .int a2), (3, .int a3), (4, .int a4)]) hx hb dX7_indent_4 hl (by decide) rfl (fun ls hl => ?_)
  refine lv_iconst (v := 0) hx hb dX7_indent_6 (by decide) ?_
  refine lv_istore (lv' := [(7, .int 0), (6, .int (-1)), (5, .int (-1)), (0, .ref h0), (1, .int a1), (2, .int a2), (3, .int a3), (4, .int a4)]) hx hb dX7_indent_7 hl (by decide) rfl (fun ls hl => ?_)
  have key9 : ∀ (k jL9 : Nat) (xL9_6 xL9_5 : Int32) (ls : Array Slot), jL9 + k = 21 → sX_indent n G a1 a2 a3 a4 = (sX_indent_L9 n G a1 a2 a3 a4 k jL9 xL9_6 xL9_5) → lv_has ls 9 [(7, .int (nI jL9)), (6, .int xL9_6), (5, .int xL9_5), (0, .ref h0), (1, .int a1), (2, .int a2), (3, .int a3), (4, .int a4)] → 
      W p l e (headSpec wsX7_indent ({ frames := 2, cells := 0, slots := 0, locals := 53 })).room s m [.ref h0, .int a1, .int a2, .int a3, .int a4].toArray below meth c s.heap [] 0 0 (MQ below (pu_Q (.int (sX_indent n G a1 a2 a3 a4))) [.ref h0, .int a1, .int a2, .int a3, .int a4].toArray s 0 0 pu_F) (F0 m 9 ls []) := by
    intro k
    induction k with
    | zero =>
      intro jL9 xL9_6 xL9_5 ls hj hE9 hl
      have hj : jL9 = 21 := by omega
      subst jL9
      refine lv_iload hx hb dX7_indent_9 (lv_at hl 0 rfl) ?_
      refine lv_bipush (v := 20) hx hb dX7_indent_11 (by decide) ?_
      refine lv_icmp_gt (tgt := 62) hx hb dX7_indent_13 (by decide) (fun h_1 => ?_) (fun h_1 => absurd (lp_gt0 (B := 21) (by omega) rfl) h_1)
      refine lv_iload hx hb dX7_indent_62 (lv_at hl 2 rfl) ?_
      have hq2 : sX_indent n G a1 a2 a3 a4 = xL9_5 := by exact hE9
      exact W.iret (v := xL9_5) hx hb hr (fun t ht hW => ⟨by rw [hq2], ht⟩) (fun q h => by cases h) dX7_indent_64
    | succ k ih9 =>
      intro jL9 xL9_6 xL9_5 ls hj hE9 hl
      have hj9 : jL9 < 21 := by omega
      refine lv_iload hx hb dX7_indent_9 (lv_at hl 0 rfl) ?_
      refine lv_bipush (v := 20) hx hb dX7_indent_11 (by decide) ?_
      refine lv_icmp_gt (tgt := 62) hx hb dX7_indent_13 (by decide) (fun h_3 => absurd h_3 (lp_gt (B := 21) (by omega) (by omega) rfl)) (fun h_3 => ?_)
      refine lv_aload_n hx hb dX7_indent_16 rfl (lv_at hl 3 rfl) ?_
      refine lv_iload_n hx hb dX7_indent_17 rfl (lv_at hl 4 rfl) ?_
      refine lv_iload_n hx hb dX7_indent_18 rfl (lv_at hl 5 rfl) ?_
      refine lv_iload_n hx hb dX7_indent_19 rfl (lv_at hl 6 rfl) ?_
      refine lv_iload hx hb dX7_indent_20 (lv_at hl 7 rfl) ?_
      refine lv_iload hx hb dX7_indent_22 (lv_at hl 0 rfl) ?_
      refine pu_call (va_runV (As := [.int a1, .int a2, .int a3, .int a4, .int (nI jL9)]) (rest := []) ⟨hx, hb, hml, hown, hts⟩ (k_X7_cost l dC dI h0 q cI cy A ad rl L n G hN a1 a2 a3 a4 (nI jL9)) (cwV 5 hts gX7_indent_X7_cost rfl rfl rfl (by decide +kernel) ⟨Nat.le_of_ble_eq_true rfl, Nat.le_of_ble_eq_true rfl⟩) (ct_pre hC hK hW0) rfl rfl hl.1 rfl (lv_room (Nat.le_of_ble_eq_true rfl)) dX7_indent_24 ⟨Nat.le_of_ble_eq_true rfl, Nat.le_of_ble_eq_true rfl⟩) ?_
      refine lv_topi (fun r4 (e4 : r4 = sX_cost n G a1 a2 a3 a4 (nI jL9)) => ?_)
      refine lv_istore (lv' := [(8, .int r4), (7, .int (nI jL9)), (6, .int xL9_6), (5, .int xL9_5), (0, .ref h0), (1, .int a1), (2, .int a2), (3, .int a3), (4, .int a4)]) hx hb dX7_indent_27 hl (by decide) rfl (fun ls hl => ?_)
      refine lv_iload hx hb dX7_indent_29 (lv_at hl 0 rfl) ?_
      refine lv_iconst (v := (-1)) hx hb dX7_indent_31 (by decide) ?_
      refine lv_icmp_eq (tgt := 56) hx hb dX7_indent_32 (by decide) (fun h_5 => ?_) (fun h_5 => ?_)
      · skip
        refine lv_iinc (v := (nI (jL9 + 1))) (lv' := [(7, .int (nI (jL9 + 1))), (8, .int r4), (6, .int xL9_6), (5, .int xL9_5), (0, .ref h0), (1, .int a1), (2, .int a2), (3, .int a3), (4, .int a4)]) hx hb dX7_indent_56 hl (k := 1) rfl (show nI jL9 + 1 = nI (jL9 + 1) from nI_1 jL9) (by decide) rfl (fun ls hl => ?_)
        refine lv_goto (tgt := 9) hx hb dX7_indent_59 (by decide) ?_
        exact ih9 (jL9 + 1) xL9_6 xL9_5 ls (by omega) (by subst e4; exact hE9.trans (if_pos h_5)) (lv_sub hl [0, 2, 3, 4, 5, 6, 7, 8] rfl)
      · skip
        refine lv_iload hx hb dX7_indent_35 (lv_at hl 3 rfl) ?_
        refine lv_iconst (v := (-1)) hx hb dX7_indent_37 (by decide) ?_
        refine lv_icmp_eq (tgt := 48) hx hb dX7_indent_38 (by decide) (fun h_6 => ?_) (fun h_6 => ?_)
        · skip
          refine lv_iload hx hb dX7_indent_48 (lv_at hl 1 rfl) ?_
          refine lv_istore (lv' := [(5, .int (nI jL9)), (8, .int r4), (7, .int (nI jL9)), (6, .int xL9_6), (0, .ref h0), (1, .int a1), (2, .int a2), (3, .int a3), (4, .int a4)]) hx hb dX7_indent_50 hl (by decide) rfl (fun ls hl => ?_)
          refine lv_iload hx hb dX7_indent_52 (lv_at hl 1 rfl) ?_
          refine lv_istore (lv' := [(6, .int r4), (5, .int (nI jL9)), (8, .int r4), (7, .int (nI jL9)), (0, .ref h0), (1, .int a1), (2, .int a2), (3, .int a3), (4, .int a4)]) hx hb dX7_indent_54 hl (by decide) rfl (fun ls hl => ?_)
          refine lv_iinc (v := (nI (jL9 + 1))) (lv' := [(7, .int (nI (jL9 + 1))), (6, .int r4), (5, .int (nI jL9)), (8, .int r4), (0, .ref h0), (1, .int a1), (2, .int a2), (3, .int a3), (4, .int a4)]) hx hb dX7_indent_56 hl (k := 3) rfl (show nI jL9 + 1 = nI (jL9 + 1) from nI_1 jL9) (by decide) rfl (fun ls hl => ?_)
          refine lv_goto (tgt := 9) hx hb dX7_indent_59 (by decide) ?_
          exact ih9 (jL9 + 1) r4 (nI jL9) ls (by omega) (by subst e4; exact hE9.trans ((if_neg h_5).trans (if_pos h_6))) (lv_sub hl [0, 1, 2, 4, 5, 6, 7, 8] rfl)
        · skip
          refine lv_iload hx hb dX7_indent_41 (lv_at hl 0 rfl) ?_
          refine lv_iload hx hb dX7_indent_43 (lv_at hl 2 rfl) ?_
          refine lv_icmp_ge (tgt := 56) hx hb dX7_indent_45 (by decide) (fun h_7 => ?_) (fun h_7 => ?_)
          · skip
            refine lv_iinc (v := (nI (jL9 + 1))) (lv' := [(7, .int (nI (jL9 + 1))), (8, .int r4), (6, .int xL9_6), (5, .int xL9_5), (0, .ref h0), (1, .int a1), (2, .int a2), (3, .int a3), (4, .int a4)]) hx hb dX7_indent_56 hl (k := 1) rfl (show nI jL9 + 1 = nI (jL9 + 1) from nI_1 jL9) (by decide) rfl (fun ls hl => ?_)
            refine lv_goto (tgt := 9) hx hb dX7_indent_59 (by decide) ?_
            exact ih9 (jL9 + 1) xL9_6 xL9_5 ls (by omega) (by subst e4; exact hE9.trans ((if_neg h_5).trans ((if_neg h_6).trans (if_pos h_7)))) (lv_sub hl [0, 2, 3, 4, 5, 6, 7, 8] rfl)
          · skip
            refine lv_iload hx hb dX7_indent_48 (lv_at hl 1 rfl) ?_
            refine lv_istore (lv' := [(5, .int (nI jL9)), (8, .int r4), (7, .int (nI jL9)), (6, .int xL9_6), (0, .ref h0), (1, .int a1), (2, .int a2), (3, .int a3), (4, .int a4)]) hx hb dX7_indent_50 hl (by decide) rfl (fun ls hl => ?_)
            refine lv_iload hx hb dX7_indent_52 (lv_at hl 1 rfl) ?_
            refine lv_istore (lv' := [(6, .int r4), (5, .int (nI jL9)), (8, .int r4), (7, .int (nI jL9)), (0, .ref h0), (1, .int a1), (2, .int a2), (3, .int a3), (4, .int a4)]) hx hb dX7_indent_54 hl (by decide) rfl (fun ls hl => ?_)
            refine lv_iinc (v := (nI (jL9 + 1))) (lv' := [(7, .int (nI (jL9 + 1))), (6, .int r4), (5, .int (nI jL9)), (8, .int r4), (0, .ref h0), (1, .int a1), (2, .int a2), (3, .int a3), (4, .int a4)]) hx hb dX7_indent_56 hl (k := 3) rfl (show nI jL9 + 1 = nI (jL9 + 1) from nI_1 jL9) (by decide) rfl (fun ls hl => ?_)
            refine lv_goto (tgt := 9) hx hb dX7_indent_59 (by decide) ?_
            exact ih9 (jL9 + 1) r4 (nI jL9) ls (by omega) (by subst e4; exact hE9.trans ((if_neg h_5).trans ((if_neg h_6).trans (if_neg h_7)))) (lv_sub hl [0, 1, 2, 4, 5, 6, 7, 8] rfl)
  exact key9 21 0 (-1) (-1) ls (by omega) (by exact rfl) (lv_sub hl [0, 1, 2, 3, 4, 5, 6, 7] rfl)

set_option maxHeartbeats 8000000 in
set_option maxRecDepth 100000 in
theorem k_X7_quarrel (l : Launch) (dC : Nat → ClassId) (dI : Nat → Nat → Nat) (h0 : Nat) (q : Nat → Nat) (cI : ClassId) (cy : Nat → ClassId) (A : Nat → Prop) (ad : Nat → Nat → Nat) (rl : Nat → Nat × Nat) (L : List Nat) (n : Nat → Nat) (G : Nat → Nat → Int32) (hN : nb_ n) (a1 : Int32) (a2 : Int32) : Met l yX7_quarrel wsX7_quarrel ({ frames := 2, cells := 0, slots := 0, locals := 43 }) (va_Pc [.ref h0, .int a1, .int a2] (ct_P (dC, dI) cI cy h0 q A ad rl L n G)) (pu_Q (.int (sX_quarrel n G a1 a2))) 0 0 pu_F := by
  refine Met.ofW (cc := cX7_quarrel) (maxL := 5) (ret := (some .int)) (by decide) rfl ?_
  intro p e s m args below meth c s₁ B hml hv
  obtain ⟨rfl, hC, hK, hW0⟩ := hv
  have hx := B.exec
  have hb := B.bytes
  have hr := B.returns
  have hts := atoms_spec (ws := wsX7_quarrel) B.pre
  have hown : s.vm.findClass RX7 = some m.cls := findClass_of_methodNamed B.named
  have hlocks := B.notSynchronized
  have hinX7 : ∀ w ∈ u_ws RX7 TX7 14, w ∈ wsX7_quarrel := by decide +kernel
  have hl := lv_entry ([.ref h0, .int a1, .int a2]) (n := 5) (Nat.le_of_ble_eq_true rfl)
  rw [lg_entry_eq]
  generalize (lg_sl ([.ref h0, .int a1, .int a2]) ++ List.replicate (5 - (lg_sl ([.ref h0, .int a1, .int a2])).length) Slot.unset).toArray = ls at hl ⊢
  have hl : lv_has ls 5 [(0, .ref h0), (1, .int a1), (2, .int a2)] := hl
  refine lv_aload_n hx hb dX7_quarrel_0 rfl (lv_at hl 0 rfl) ?_
  refine lv_iload_n hx hb dX7_quarrel_1 rfl (lv_at hl 1 rfl) ?_
  refine lv_iload_n hx hb dX7_quarrel_2 rfl (lv_at hl 2 rfl) ?_
  refine pu_call (va_runV (As := [.int a1, .int a2]) (rest := []) ⟨hx, hb, hml, hown, hts⟩ (k_X7_areTwoPosts l dC dI h0 q cI cy A ad rl L n G hN a1 a2) (cwV 2 hts gX7_quarrel_X7_areTwoPosts rfl rfl rfl (by decide +kernel) ⟨Nat.le_of_ble_eq_true rfl, Nat.le_of_ble_eq_true rfl⟩) (ct_pre hC hK hW0) rfl rfl hl.1 rfl (lv_room (Nat.le_of_ble_eq_true rfl)) dX7_quarrel_3 ⟨Nat.le_of_ble_eq_true rfl, Nat.le_of_ble_eq_true rfl⟩) ?_
  refine lv_topi (fun r1 (e1 : r1 = sX_areTwoPosts n G a1 a2) => ?_)
  have hg1 : ¬ r1 = 0 → vp_in a1 8 ∧ vp_in a2 8 := by rw [e1]; exact sX_areTwoPosts_b hN
  refine lv_if_ne (tgt := 11) hx hb dX7_quarrel_6 (by decide) (fun h_2 => ?_) (fun h_2 => ?_)
  · skip
    refine lv_iconst (v := 0) hx hb dX7_quarrel_11 (by decide) ?_
    refine lv_istore_n (lv' := [(3, .int 0), (0, .ref h0), (1, .int a1), (2, .int a2)]) hx hb dX7_quarrel_12 rfl hl (by decide) rfl (fun ls hl => ?_)
    have key13 : ∀ (k jL13 : Nat) (ls : Array Slot), jL13 + k = (n 3) → sX_quarrel n G a1 a2 = (sX_quarrel_L13 n G a1 a2 k jL13) → lv_has ls 5 [(3, .int (nI jL13)), (0, .ref h0), (1, .int a1), (2, .int a2)] → 
        W p l e (headSpec wsX7_quarrel ({ frames := 2, cells := 0, slots := 0, locals := 43 })).room s m [.ref h0, .int a1, .int a2].toArray below meth c s.heap [] 0 0 (MQ below (pu_Q (.int (sX_quarrel n G a1 a2))) [.ref h0, .int a1, .int a2].toArray s 0 0 pu_F) (F0 m 13 ls []) := by
      intro k
      induction k with
      | zero =>
        intro jL13 ls hj hE13 hl
        have hj : jL13 = (n 3) := by omega
        subst jL13
        refine lv_iload_n hx hb dX7_quarrel_13 rfl (lv_at hl 0 rfl) ?_
        refine lv_aload_n hx hb dX7_quarrel_14 rfl (lv_at hl 1 rfl) ?_
        refine cx_get hx hb hts hinX7 hown hK hC 11 (by decide) (v := .int (nI (n 3))) rfl (hts (.fieldLink RX7 113 "FurPosts" "canoeCount" "I") (by decide +kernel)) dX7_quarrel_15 ?_
        refine lv_icmp_ge (tgt := 59) hx hb dX7_quarrel_18 (by decide) (fun h_3 => ?_) (fun h_3 => absurd (lp_ge0 (B := (n 3)) rfl) h_3)
        refine lv_iconst (v := (-1)) hx hb dX7_quarrel_59 (by decide) ?_
        have hq4 : sX_quarrel n G a1 a2 = (-1) := by subst e1; exact hE13
        exact W.iret (v := (-1)) hx hb hr (fun t ht hW => ⟨by rw [hq4], ht⟩) (fun q h => by cases h) dX7_quarrel_60
      | succ k ih13 =>
        intro jL13 ls hj hE13 hl
        have hj13 : jL13 < (n 3) := by omega
        refine lv_iload_n hx hb dX7_quarrel_13 rfl (lv_at hl 0 rfl) ?_
        refine lv_aload_n hx hb dX7_quarrel_14 rfl (lv_at hl 1 rfl) ?_
        refine cx_get hx hb hts hinX7 hown hK hC 11 (by decide) (v := .int (nI (n 3))) rfl (hts (.fieldLink RX7 113 "FurPosts" "canoeCount" "I") (by decide +kernel)) dX7_quarrel_15 ?_
        refine lv_icmp_ge (tgt := 59) hx hb dX7_quarrel_18 (by decide) (fun h_5 => absurd h_5 (lp_ge (B := (n 3)) (by omega) (by omega) rfl)) (fun h_5 => ?_)
        refine lv_aload_n hx hb dX7_quarrel_21 rfl (lv_at hl 1 rfl) ?_
        refine lv_iload_n hx hb dX7_quarrel_22 rfl (lv_at hl 0 rfl) ?_
        refine pu_call (va_runV (As := [.int (nI jL13)]) (rest := []) ⟨hx, hb, hml, hown, hts⟩ (k_X7_canoeAt l dC dI h0 q cI cy A ad rl L n G hN (nI jL13)) (cwV 1 hts gX7_quarrel_X7_canoeAt rfl rfl rfl (by decide +kernel) ⟨Nat.le_of_ble_eq_true rfl, Nat.le_of_ble_eq_true rfl⟩) (ct_pre hC hK hW0) rfl rfl hl.1 rfl (lv_room (Nat.le_of_ble_eq_true rfl)) dX7_quarrel_23 ⟨Nat.le_of_ble_eq_true rfl, Nat.le_of_ble_eq_true rfl⟩) ?_
        rw [if_neg (sp_nIn (show jL13 < n 3 by omega) (by omega)), show (nI jL13).toNatClampNeg = jL13 from nI_clamp (by omega)]
        have hv6 : jL13 < n 3 := by omega
        refine lv_astore (lv' := [(4, .ref (ad 3 jL13)), (3, .int (nI jL13)), (0, .ref h0), (1, .int a1), (2, .int a2)]) hx hb dX7_quarrel_26 hl (by decide) rfl (fun ls hl => ?_)
        refine lv_aload hx hb dX7_quarrel_28 (lv_at hl 0 rfl) ?_
        refine lv_ifnull hx hb dX7_quarrel_30 ?_
        refine lv_aload hx hb dX7_quarrel_33 (lv_at hl 0 rfl) ?_
        refine lv_iload_n hx hb dX7_quarrel_35 rfl (lv_at hl 3 rfl) ?_
        refine lv_iload_n hx hb dX7_quarrel_36 rfl (lv_at hl 4 rfl) ?_
        refine pu_call (va_runV (As := [.int a1, .int a2]) (rest := []) ⟨hx, hb, hml, hown, hts⟩ (k_X0_isBetween l dC dI h0 q cI cy A ad rl L n G hN jL13 hv6 a1 a2) (cwV 2 hts gX7_quarrel_X0_isBetween rfl rfl rfl (by decide +kernel) ⟨Nat.le_of_ble_eq_true rfl, Nat.le_of_ble_eq_true rfl⟩) (ct_preO 3 jL13 (r := (RX0, TX0, 11)) (ci := 0) hC hK hW0 hv6 (fun _ h9 => h9) rfl) rfl rfl hl.1 rfl (lv_room (Nat.le_of_ble_eq_true rfl)) dX7_quarrel_37 ⟨Nat.le_of_ble_eq_true rfl, Nat.le_of_ble_eq_true rfl⟩) ?_
        refine lv_topi (fun r7 (e7 : r7 = sX_Canoe_isBetween n G jL13 a1 a2) => ?_)
        refine lv_if_eq (tgt := 53) hx hb dX7_quarrel_40 (by decide) (fun h_8 => ?_) (fun h_8 => ?_)
        · skip
          refine lv_iinc (v := (nI (jL13 + 1))) (lv' := [(3, .int (nI (jL13 + 1))), (4, .ref (ad 3 jL13)), (0, .ref h0), (1, .int a1), (2, .int a2)]) hx hb dX7_quarrel_53 hl (k := 1) rfl (show nI jL13 + 1 = nI (jL13 + 1) from nI_1 jL13) (by decide) rfl (fun ls hl => ?_)
          refine lv_goto (tgt := 13) hx hb dX7_quarrel_56 (by decide) ?_
          exact ih13 (jL13 + 1) ls (by omega) (by subst e7 e1; exact hE13.trans (if_pos h_8)) (lv_sub hl [0, 2, 3, 4] rfl)
        · skip
          refine lv_aload hx hb dX7_quarrel_43 (lv_at hl 0 rfl) ?_
          refine pu_call (va_runV (As := []) (rest := []) ⟨hx, hb, hml, hown, hts⟩ (k_X0_partsBooks l dC dI h0 q cI cy A ad rl L n G hN jL13 hv6 ) (cwV 0 hts gX7_quarrel_X0_partsBooks rfl rfl rfl (by decide +kernel) ⟨Nat.le_of_ble_eq_true rfl, Nat.le_of_ble_eq_true rfl⟩) (ct_preO 3 jL13 (r := (RX0, TX0, 11)) (ci := 0) hC hK hW0 hv6 (fun _ h9 => h9) rfl) rfl rfl hl.1 rfl (lv_room (Nat.le_of_ble_eq_true rfl)) dX7_quarrel_45 ⟨Nat.le_of_ble_eq_true rfl, Nat.le_of_ble_eq_true rfl⟩) ?_
          refine lv_topi (fun r9 (e9 : r9 = sX_Canoe_partsBooks n G jL13) => ?_)
          refine lv_if_eq (tgt := 53) hx hb dX7_quarrel_48 (by decide) (fun h_10 => ?_) (fun h_10 => ?_)
          · skip
            refine lv_iinc (v := (nI (jL13 + 1))) (lv' := [(3, .int (nI (jL13 + 1))), (4, .ref (ad 3 jL13)), (0, .ref h0), (1, .int a1), (2, .int a2)]) hx hb dX7_quarrel_53 hl (k := 1) rfl (show nI jL13 + 1 = nI (jL13 + 1) from nI_1 jL13) (by decide) rfl (fun ls hl => ?_)
            refine lv_goto (tgt := 13) hx hb dX7_quarrel_56 (by decide) ?_
            exact ih13 (jL13 + 1) ls (by omega) (by subst e9 e7 e1; exact hE13.trans ((if_neg h_8).trans (if_pos h_10))) (lv_sub hl [0, 2, 3, 4] rfl)
          · skip
            refine lv_iload_n hx hb dX7_quarrel_51 rfl (lv_at hl 1 rfl) ?_
            have hq11 : sX_quarrel n G a1 a2 = (nI jL13) := by subst e9 e7 e1; exact hE13.trans ((if_neg h_8).trans (if_neg h_10))
            exact W.iret (v := (nI jL13)) hx hb hr (fun t ht hW => ⟨by rw [hq11], ht⟩) (fun q h => by cases h) dX7_quarrel_52
    exact key13 (n 3) 0 ls (by omega) (by subst e1; exact (if_neg h_2)) (lv_sub hl [0, 1, 2, 3] rfl)
  · skip
    refine lv_iconst (v := (-1)) hx hb dX7_quarrel_9 (by decide) ?_
    have hq12 : sX_quarrel n G a1 a2 = (-1) := by subst e1; exact (if_pos h_2)
    exact W.iret (v := (-1)) hx hb hr (fun t ht hW => ⟨by rw [hq12], ht⟩) (fun q h => by cases h) dX7_quarrel_10

set_option maxHeartbeats 8000000 in
set_option maxRecDepth 100000 in
theorem k_X7_canoe (l : Launch) (dC : Nat → ClassId) (dI : Nat → Nat → Nat) (h0 : Nat) (q : Nat → Nat) (cI : ClassId) (cy : Nat → ClassId) (A : Nat → Prop) (ad : Nat → Nat → Nat) (rl : Nat → Nat × Nat) (L : List Nat) (n : Nat → Nat) (G : Nat → Nat → Int32) (hN : nb_ n) (a1 : Int32) (a2 : Int32) : Met l yX7_canoe wsX7_canoe ({ frames := 1, cells := 0, slots := 0, locals := 21 }) (va_Pc [.ref h0, .int a1, .int a2] (ct_P (dC, dI) cI cy h0 q A ad rl L n G)) (pu_Q (.int (sX_canoe n G a1 a2))) 0 0 pu_F := by
  refine Met.ofW (cc := cX7_canoe) (maxL := 4) (ret := (some .int)) (by decide) rfl ?_
  intro p e s m args below meth c s₁ B hml hv
  obtain ⟨rfl, hC, hK, hW0⟩ := hv
  have hx := B.exec
  have hb := B.bytes
  have hr := B.returns
  have hts := atoms_spec (ws := wsX7_canoe) B.pre
  have hown : s.vm.findClass RX7 = some m.cls := findClass_of_methodNamed B.named
  have hlocks := B.notSynchronized
  have hinX0 : ∀ w ∈ u_ws RX0 TX0 11, w ∈ wsX7_canoe := by decide +kernel
  have hl := lv_entry ([.ref h0, .int a1, .int a2]) (n := 4) (Nat.le_of_ble_eq_true rfl)
  rw [lg_entry_eq]
  generalize (lg_sl ([.ref h0, .int a1, .int a2]) ++ List.replicate (4 - (lg_sl ([.ref h0, .int a1, .int a2])).length) Slot.unset).toArray = ls at hl ⊢
  have hl : lv_has ls 4 [(0, .ref h0), (1, .int a1), (2, .int a2)] := hl
  refine lv_aload_n hx hb dX7_canoe_0 rfl (lv_at hl 0 rfl) ?_
  refine lv_iload_n hx hb dX7_canoe_1 rfl (lv_at hl 1 rfl) ?_
  refine pu_call (va_runV (As := [.int a1]) (rest := []) ⟨hx, hb, hml, hown, hts⟩ (k_X7_canoeAt l dC dI h0 q cI cy A ad rl L n G hN a1) (cwV 1 hts gX7_canoe_X7_canoeAt rfl rfl rfl (by decide +kernel) ⟨Nat.le_of_ble_eq_true rfl, Nat.le_of_ble_eq_true rfl⟩) (ct_pre hC hK hW0) rfl rfl hl.1 rfl (lv_room (Nat.le_of_ble_eq_true rfl)) dX7_canoe_2 ⟨Nat.le_of_ble_eq_true rfl, Nat.le_of_ble_eq_true rfl⟩) ?_
  by_cases h_1 : (sp_in a1 0 ((nI (n 3)) - 1)) = 0
  · rw [if_pos h_1]
    refine lv_astore_nN (lv' := [(3, .null), (0, .ref h0), (1, .int a1), (2, .int a2)]) hx hb dX7_canoe_5 rfl hl (by decide) rfl (fun ls hl => ?_)
    refine lv_aload_nN hx hb dX7_canoe_6 rfl (lv_at hl 0 rfl) ?_
    refine lv_ifnonnullN hx hb dX7_canoe_7 ?_
    refine lv_iconst (v := (-1)) hx hb dX7_canoe_10 (by decide) ?_
    have hq2 : sX_canoe n G a1 a2 = (-1) := by exact (if_pos h_1)
    exact W.iret (v := (-1)) hx hb hr (fun t ht hW => ⟨by rw [hq2], ht⟩) (fun q h => by cases h) dX7_canoe_11
  · rw [if_neg h_1]
    have hv1 := sp_live h_1 (by omega)
    refine lv_astore_n (lv' := [(3, .ref (ad 3 a1.toNatClampNeg)), (0, .ref h0), (1, .int a1), (2, .int a2)]) hx hb dX7_canoe_5 rfl hl (by decide) rfl (fun ls hl => ?_)
    refine lv_aload_n hx hb dX7_canoe_6 rfl (lv_at hl 0 rfl) ?_
    refine lv_ifnonnull (tgt := 12) hx hb dX7_canoe_7 (by decide) ?_
    refine lv_iload_n hx hb dX7_canoe_12 rfl (lv_at hl 3 rfl) ?_
    refine lv_bipush (v := 10) hx hb dX7_canoe_13 (by decide) ?_
    refine lv_isub hx hb dX7_canoe_15 ?_
    refine pu_call (va_runS (As := [.int (a2 - 10)]) (rest := []) ⟨hx, hb, hml, hown, hts⟩ (c_X7_isWare l (a2 - 10)) (va_cwS 1 hts gX7_canoe_X7_isWare rfl rfl rfl (by decide +kernel) ⟨Nat.le_of_ble_eq_true rfl, Nat.le_of_ble_eq_true rfl⟩) pu_preS rfl rfl hl.1 rfl (lv_room (Nat.le_of_ble_eq_true rfl)) dX7_canoe_16 ⟨Nat.le_of_ble_eq_true rfl, Nat.le_of_ble_eq_true rfl⟩) ?_
    refine lv_if_eq (tgt := 32) hx hb dX7_canoe_19 (by decide) (fun h_3 => ?_) (fun h_3 => ?_)
    · skip
      refine lv_iload_n hx hb dX7_canoe_32 rfl (lv_at hl 3 rfl) ?_
      refine lv_bipush (v := 20) hx hb dX7_canoe_33 (by decide) ?_
      refine lv_isub hx hb dX7_canoe_35 ?_
      refine pu_call (va_runS (As := [.int (a2 - 20)]) (rest := []) ⟨hx, hb, hml, hown, hts⟩ (c_X7_isWare l (a2 - 20)) (va_cwS 1 hts gX7_canoe_X7_isWare rfl rfl rfl (by decide +kernel) ⟨Nat.le_of_ble_eq_true rfl, Nat.le_of_ble_eq_true rfl⟩) pu_preS rfl rfl hl.1 rfl (lv_room (Nat.le_of_ble_eq_true rfl)) dX7_canoe_36 ⟨Nat.le_of_ble_eq_true rfl, Nat.le_of_ble_eq_true rfl⟩) ?_
      refine lv_if_eq (tgt := 52) hx hb dX7_canoe_39 (by decide) (fun h_4 => ?_) (fun h_4 => ?_)
      · skip
        refine lv_iload_n hx hb dX7_canoe_52 rfl (lv_at hl 3 rfl) ?_
        rcases (Decidable.em (a2 = 0)) with q_5 | q_5
        · refine lv_tableIn (off := 47) (tgt := 100) hx hb dX7_canoe_53 (by rw [q_5]; decide) (by rw [q_5]; decide) (by rw [q_5]; rfl) (by decide) ?_
          refine lv_aload_n hx hb dX7_canoe_100 rfl (lv_at hl 0 rfl) ?_
          refine co_get 3 a1.toNatClampNeg (C := RX0) (T := TX0) (N := 11) (ci := 0) (v := .int (G 14 a1.toNatClampNeg)) hx hb hts hinX0 hown hK hC hv1 (fun _ h9 => h9) rfl 0 (by decide) (hts (.fieldLink RX7 175 "FurPosts$Canoe" "from" "I") (by decide +kernel)) (fun _ h9 => h9) rfl dX7_canoe_101 ?_
          refine lv_topi (fun v6 (e6 : v6 = G 14 a1.toNatClampNeg) => ?_)
          have hq7 : sX_canoe n G a1 a2 = v6 := by subst e6; exact (if_neg h_1).trans ((if_pos h_3).trans ((if_pos h_4).trans (if_pos q_5)))
          exact W.iret (v := v6) hx hb hr (fun t ht hW => ⟨by rw [hq7], ht⟩) (fun q h => by cases h) dX7_canoe_104
        rcases (Decidable.em (a2 = 1)) with q_8 | q_8
        · refine lv_tableIn (off := 52) (tgt := 105) hx hb dX7_canoe_53 (by rw [q_8]; decide) (by rw [q_8]; decide) (by rw [q_8]; rfl) (by decide) ?_
          refine lv_aload_n hx hb dX7_canoe_105 rfl (lv_at hl 0 rfl) ?_
          refine co_get 3 a1.toNatClampNeg (C := RX0) (T := TX0) (N := 11) (ci := 0) (v := .int (G 15 a1.toNatClampNeg)) hx hb hts hinX0 hown hK hC hv1 (fun _ h9 => h9) rfl 1 (by decide) (hts (.fieldLink RX7 184 "FurPosts$Canoe" "to" "I") (by decide +kernel)) (fun _ h9 => h9) rfl dX7_canoe_106 ?_
          refine lv_topi (fun v9 (e9 : v9 = G 15 a1.toNatClampNeg) => ?_)
          have hq10 : sX_canoe n G a1 a2 = v9 := by subst e9; exact (if_neg h_1).trans ((if_pos h_3).trans ((if_pos h_4).trans ((if_neg q_5).trans (if_pos q_8))))
          exact W.iret (v := v9) hx hb hr (fun t ht hW => ⟨by rw [hq10], ht⟩) (fun q h => by cases h) dX7_canoe_109
        rcases (Decidable.em (a2 = 2)) with q_11 | q_11
        · refine lv_tableIn (off := 57) (tgt := 110) hx hb dX7_canoe_53 (by rw [q_11]; decide) (by rw [q_11]; decide) (by rw [q_11]; rfl) (by decide) ?_
          refine lv_aload_n hx hb dX7_canoe_110 rfl (lv_at hl 0 rfl) ?_
          refine co_get 3 a1.toNatClampNeg (C := RX0) (T := TX0) (N := 11) (ci := 0) (v := .int (G 16 a1.toNatClampNeg)) hx hb hts hinX0 hown hK hC hv1 (fun _ h9 => h9) rfl 2 (by decide) (hts (.fieldLink RX7 193 "FurPosts$Canoe" "way" "I") (by decide +kernel)) (fun _ h9 => h9) rfl dX7_canoe_111 ?_
          refine lv_topi (fun v12 (e12 : v12 = G 16 a1.toNatClampNeg) => ?_)
          have hq13 : sX_canoe n G a1 a2 = v12 := by subst e12; exact (if_neg h_1).trans ((if_pos h_3).trans ((if_pos h_4).trans ((if_neg q_5).trans ((if_neg q_8).trans (if_pos q_11)))))
          exact W.iret (v := v12) hx hb hr (fun t ht hW => ⟨by rw [hq13], ht⟩) (fun q h => by cases h) dX7_canoe_114
        rcases (Decidable.em (a2 = 3)) with q_14 | q_14
        · refine lv_tableIn (off := 62) (tgt := 115) hx hb dX7_canoe_53 (by rw [q_14]; decide) (by rw [q_14]; decide) (by rw [q_14]; rfl) (by decide) ?_
          refine lv_aload_n hx hb dX7_canoe_115 rfl (lv_at hl 0 rfl) ?_
          refine co_get 3 a1.toNatClampNeg (C := RX0) (T := TX0) (N := 11) (ci := 0) (v := .int (G 17 a1.toNatClampNeg)) hx hb hts hinX0 hown hK hC hv1 (fun _ h9 => h9) rfl 7 (by decide) (hts (.fieldLink RX7 145 "FurPosts$Canoe" "daysToGo" "I") (by decide +kernel)) (fun _ h9 => h9) rfl dX7_canoe_116 ?_
          refine lv_topi (fun v15 (e15 : v15 = G 17 a1.toNatClampNeg) => ?_)
          have hq16 : sX_canoe n G a1 a2 = v15 := by subst e15; exact (if_neg h_1).trans ((if_pos h_3).trans ((if_pos h_4).trans ((if_neg q_5).trans ((if_neg q_8).trans ((if_neg q_11).trans (if_pos q_14))))))
          exact W.iret (v := v15) hx hb hr (fun t ht hW => ⟨by rw [hq16], ht⟩) (fun q h => by cases h) dX7_canoe_119
        rcases (Decidable.em (a2 = 4)) with q_17 | q_17
        · refine lv_tableIn (off := 67) (tgt := 120) hx hb dX7_canoe_53 (by rw [q_17]; decide) (by rw [q_17]; decide) (by rw [q_17]; rfl) (by decide) ?_
          refine lv_aload_n hx hb dX7_canoe_120 rfl (lv_at hl 0 rfl) ?_
          refine co_get 3 a1.toNatClampNeg (C := RX0) (T := TX0) (N := 11) (ci := 0) (v := .int (G 18 a1.toNatClampNeg)) hx hb hts hinX0 hown hK hC hv1 (fun _ h9 => h9) rfl 9 (by decide) (hts (.fieldLink RX7 142 "FurPosts$Canoe" "state" "I") (by decide +kernel)) (fun _ h9 => h9) rfl dX7_canoe_121 ?_
          refine lv_topi (fun v18 (e18 : v18 = G 18 a1.toNatClampNeg) => ?_)
          have hq19 : sX_canoe n G a1 a2 = v18 := by subst e18; exact (if_neg h_1).trans ((if_pos h_3).trans ((if_pos h_4).trans ((if_neg q_5).trans ((if_neg q_8).trans ((if_neg q_11).trans ((if_neg q_14).trans (if_pos q_17)))))))
          exact W.iret (v := v18) hx hb hr (fun t ht hW => ⟨by rw [hq19], ht⟩) (fun q h => by cases h) dX7_canoe_124
        rcases (Decidable.em (a2 = 5)) with q_20 | q_20
        · refine lv_tableIn (off := 72) (tgt := 125) hx hb dX7_canoe_53 (by rw [q_20]; decide) (by rw [q_20]; decide) (by rw [q_20]; rfl) (by decide) ?_
          refine lv_aload_n hx hb dX7_canoe_125 rfl (lv_at hl 0 rfl) ?_
          refine co_get 3 a1.toNatClampNeg (C := RX0) (T := TX0) (N := 11) (ci := 0) (v := .int (G 19 a1.toNatClampNeg)) hx hb hts hinX0 hown hK hC hv1 (fun _ h9 => h9) rfl 3 (by decide) (hts (.fieldLink RX7 267 "FurPosts$Canoe" "daySent" "I") (by decide +kernel)) (fun _ h9 => h9) rfl dX7_canoe_126 ?_
          refine lv_topi (fun v21 (e21 : v21 = G 19 a1.toNatClampNeg) => ?_)
          have hq22 : sX_canoe n G a1 a2 = v21 := by subst e21; exact (if_neg h_1).trans ((if_pos h_3).trans ((if_pos h_4).trans ((if_neg q_5).trans ((if_neg q_8).trans ((if_neg q_11).trans ((if_neg q_14).trans ((if_neg q_17).trans (if_pos q_20))))))))
          exact W.iret (v := v21) hx hb hr (fun t ht hW => ⟨by rw [hq22], ht⟩) (fun q h => by cases h) dX7_canoe_129
        rcases (Decidable.em (a2 = 6)) with q_23 | q_23
        · refine lv_tableIn (off := 77) (tgt := 130) hx hb dX7_canoe_53 (by rw [q_23]; decide) (by rw [q_23]; decide) (by rw [q_23]; rfl) (by decide) ?_
          refine lv_aload_n hx hb dX7_canoe_130 rfl (lv_at hl 0 rfl) ?_
          refine co_get 3 a1.toNatClampNeg (C := RX0) (T := TX0) (N := 11) (ci := 0) (v := .int (G 20 a1.toNatClampNeg)) hx hb hts hinX0 hown hK hC hv1 (fun _ h9 => h9) rfl 8 (by decide) (hts (.fieldLink RX7 204 "FurPosts$Canoe" "dayCame" "I") (by decide +kernel)) (fun _ h9 => h9) rfl dX7_canoe_131 ?_
          refine lv_topi (fun v24 (e24 : v24 = G 20 a1.toNatClampNeg) => ?_)
          have hq25 : sX_canoe n G a1 a2 = v24 := by subst e24; exact (if_neg h_1).trans ((if_pos h_3).trans ((if_pos h_4).trans ((if_neg q_5).trans ((if_neg q_8).trans ((if_neg q_11).trans ((if_neg q_14).trans ((if_neg q_17).trans ((if_neg q_20).trans (if_pos q_23)))))))))
          exact W.iret (v := v24) hx hb hr (fun t ht hW => ⟨by rw [hq25], ht⟩) (fun q h => by cases h) dX7_canoe_134
        rcases (Decidable.em (a2 = 7)) with q_26 | q_26
        · refine lv_tableIn (off := 82) (tgt := 135) hx hb dX7_canoe_53 (by rw [q_26]; decide) (by rw [q_26]; decide) (by rw [q_26]; rfl) (by decide) ?_
          refine lv_aload_n hx hb dX7_canoe_135 rfl (lv_at hl 0 rfl) ?_
          refine co_get 3 a1.toNatClampNeg (C := RX0) (T := TX0) (N := 11) (ci := 0) (v := .int (G 21 a1.toNatClampNeg)) hx hb hts hinX0 hown hK hC hv1 (fun _ h9 => h9) rfl 6 (by decide) (hts (.fieldLink RX7 135 "FurPosts$Canoe" "lettersSent" "I") (by decide +kernel)) (fun _ h9 => h9) rfl dX7_canoe_136 ?_
          refine lv_topi (fun v27 (e27 : v27 = G 21 a1.toNatClampNeg) => ?_)
          have hq28 : sX_canoe n G a1 a2 = v27 := by subst e27; exact (if_neg h_1).trans ((if_pos h_3).trans ((if_pos h_4).trans ((if_neg q_5).trans ((if_neg q_8).trans ((if_neg q_11).trans ((if_neg q_14).trans ((if_neg q_17).trans ((if_neg q_20).trans ((if_neg q_23).trans (if_pos q_26))))))))))
          exact W.iret (v := v27) hx hb hr (fun t ht hW => ⟨by rw [hq28], ht⟩) (fun q h => by cases h) dX7_canoe_139
        refine lv_tableOut (tgt := 140) hx hb dX7_canoe_53 (by have j_0 := sw_n (n := 0) (k := 0) q_5 (by decide); have j_1 := sw_n (n := 1) (k := 1) q_8 (by decide); have j_2 := sw_n (n := 2) (k := 2) q_11 (by decide); have j_3 := sw_n (n := 3) (k := 3) q_14 (by decide); have j_4 := sw_n (n := 4) (k := 4) q_17 (by decide); have j_5 := sw_n (n := 5) (k := 5) q_20 (by decide); have j_6 := sw_n (n := 6) (k := 6) q_23 (by decide); have j_7 := sw_n (n := 7) (k := 7) q_26 (by decide); omega) (by decide) ?_
        refine lv_iconst (v := (-1)) hx hb dX7_canoe_140 (by decide) ?_
        have hq29 : sX_canoe n G a1 a2 = (-1) := by exact (if_neg h_1).trans ((if_pos h_3).trans ((if_pos h_4).trans ((if_neg q_5).trans ((if_neg q_8).trans ((if_neg q_11).trans ((if_neg q_14).trans ((if_neg q_17).trans ((if_neg q_20).trans ((if_neg q_23).trans (if_neg q_26))))))))))
        exact W.iret (v := (-1)) hx hb hr (fun t ht hW => ⟨by rw [hq29], ht⟩) (fun q h => by cases h) dX7_canoe_141
      · skip
        refine lv_aload_n hx hb dX7_canoe_42 rfl (lv_at hl 0 rfl) ?_
        refine co_get 3 a1.toNatClampNeg (C := RX0) (T := TX0) (N := 11) (ci := 0) (v := .ref (ad 9 a1.toNatClampNeg)) hx hb hts hinX0 hown hK hC hv1 (fun _ h9 => h9) rfl 4 (by decide) (hts (.fieldLink RX7 264 "FurPosts$Canoe" "waresSent" "[I") (by decide +kernel)) (fun _ h9 => h9) rfl dX7_canoe_43 ?_
        refine lv_iload_n hx hb dX7_canoe_46 rfl (lv_at hl 3 rfl) ?_
        refine lv_bipush (v := 20) hx hb dX7_canoe_47 (by decide) ?_
        refine lv_isub hx hb dX7_canoe_49 ?_
        refine ci_ald 9 a1.toNatClampNeg hx hb hK hC hv1 (by decide) (w := (a2 - 20)) (sp_vp h_4 rfl) dX7_canoe_50 ?_
        refine lv_topi (fun v30 (e30 : v30 = G 23 (6 * a1.toNatClampNeg + (a2 - 20).toNatClampNeg)) => ?_)
        have hq31 : sX_canoe n G a1 a2 = v30 := by subst e30; exact (if_neg h_1).trans ((if_pos h_3).trans (if_neg h_4))
        exact W.iret (v := v30) hx hb hr (fun t ht hW => ⟨by rw [hq31], ht⟩) (fun q h => by cases h) dX7_canoe_51
    · skip
      refine lv_aload_n hx hb dX7_canoe_22 rfl (lv_at hl 0 rfl) ?_
      refine co_get 3 a1.toNatClampNeg (C := RX0) (T := TX0) (N := 11) (ci := 0) (v := .ref (ad 10 a1.toNatClampNeg)) hx hb hts hinX0 hown hK hC hv1 (fun _ h9 => h9) rfl 5 (by decide) (hts (.fieldLink RX7 148 "FurPosts$Canoe" "wares" "[I") (by decide +kernel)) (fun _ h9 => h9) rfl dX7_canoe_23 ?_
      refine lv_iload_n hx hb dX7_canoe_26 rfl (lv_at hl 3 rfl) ?_
      refine lv_bipush (v := 10) hx hb dX7_canoe_27 (by decide) ?_
      refine lv_isub hx hb dX7_canoe_29 ?_
      refine ci_ald 10 a1.toNatClampNeg hx hb hK hC hv1 (by decide) (w := (a2 - 10)) (sp_vp h_3 rfl) dX7_canoe_30 ?_
      refine lv_topi (fun v32 (e32 : v32 = G 22 (6 * a1.toNatClampNeg + (a2 - 10).toNatClampNeg)) => ?_)
      have hq33 : sX_canoe n G a1 a2 = v32 := by subst e32; exact (if_neg h_1).trans (if_neg h_3)
      exact W.iret (v := v32) hx hb hr (fun t ht hW => ⟨by rw [hq33], ht⟩) (fun q h => by cases h) dX7_canoe_31

set_option maxHeartbeats 8000000 in
set_option maxRecDepth 100000 in
theorem k_X7_told (l : Launch) (dC : Nat → ClassId) (dI : Nat → Nat → Nat) (h0 : Nat) (q : Nat → Nat) (cI : ClassId) (cy : Nat → ClassId) (A : Nat → Prop) (ad : Nat → Nat → Nat) (rl : Nat → Nat × Nat) (L : List Nat) (n : Nat → Nat) (G : Nat → Nat → Int32) (hN : nb_ n) (a1 : Int32) (a2 : Int32) : Met l yX7_told wsX7_told ({ frames := 2, cells := 0, slots := 0, locals := 45 }) (va_Pc [.ref h0, .int a1, .int a2] (ct_P (dC, dI) cI cy h0 q A ad rl L n G)) (pu_Q (.int (sX_told n G a1 a2))) 0 0 pu_F := by
  refine Met.ofW (cc := cX7_told) (maxL := 4) (ret := (some .int)) (by decide) rfl ?_
  intro p e s m args below meth c s₁ B hml hv
  obtain ⟨rfl, hC, hK, hW0⟩ := hv
  have hx := B.exec
  have hb := B.bytes
  have hr := B.returns
  have hts := atoms_spec (ws := wsX7_told) B.pre
  have hown : s.vm.findClass RX7 = some m.cls := findClass_of_methodNamed B.named
  have hlocks := B.notSynchronized
  have hinX4 : ∀ w ∈ u_ws RX4 TX4 4, w ∈ wsX7_told := by decide +kernel
  have hl := lv_entry ([.ref h0, .int a1, .int a2]) (n := 4) (Nat.le_of_ble_eq_true rfl)
  rw [lg_entry_eq]
  generalize (lg_sl ([.ref h0, .int a1, .int a2]) ++ List.replicate (4 - (lg_sl ([.ref h0, .int a1, .int a2])).length) Slot.unset).toArray = ls at hl ⊢
  have hl : lv_has ls 4 [(0, .ref h0), (1, .int a1), (2, .int a2)] := hl
  refine lv_aload_n hx hb dX7_told_0 rfl (lv_at hl 0 rfl) ?_
  refine lv_iload_n hx hb dX7_told_1 rfl (lv_at hl 1 rfl) ?_
  refine pu_call (va_runV (As := [.int a1]) (rest := []) ⟨hx, hb, hml, hown, hts⟩ (k_X7_postAt l dC dI h0 q cI cy A ad rl L n G hN a1) (cwV 1 hts gX7_told_X7_postAt rfl rfl rfl (by decide +kernel) ⟨Nat.le_of_ble_eq_true rfl, Nat.le_of_ble_eq_true rfl⟩) (ct_pre hC hK hW0) rfl rfl hl.1 rfl (lv_room (Nat.le_of_ble_eq_true rfl)) dX7_told_2 ⟨Nat.le_of_ble_eq_true rfl, Nat.le_of_ble_eq_true rfl⟩) ?_
  by_cases h_1 : (sp_in a1 0 ((nI (n 1)) - 1)) = 0
  · rw [if_pos h_1]
    refine lv_astore_nN (lv' := [(3, .null), (0, .ref h0), (1, .int a1), (2, .int a2)]) hx hb dX7_told_5 rfl hl (by decide) rfl (fun ls hl => ?_)
    refine lv_aload_nN hx hb dX7_told_6 rfl (lv_at hl 0 rfl) ?_
    refine lv_ifnonnullN hx hb dX7_told_7 ?_
    refine lv_iconst (v := (-1)) hx hb dX7_told_10 (by decide) ?_
    have hq2 : sX_told n G a1 a2 = (-1) := by exact (if_pos h_1)
    exact W.iret (v := (-1)) hx hb hr (fun t ht hW => ⟨by rw [hq2], ht⟩) (fun q h => by cases h) dX7_told_11
  · rw [if_neg h_1]
    have hv1 := sp_live h_1 (by omega)
    refine lv_astore_n (lv' := [(3, .ref (ad 1 a1.toNatClampNeg)), (0, .ref h0), (1, .int a1), (2, .int a2)]) hx hb dX7_told_5 rfl hl (by decide) rfl (fun ls hl => ?_)
    refine lv_aload_n hx hb dX7_told_6 rfl (lv_at hl 0 rfl) ?_
    refine lv_ifnonnull (tgt := 12) hx hb dX7_told_7 (by decide) ?_
    refine lv_iload_n hx hb dX7_told_12 rfl (lv_at hl 3 rfl) ?_
    refine pu_call (va_runS (As := [.int a2]) (rest := []) ⟨hx, hb, hml, hown, hts⟩ (c_X7_isWare l a2) (va_cwS 1 hts gX7_told_X7_isWare rfl rfl rfl (by decide +kernel) ⟨Nat.le_of_ble_eq_true rfl, Nat.le_of_ble_eq_true rfl⟩) pu_preS rfl rfl hl.1 rfl (lv_room (Nat.le_of_ble_eq_true rfl)) dX7_told_13 ⟨Nat.le_of_ble_eq_true rfl, Nat.le_of_ble_eq_true rfl⟩) ?_
    refine lv_if_eq (tgt := 26) hx hb dX7_told_16 (by decide) (fun h_3 => ?_) (fun h_3 => ?_)
    · skip
      refine lv_iload_n hx hb dX7_told_26 rfl (lv_at hl 3 rfl) ?_
      rcases (Decidable.em (a2 = 6)) with q_4 | q_4
      · refine lv_lookup (off := 25) (tgt := 52) hx hb dX7_told_27 (by decide) (by rw [q_4]; decide) (by decide) ?_
        refine lv_aload_n hx hb dX7_told_52 rfl (lv_at hl 1 rfl) ?_
        refine lv_iload_n hx hb dX7_told_53 rfl (lv_at hl 2 rfl) ?_
        refine pu_call (va_runV (As := [.int a1]) (rest := []) ⟨hx, hb, hml, hown, hts⟩ (k_X7_countBag l dC dI h0 q cI cy A ad rl L n G hN a1) (cwV 1 hts gX7_told_X7_countBag rfl rfl rfl (by decide +kernel) ⟨Nat.le_of_ble_eq_true rfl, Nat.le_of_ble_eq_true rfl⟩) (ct_pre hC hK hW0) rfl rfl hl.1 rfl (lv_room (Nat.le_of_ble_eq_true rfl)) dX7_told_54 ⟨Nat.le_of_ble_eq_true rfl, Nat.le_of_ble_eq_true rfl⟩) ?_
        refine lv_topi (fun r5 (e5 : r5 = sX_countBag n G a1) => ?_)
        have hq6 : sX_told n G a1 a2 = r5 := by subst e5; exact (if_neg h_1).trans ((if_pos h_3).trans (if_pos q_4))
        exact W.iret (v := r5) hx hb hr (fun t ht hW => ⟨by rw [hq6], ht⟩) (fun q h => by cases h) dX7_told_57
      rcases (Decidable.em (a2 = 7)) with q_7 | q_7
      · refine lv_lookup (off := 31) (tgt := 58) hx hb dX7_told_27 (by decide) (by rw [q_7]; decide) (by decide) ?_
        refine lv_aload_n hx hb dX7_told_58 rfl (lv_at hl 0 rfl) ?_
        refine pu_call (va_runV (As := []) (rest := []) ⟨hx, hb, hml, hown, hts⟩ (k_X4_owedByAll l dC dI h0 q cI cy A ad rl L n G hN a1.toNatClampNeg hv1 ) (cwV 0 hts gX7_told_X4_owedByAll rfl rfl rfl (by decide +kernel) ⟨Nat.le_of_ble_eq_true rfl, Nat.le_of_ble_eq_true rfl⟩) (ct_preO 1 a1.toNatClampNeg (r := (RX4, TX4, 4)) (ci := 3) hC hK hW0 hv1 (fun _ h9 => h9) rfl) rfl rfl hl.1 rfl (lv_room (Nat.le_of_ble_eq_true rfl)) dX7_told_59 ⟨Nat.le_of_ble_eq_true rfl, Nat.le_of_ble_eq_true rfl⟩) ?_
        refine lv_topi (fun r8 (e8 : r8 = sX_Post_owedByAll n G a1.toNatClampNeg) => ?_)
        have hq9 : sX_told n G a1 a2 = r8 := by subst e8; exact (if_neg h_1).trans ((if_pos h_3).trans ((if_neg q_4).trans (if_pos q_7)))
        exact W.iret (v := r8) hx hb hr (fun t ht hW => ⟨by rw [hq9], ht⟩) (fun q h => by cases h) dX7_told_62
      refine lv_lookup (off := 36) (tgt := 63) hx hb dX7_told_27 (by decide) (by have j_0 := sw_n (n := 6) (k := 6) q_4 (by decide); have j_1 := sw_n (n := 7) (k := 7) q_7 (by decide); simp [Op.lookupswitch.offset, j_0, j_1, Ne.symm j_0, Ne.symm j_1]) (by decide) ?_
      refine lv_iconst (v := (-1)) hx hb dX7_told_63 (by decide) ?_
      have hq10 : sX_told n G a1 a2 = (-1) := by exact (if_neg h_1).trans ((if_pos h_3).trans ((if_neg q_4).trans (if_neg q_7)))
      exact W.iret (v := (-1)) hx hb hr (fun t ht hW => ⟨by rw [hq10], ht⟩) (fun q h => by cases h) dX7_told_64
    · skip
      refine lv_aload_n hx hb dX7_told_19 rfl (lv_at hl 0 rfl) ?_
      refine co_get 1 a1.toNatClampNeg (C := RX4) (T := TX4) (N := 4) (ci := 3) (v := .ref (ad 5 a1.toNatClampNeg)) hx hb hts hinX4 hown hK hC hv1 (fun _ h9 => h9) rfl 0 (by decide) (hts (.fieldLink RX7 92 "FurPosts$Post" "stock" "[I") (by decide +kernel)) (fun _ h9 => h9) rfl dX7_told_20 ?_
      refine lv_iload_n hx hb dX7_told_23 rfl (lv_at hl 3 rfl) ?_
      refine ci_ald 5 a1.toNatClampNeg hx hb hK hC hv1 (by decide) (w := a2) (sp_vp h_3 rfl) dX7_told_24 ?_
      refine lv_topi (fun v11 (e11 : v11 = G 2 (6 * a1.toNatClampNeg + a2.toNatClampNeg)) => ?_)
      have hq12 : sX_told n G a1 a2 = v11 := by subst e11; exact (if_neg h_1).trans (if_neg h_3)
      exact W.iret (v := v11) hx hb hr (fun t ht hW => ⟨by rw [hq12], ht⟩) (fun q h => by cases h) dX7_told_25

set_option maxHeartbeats 8000000 in
set_option maxRecDepth 100000 in
theorem k_X7_count (l : Launch) (dC : Nat → ClassId) (dI : Nat → Nat → Nat) (h0 : Nat) (q : Nat → Nat) (cI : ClassId) (cy : Nat → ClassId) (A : Nat → Prop) (ad : Nat → Nat → Nat) (rl : Nat → Nat × Nat) (L : List Nat) (n : Nat → Nat) (G : Nat → Nat → Int32) (hN : nb_ n) (a1 : Int32) (a2 : Int32) : Met l yX7_count wsX7_count ({ frames := 1, cells := 0, slots := 0, locals := 22 }) (va_Pc [.ref h0, .int a1, .int a2] (ct_P (dC, dI) cI cy h0 q A ad rl L n G)) (pu_Q (.int (sX_count n G a1 a2))) 0 0 pu_F := by
  refine Met.ofW (cc := cX7_count) (maxL := 3) (ret := (some .int)) (by decide) rfl ?_
  intro p e s m args below meth c s₁ B hml hv
  obtain ⟨rfl, hC, hK, hW0⟩ := hv
  have hx := B.exec
  have hb := B.bytes
  have hr := B.returns
  have hts := atoms_spec (ws := wsX7_count) B.pre
  have hown : s.vm.findClass RX7 = some m.cls := findClass_of_methodNamed B.named
  have hlocks := B.notSynchronized
  have hinX7 : ∀ w ∈ u_ws RX7 TX7 14, w ∈ wsX7_count := by decide +kernel
  have hl := lv_entry ([.ref h0, .int a1, .int a2]) (n := 3) (Nat.le_of_ble_eq_true rfl)
  rw [lg_entry_eq]
  generalize (lg_sl ([.ref h0, .int a1, .int a2]) ++ List.replicate (3 - (lg_sl ([.ref h0, .int a1, .int a2])).length) Slot.unset).toArray = ls at hl ⊢
  have hl : lv_has ls 3 [(0, .ref h0), (1, .int a1), (2, .int a2)] := hl
  refine lv_iload_n hx hb dX7_count_0 rfl (lv_at hl 1 rfl) ?_
  refine lv_iconst (v := (-1)) hx hb dX7_count_1 (by decide) ?_
  refine lv_icmp_ne (tgt := 11) hx hb dX7_count_2 (by decide) (fun h_1 => ?_) (fun h_1 => ?_)
  · skip
    refine lv_iload_n hx hb dX7_count_11 rfl (lv_at hl 1 rfl) ?_
    refine pu_call (va_runS (As := [.int a1]) (rest := []) ⟨hx, hb, hml, hown, hts⟩ (c_X7_isWare l a1) (va_cwS 1 hts gX7_count_X7_isWare rfl rfl rfl (by decide +kernel) ⟨Nat.le_of_ble_eq_true rfl, Nat.le_of_ble_eq_true rfl⟩) pu_preS rfl rfl hl.1 rfl (lv_room (Nat.le_of_ble_eq_true rfl)) dX7_count_12 ⟨Nat.le_of_ble_eq_true rfl, Nat.le_of_ble_eq_true rfl⟩) ?_
    refine lv_if_eq (tgt := 38) hx hb dX7_count_15 (by decide) (fun h_2 => ?_) (fun h_2 => ?_)
    · skip
      refine lv_iconst (v := (-1)) hx hb dX7_count_38 (by decide) ?_
      have hq3 : sX_count n G a1 a2 = (-1) := by exact (if_neg h_1).trans (if_pos h_2)
      exact W.iret (v := (-1)) hx hb hr (fun t ht hW => ⟨by rw [hq3], ht⟩) (fun q h => by cases h) dX7_count_39
    · skip
      refine lv_iload_n hx hb dX7_count_18 rfl (lv_at hl 2 rfl) ?_
      refine lv_iconst (v := 0) hx hb dX7_count_19 (by decide) ?_
      refine lv_iconst (v := 5) hx hb dX7_count_20 (by decide) ?_
      refine pu_call (va_runS (As := [.int a2, .int 0, .int 5]) (rest := []) ⟨hx, hb, hml, hown, hts⟩ (c_X7_isWithin l a2 0 5) (va_cwS 3 hts gX7_count_X7_isWithin rfl rfl rfl (by decide +kernel) ⟨Nat.le_of_ble_eq_true rfl, Nat.le_of_ble_eq_true rfl⟩) pu_preS rfl rfl hl.1 rfl (lv_room (Nat.le_of_ble_eq_true rfl)) dX7_count_21 ⟨Nat.le_of_ble_eq_true rfl, Nat.le_of_ble_eq_true rfl⟩) ?_
      refine lv_if_eq (tgt := 38) hx hb dX7_count_24 (by decide) (fun h_4 => ?_) (fun h_4 => ?_)
      · skip
        refine lv_iconst (v := (-1)) hx hb dX7_count_38 (by decide) ?_
        have hq5 : sX_count n G a1 a2 = (-1) := by exact (if_neg h_1).trans ((if_neg h_2).trans (if_pos h_4))
        exact W.iret (v := (-1)) hx hb hr (fun t ht hW => ⟨by rw [hq5], ht⟩) (fun q h => by cases h) dX7_count_39
      · skip
        refine lv_aload_n hx hb dX7_count_27 rfl (lv_at hl 0 rfl) ?_
        refine cx_get hx hb hts hinX7 hown hK hC 6 (by decide) (v := .ref (q 7)) rfl (hts (.fieldLink RX7 41 "FurPosts" "tallies" "[[I") (by decide +kernel)) dX7_count_28 ?_
        refine lv_iload_n hx hb dX7_count_31 rfl (lv_at hl 1 rfl) ?_
        refine cr_ald27 hx hb hK hC (w := a1) (sp_vp h_2 rfl) dX7_count_32 ?_
        refine lv_iload_n hx hb dX7_count_33 rfl (lv_at hl 2 rfl) ?_
        refine ci_ald 14 a1.toNatClampNeg hx hb hK hC (vp_lt (sp_vp h_2 rfl)) (by decide) (w := a2) (sp_vp h_4 rfl) dX7_count_34 ?_
        refine lv_topi (fun v6 (e6 : v6 = G 34 (6 * a2.toNatClampNeg + a1.toNatClampNeg)) => ?_)
        refine lv_goto (tgt := 39) hx hb dX7_count_35 (by decide) ?_
        have hq7 : sX_count n G a1 a2 = v6 := by subst e6; exact (if_neg h_1).trans ((if_neg h_2).trans (if_neg h_4))
        exact W.iret (v := v6) hx hb hr (fun t ht hW => ⟨by rw [hq7], ht⟩) (fun q h => by cases h) dX7_count_39
  · skip
    refine lv_aload_n hx hb dX7_count_5 rfl (lv_at hl 0 rfl) ?_
    refine lv_iload_n hx hb dX7_count_6 rfl (lv_at hl 2 rfl) ?_
    refine pu_call (va_runV (As := [.int a2]) (rest := []) ⟨hx, hb, hml, hown, hts⟩ (k_X7_countOfAll l dC dI h0 q cI cy A ad rl L n G hN a2) (cwV 1 hts gX7_count_X7_countOfAll rfl rfl rfl (by decide +kernel) ⟨Nat.le_of_ble_eq_true rfl, Nat.le_of_ble_eq_true rfl⟩) (ct_pre hC hK hW0) rfl rfl hl.1 rfl (lv_room (Nat.le_of_ble_eq_true rfl)) dX7_count_7 ⟨Nat.le_of_ble_eq_true rfl, Nat.le_of_ble_eq_true rfl⟩) ?_
    refine lv_topi (fun r8 (e8 : r8 = sX_countOfAll n G a2) => ?_)
    have hq9 : sX_count n G a1 a2 = r8 := by subst e8; exact (if_pos h_1)
    exact W.iret (v := r8) hx hb hr (fun t ht hW => ⟨by rw [hq9], ht⟩) (fun q h => by cases h) dX7_count_10
