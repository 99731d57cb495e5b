set_option maxHeartbeats 4000000 in
set_option maxRecDepth 100000 in
theorem c_X8_way (l : Launch) (dC : Nat → ClassId) (dI : Nat → Nat → Nat) (h0 : Nat) (q : Nat → Nat) (cI : ClassId) (a1 a2 a3 a4 : Int32) : Met l yX8_way wsX8_way ({ frames := 2, cells := 0, slots := 0, locals := 43 }) (va_Pc [.ref h0, .int a1, .int a2, .int a3, .int a4] (pu_P (dC, dI) vwCl (fm_T cI) (fm_W h0 q cI))) (pu_Q (.int (-1))) 0 0 pu_F := by
  refine Met.ofW (cc := cX8_way) (maxL := 8) (ret := (some .int)) (by decide) rfl ?_
  intro p e s m args below meth c s₁ B hml hv
  obtain ⟨rfl, hP, hK⟩ := hv
  have hx := B.exec
  have hb := B.bytes
  have hr := B.returns
  have hts := atoms_spec (ws := wsX8_way) B.pre
  have hown : s.vm.findClass RX8 = some m.cls := findClass_of_methodNamed B.named
  have hlocks := B.notSynchronized
  have hl := lv_entry ([.ref h0, .int a1, .int a2, .int a3, .int a4]) (n := 8) (Nat.le_of_ble_eq_true rfl)
  rw [lg_entry_eq]
  generalize (lg_sl ([.ref h0, .int a1, .int a2, .int a3, .int a4]) ++ List.replicate (8 - (lg_sl ([.ref h0, .int a1, .int a2, .int a3, .int a4])).length) Slot.unset).toArray = ls at hl ⊢
  have hl : lv_has ls 8 [(0, .ref h0), (1, .int a1), (2, .int a2), (3, .int a3), (4, .int a4)] := hl
  refine lv_iload_n hx hb dX8_way_0 rfl (lv_at hl 3 rfl) ?_
  refine lv_ldc (v := 1000000) hx hb hown (hts (.constant RX8 118 (1000000)) (by decide +kernel)) dX8_way_1 ?_
  refine lv_idiv hx hb dX8_way_3 (by decide) ?_
  refine lv_topi (fun z_1 ez_1 => ?_)
  refine lv_istore (lv' := [(5, .int z_1), (0, .ref h0), (1, .int a1), (2, .int a2), (3, .int a3), (4, .int a4)]) hx hb dX8_way_4 hl (by decide) rfl (fun ls hl => ?_)
  refine lv_iload_n hx hb dX8_way_6 rfl (lv_at hl 4 rfl) ?_
  refine lv_sipush (v := 1000) hx hb dX8_way_7 (by decide) ?_
  refine lv_idiv hx hb dX8_way_10 (by decide) ?_
  refine lv_topi (fun z_2 ez_2 => ?_)
  refine lv_sipush (v := 1000) hx hb dX8_way_11 (by decide) ?_
  refine lv_irem hx hb dX8_way_14 (by decide) ?_
  refine lv_topi (fun z_3 ez_3 => ?_)
  refine lv_istore (lv' := [(6, .int z_3), (5, .int z_1), (0, .ref h0), (1, .int a1), (2, .int a2), (3, .int a3), (4, .int a4)]) hx hb dX8_way_15 hl (by decide) rfl (fun ls hl => ?_)
  refine lv_iload_n hx hb dX8_way_17 rfl (lv_at hl 5 rfl) ?_
  refine lv_sipush (v := 1000) hx hb dX8_way_18 (by decide) ?_
  refine lv_irem hx hb dX8_way_21 (by decide) ?_
  refine lv_topi (fun z_4 ez_4 => ?_)
  refine lv_istore (lv' := [(7, .int z_4), (6, .int z_3), (5, .int z_1), (0, .ref h0), (1, .int a1), (2, .int a2), (3, .int a3), (4, .int a4)]) hx hb dX8_way_22 hl (by decide) rfl (fun ls hl => ?_)
  refine lv_iload_n hx hb dX8_way_24 rfl (lv_at hl 6 rfl) ?_
  refine lv_if_lt (tgt := 64) hx hb dX8_way_25 (by decide) (fun h_5 => ?_) (fun h_5 => ?_)
  · skip
    refine lv_iconst (v := (-1)) hx hb dX8_way_64 (by decide) ?_
    exact W.iret (v := (-1)) hx hb hr (fun t ht hW => ⟨rfl, ht⟩) (fun q h => by cases h) dX8_way_65
  · skip
    refine lv_iload hx hb dX8_way_28 (lv_at hl 2 rfl) ?_
    refine lv_iconst (v := 1) hx hb dX8_way_30 (by decide) ?_
    refine lv_bipush (v := 40) hx hb dX8_way_31 (by decide) ?_
    refine pu_call (va_runS (As := [.int z_1, .int 1, .int 40]) (rest := []) ⟨hx, hb, hml, hown, hts⟩ (c_X8_in l z_1 1 40) (va_cwS 3 hts gX8_way_X8_in rfl rfl rfl (by decide +kernel) ⟨Nat.le_of_ble_eq_true rfl, Nat.le_of_ble_eq_true rfl⟩) pu_preS rfl rfl hl.1 rfl (lv_room (Nat.le_of_ble_eq_true rfl)) dX8_way_33 ⟨Nat.zero_le _, Nat.zero_le _⟩) ?_
    refine lv_if_eq (tgt := 64) hx hb dX8_way_36 (by decide) (fun h_6 => ?_) (fun h_6 => ?_)
    · skip
      refine lv_iconst (v := (-1)) hx hb dX8_way_64 (by decide) ?_
      exact W.iret (v := (-1)) hx hb hr (fun t ht hW => ⟨rfl, ht⟩) (fun q h => by cases h) dX8_way_65
    · skip
      refine lv_iload hx hb dX8_way_39 (lv_at hl 1 rfl) ?_
      refine lv_iconst (v := 0) hx hb dX8_way_41 (by decide) ?_
      refine lv_sipush (v := 364) hx hb dX8_way_42 (by decide) ?_
      refine pu_call (va_runS (As := [.int z_3, .int 0, .int 364]) (rest := []) ⟨hx, hb, hml, hown, hts⟩ (c_X8_in l z_3 0 364) (va_cwS 3 hts gX8_way_X8_in rfl rfl rfl (by decide +kernel) ⟨Nat.le_of_ble_eq_true rfl, Nat.le_of_ble_eq_true rfl⟩) pu_preS rfl rfl hl.1 rfl (lv_room (Nat.le_of_ble_eq_true rfl)) dX8_way_45 ⟨Nat.zero_le _, Nat.zero_le _⟩) ?_
      refine lv_if_eq (tgt := 64) hx hb dX8_way_48 (by decide) (fun h_7 => ?_) (fun h_7 => ?_)
      · skip
        refine lv_iconst (v := (-1)) hx hb dX8_way_64 (by decide) ?_
        exact W.iret (v := (-1)) hx hb hr (fun t ht hW => ⟨rfl, ht⟩) (fun q h => by cases h) dX8_way_65
      · skip
        refine lv_iload hx hb dX8_way_51 (lv_at hl 0 rfl) ?_
        refine lv_iload hx hb dX8_way_53 (lv_at hl 1 rfl) ?_
        refine lv_sipush (v := 364) hx hb dX8_way_55 (by decide) ?_
        refine pu_call (va_runS (As := [.int z_4, .int z_3, .int 364]) (rest := []) ⟨hx, hb, hml, hown, hts⟩ (c_X8_in l z_4 z_3 364) (va_cwS 3 hts gX8_way_X8_in rfl rfl rfl (by decide +kernel) ⟨Nat.le_of_ble_eq_true rfl, Nat.le_of_ble_eq_true rfl⟩) pu_preS rfl rfl hl.1 rfl (lv_room (Nat.le_of_ble_eq_true rfl)) dX8_way_58 ⟨Nat.zero_le _, Nat.zero_le _⟩) ?_
        refine lv_if_ne (tgt := 66) hx hb dX8_way_61 (by decide) (fun h_8 => ?_) (fun h_8 => ?_)
        · skip
          refine lv_aload_n hx hb dX8_way_66 rfl (lv_at hl 3 rfl) ?_
          refine lv_iload_n hx hb dX8_way_67 rfl (lv_at hl 4 rfl) ?_
          refine pu_call (va_runV (As := [.int a1]) (rest := []) ⟨hx, hb, hml, hown, hts⟩ (c_X8_isPost l dC dI h0 q cI a1) (cwV 1 hts gX8_way_X8_isPost rfl rfl rfl (by decide +kernel) ⟨Nat.le_of_ble_eq_true rfl, Nat.le_of_ble_eq_true rfl⟩) (pu_pre hP hK (ci := 7) (q0 := 0) rfl rfl) rfl rfl hl.1 rfl (lv_room (Nat.le_of_ble_eq_true rfl)) dX8_way_68 ⟨Nat.zero_le _, Nat.zero_le _⟩) ?_
          refine lv_if_eq (tgt := 118) hx hb dX8_way_71 (by decide) (fun h_9 => ?_) (fun h_9 => absurd (by decide) h_9)
          refine lv_iconst (v := (-1)) hx hb dX8_way_118 (by decide) ?_
          exact W.iret (v := (-1)) hx hb hr (fun t ht hW => ⟨rfl, ht⟩) (fun q h => by cases h) dX8_way_119
        · skip
          refine lv_iconst (v := (-1)) hx hb dX8_way_64 (by decide) ?_
          exact W.iret (v := (-1)) hx hb hr (fun t ht hW => ⟨rfl, ht⟩) (fun q h => by cases h) dX8_way_65

set_option maxHeartbeats 4000000 in
set_option maxRecDepth 100000 in
theorem c_X8_next (l : Launch) (dC : Nat → ClassId) (dI : Nat → Nat → Nat) (h0 : Nat) (q : Nat → Nat) (cI : ClassId) (a1 a2 : Int32) : Met l yX8_next wsX8_next ({ frames := 2, cells := 0, slots := 0, locals := 43 }) (va_Pc [.ref h0, .int a1, .int a2] (pu_P (dC, dI) vwCl (fm_T cI) (fm_W h0 q cI))) (pu_Q (.int (-1))) 0 0 pu_F := by
  refine Met.ofW (cc := cX8_next) (maxL := 5) (ret := (some .int)) (by decide) rfl ?_
  intro p e s m args below meth c s₁ B hml hv
  obtain ⟨rfl, hP, hK⟩ := hv
  have hx := B.exec
  have hb := B.bytes
  have hr := B.returns
  have hts := atoms_spec (ws := wsX8_next) B.pre
  have hown : s.vm.findClass RX8 = some m.cls := findClass_of_methodNamed B.named
  have hlocks := B.notSynchronized
  have hl := lv_entry ([.ref h0, .int a1, .int a2]) (n := 5) (Nat.le_of_ble_eq_true rfl)
  rw [lg_entry_eq]
  generalize (lg_sl ([.ref h0, .int a1, .int a2]) ++ List.replicate (5 - (lg_sl ([.ref h0, .int a1, .int a2])).length) Slot.unset).toArray = ls at hl ⊢
  have hl : lv_has ls 5 [(0, .ref h0), (1, .int a1), (2, .int a2)] := hl
  refine lv_aload_n hx hb dX8_next_0 rfl (lv_at hl 0 rfl) ?_
  refine lv_iload_n hx hb dX8_next_1 rfl (lv_at hl 1 rfl) ?_
  refine pu_call (va_runV (As := [.int a1]) (rest := []) ⟨hx, hb, hml, hown, hts⟩ (c_X8_isPost l dC dI h0 q cI a1) (cwV 1 hts gX8_next_X8_isPost rfl rfl rfl (by decide +kernel) ⟨Nat.le_of_ble_eq_true rfl, Nat.le_of_ble_eq_true rfl⟩) (pu_pre hP hK (ci := 7) (q0 := 0) rfl rfl) rfl rfl hl.1 rfl (lv_room (Nat.le_of_ble_eq_true rfl)) dX8_next_2 ⟨Nat.zero_le _, Nat.zero_le _⟩) ?_
  refine lv_if_eq (tgt := 21) hx hb dX8_next_5 (by decide) (fun h_1 => ?_) (fun h_1 => absurd (by decide) h_1)
  refine lv_iconst (v := (-1)) hx hb dX8_next_21 (by decide) ?_
  exact W.iret (v := (-1)) hx hb hr (fun t ht hW => ⟨rfl, ht⟩) (fun q h => by cases h) dX8_next_22

set_option maxHeartbeats 4000000 in
set_option maxRecDepth 100000 in
theorem c_X8_store (l : Launch) (dC : Nat → ClassId) (dI : Nat → Nat → Nat) (h0 : Nat) (q : Nat → Nat) (cI : ClassId) (a1 a2 a3 : Int32) : Met l yX8_store wsX8_store ({ frames := 2, cells := 0, slots := 0, locals := 43 }) (va_Pc [.ref h0, .int a1, .int a2, .int a3] (pu_P (dC, dI) vwCl (fm_T cI) (fm_W h0 q cI))) (pu_Q (.int (-1))) 0 0 pu_F := by
  refine Met.ofW (cc := cX8_store) (maxL := 4) (ret := (some .int)) (by decide) rfl ?_
  intro p e s m args below meth c s₁ B hml hv
  obtain ⟨rfl, hP, hK⟩ := hv
  have hx := B.exec
  have hb := B.bytes
  have hr := B.returns
  have hts := atoms_spec (ws := wsX8_store) B.pre
  have hown : s.vm.findClass RX8 = some m.cls := findClass_of_methodNamed B.named
  have hlocks := B.notSynchronized
  have hl := lv_entry ([.ref h0, .int a1, .int a2, .int a3]) (n := 4) (Nat.le_of_ble_eq_true rfl)
  rw [lg_entry_eq]
  generalize (lg_sl ([.ref h0, .int a1, .int a2, .int a3]) ++ List.replicate (4 - (lg_sl ([.ref h0, .int a1, .int a2, .int a3])).length) Slot.unset).toArray = ls at hl ⊢
  have hl : lv_has ls 4 [(0, .ref h0), (1, .int a1), (2, .int a2), (3, .int a3)] := hl
  refine lv_aload_n hx hb dX8_store_0 rfl (lv_at hl 0 rfl) ?_
  refine lv_iload_n hx hb dX8_store_1 rfl (lv_at hl 1 rfl) ?_
  refine pu_call (va_runV (As := [.int a1]) (rest := []) ⟨hx, hb, hml, hown, hts⟩ (c_X8_isPost l dC dI h0 q cI a1) (cwV 1 hts gX8_store_X8_isPost rfl rfl rfl (by decide +kernel) ⟨Nat.le_of_ble_eq_true rfl, Nat.le_of_ble_eq_true rfl⟩) (pu_pre hP hK (ci := 7) (q0 := 0) rfl rfl) rfl rfl hl.1 rfl (lv_room (Nat.le_of_ble_eq_true rfl)) dX8_store_2 ⟨Nat.zero_le _, Nat.zero_le _⟩) ?_
  refine lv_if_eq (tgt := 39) hx hb dX8_store_5 (by decide) (fun h_1 => ?_) (fun h_1 => absurd (by decide) h_1)
  refine lv_iconst (v := (-1)) hx hb dX8_store_39 (by decide) ?_
  exact W.iret (v := (-1)) hx hb hr (fun t ht hW => ⟨rfl, ht⟩) (fun q h => by cases h) dX8_store_40

set_option maxHeartbeats 4000000 in
set_option maxRecDepth 100000 in
theorem c_X8_send (l : Launch) (dC : Nat → ClassId) (dI : Nat → Nat → Nat) (h0 : Nat) (q : Nat → Nat) (cI : ClassId) (a1 a2 : Int32) : Met l yX8_send wsX8_send ({ frames := 2, cells := 0, slots := 0, locals := 43 }) (va_Pc [.ref h0, .int a1, .int a2] (pu_P (dC, dI) vwCl (fm_T cI) (fm_W h0 q cI))) (pu_Q (.int (-1))) 0 0 pu_F := by
  refine Met.ofW (cc := cX8_send) (maxL := 6) (ret := (some .int)) (by decide) rfl ?_
  intro p e s m args below meth c s₁ B hml hv
  obtain ⟨rfl, hP, hK⟩ := hv
  have hx := B.exec
  have hb := B.bytes
  have hr := B.returns
  have hts := atoms_spec (ws := wsX8_send) B.pre
  have hown : s.vm.findClass RX8 = some m.cls := findClass_of_methodNamed B.named
  have hlocks := B.notSynchronized
  have hl := lv_entry ([.ref h0, .int a1, .int a2]) (n := 6) (Nat.le_of_ble_eq_true rfl)
  rw [lg_entry_eq]
  generalize (lg_sl ([.ref h0, .int a1, .int a2]) ++ List.replicate (6 - (lg_sl ([.ref h0, .int a1, .int a2])).length) Slot.unset).toArray = ls at hl ⊢
  have hl : lv_has ls 6 [(0, .ref h0), (1, .int a1), (2, .int a2)] := hl
  refine lv_aload_n hx hb dX8_send_0 rfl (lv_at hl 0 rfl) ?_
  refine lv_iload_n hx hb dX8_send_1 rfl (lv_at hl 1 rfl) ?_
  refine pu_call (va_runV (As := [.int a1]) (rest := []) ⟨hx, hb, hml, hown, hts⟩ (c_X8_isPost l dC dI h0 q cI a1) (cwV 1 hts gX8_send_X8_isPost rfl rfl rfl (by decide +kernel) ⟨Nat.le_of_ble_eq_true rfl, Nat.le_of_ble_eq_true rfl⟩) (pu_pre hP hK (ci := 7) (q0 := 0) rfl rfl) rfl rfl hl.1 rfl (lv_room (Nat.le_of_ble_eq_true rfl)) dX8_send_2 ⟨Nat.zero_le _, Nat.zero_le _⟩) ?_
  refine lv_if_eq (tgt := 42) hx hb dX8_send_5 (by decide) (fun h_1 => ?_) (fun h_1 => absurd (by decide) h_1)
  refine lv_iconst (v := (-1)) hx hb dX8_send_42 (by decide) ?_
  exact W.iret (v := (-1)) hx hb hr (fun t ht hW => ⟨rfl, ht⟩) (fun q h => by cases h) dX8_send_43

set_option maxHeartbeats 4000000 in
set_option maxRecDepth 100000 in
theorem c_X8_lose (l : Launch) (dC : Nat → ClassId) (dI : Nat → Nat → Nat) (h0 : Nat) (q : Nat → Nat) (cI : ClassId) (a1 : Int32) : Met l yX8_lose wsX8_lose ({ frames := 3, cells := 0, slots := 0, locals := 64 }) (va_Pc [.ref h0, .int a1] (pu_P (dC, dI) vwCl (fm_T cI) (fm_W h0 q cI))) (pu_Q (.int (-1))) 0 0 pu_F := by
  refine Met.ofW (cc := cX8_lose) (maxL := 4) (ret := (some .int)) (by decide) rfl ?_
  intro p e s m args below meth c s₁ B hml hv
  obtain ⟨rfl, hP, hK⟩ := hv
  have hx := B.exec
  have hb := B.bytes
  have hr := B.returns
  have hts := atoms_spec (ws := wsX8_lose) B.pre
  have hown : s.vm.findClass RX8 = some m.cls := findClass_of_methodNamed B.named
  have hlocks := B.notSynchronized
  have hl := lv_entry ([.ref h0, .int a1]) (n := 4) (Nat.le_of_ble_eq_true rfl)
  rw [lg_entry_eq]
  generalize (lg_sl ([.ref h0, .int a1]) ++ List.replicate (4 - (lg_sl ([.ref h0, .int a1])).length) Slot.unset).toArray = ls at hl ⊢
  have hl : lv_has ls 4 [(0, .ref h0), (1, .int a1)] := hl
  refine lv_aload_n hx hb dX8_lose_0 rfl (lv_at hl 0 rfl) ?_
  refine lv_iload_n hx hb dX8_lose_1 rfl (lv_at hl 1 rfl) ?_
  refine pu_call (va_runV (As := [.int a1]) (rest := []) ⟨hx, hb, hml, hown, hts⟩ (c_X8_isAway l dC dI h0 q cI a1) (cwV 1 hts gX8_lose_X8_isAway rfl rfl rfl (by decide +kernel) ⟨Nat.le_of_ble_eq_true rfl, Nat.le_of_ble_eq_true rfl⟩) (pu_pre hP hK (ci := 7) (q0 := 0) rfl rfl) rfl rfl hl.1 rfl (lv_room (Nat.le_of_ble_eq_true rfl)) dX8_lose_2 ⟨Nat.zero_le _, Nat.zero_le _⟩) ?_
  refine lv_if_ne (tgt := 10) hx hb dX8_lose_5 (by decide) (fun h_1 => absurd (by decide) h_1) (fun h_1 => ?_)
  refine lv_iconst (v := (-1)) hx hb dX8_lose_8 (by decide) ?_
  exact W.iret (v := (-1)) hx hb hr (fun t ht hW => ⟨rfl, ht⟩) (fun q h => by cases h) dX8_lose_9

set_option maxHeartbeats 4000000 in
set_option maxRecDepth 100000 in
theorem c_X8_spoil (l : Launch) (dC : Nat → ClassId) (dI : Nat → Nat → Nat) (h0 : Nat) (q : Nat → Nat) (cI : ClassId) (a1 a2 a3 : Int32) : Met l yX8_spoil wsX8_spoil ({ frames := 3, cells := 0, slots := 0, locals := 64 }) (va_Pc [.ref h0, .int a1, .int a2, .int a3] (pu_P (dC, dI) vwCl (fm_T cI) (fm_W h0 q cI))) (pu_Q (.int 0)) 0 0 pu_F := by
  refine Met.ofW (cc := cX8_spoil) (maxL := 4) (ret := (some .boolean)) (by decide) rfl ?_
  intro p e s m args below meth c s₁ B hml hv
  obtain ⟨rfl, hP, hK⟩ := hv
  have hx := B.exec
  have hb := B.bytes
  have hr := B.returns
  have hts := atoms_spec (ws := wsX8_spoil) B.pre
  have hown : s.vm.findClass RX8 = some m.cls := findClass_of_methodNamed B.named
  have hlocks := B.notSynchronized
  have hl := lv_entry ([.ref h0, .int a1, .int a2, .int a3]) (n := 4) (Nat.le_of_ble_eq_true rfl)
  rw [lg_entry_eq]
  generalize (lg_sl ([.ref h0, .int a1, .int a2, .int a3]) ++ List.replicate (4 - (lg_sl ([.ref h0, .int a1, .int a2, .int a3])).length) Slot.unset).toArray = ls at hl ⊢
  have hl : lv_has ls 4 [(0, .ref h0), (1, .int a1), (2, .int a2), (3, .int a3)] := hl
  refine lv_aload_n hx hb dX8_spoil_0 rfl (lv_at hl 0 rfl) ?_
  refine lv_iload_n hx hb dX8_spoil_1 rfl (lv_at hl 1 rfl) ?_
  refine pu_call (va_runV (As := [.int a1]) (rest := []) ⟨hx, hb, hml, hown, hts⟩ (c_X8_isAway l dC dI h0 q cI a1) (cwV 1 hts gX8_spoil_X8_isAway rfl rfl rfl (by decide +kernel) ⟨Nat.le_of_ble_eq_true rfl, Nat.le_of_ble_eq_true rfl⟩) (pu_pre hP hK (ci := 7) (q0 := 0) rfl rfl) rfl rfl hl.1 rfl (lv_room (Nat.le_of_ble_eq_true rfl)) dX8_spoil_2 ⟨Nat.zero_le _, Nat.zero_le _⟩) ?_
  refine lv_if_eq (tgt := 34) hx hb dX8_spoil_5 (by decide) (fun h_1 => ?_) (fun h_1 => absurd (by decide) h_1)
  refine lv_iconst (v := 0) hx hb dX8_spoil_34 (by decide) ?_
  exact W.zret (v := 0) hx hb hr rfl (fun t ht hW => ⟨rfl, ht⟩) (fun q h => by cases h) dX8_spoil_35

set_option maxHeartbeats 4000000 in
set_option maxRecDepth 100000 in
theorem c_X8_sell (l : Launch) (dC : Nat → ClassId) (dI : Nat → Nat → Nat) (h0 : Nat) (q : Nat → Nat) (cI : ClassId) (a1 a2 a3 a4 : Int32) : Met l yX8_sell wsX8_sell ({ frames := 3, cells := 0, slots := 0, locals := 67 }) (va_Pc [.ref h0, .int a1, .int a2, .int a3, .int a4] (pu_P (dC, dI) vwCl (fm_T cI) (fm_W h0 q cI))) (pu_Q (.int (-1))) 0 0 pu_F := by
  refine Met.ofW (cc := cX8_sell) (maxL := 7) (ret := (some .int)) (by decide) rfl ?_
  intro p e s m args below meth c s₁ B hml hv
  obtain ⟨rfl, hP, hK⟩ := hv
  have hx := B.exec
  have hb := B.bytes
  have hr := B.returns
  have hts := atoms_spec (ws := wsX8_sell) B.pre
  have hown : s.vm.findClass RX8 = some m.cls := findClass_of_methodNamed B.named
  have hlocks := B.notSynchronized
  have hl := lv_entry ([.ref h0, .int a1, .int a2, .int a3, .int a4]) (n := 7) (Nat.le_of_ble_eq_true rfl)
  rw [lg_entry_eq]
  generalize (lg_sl ([.ref h0, .int a1, .int a2, .int a3, .int a4]) ++ List.replicate (7 - (lg_sl ([.ref h0, .int a1, .int a2, .int a3, .int a4])).length) Slot.unset).toArray = ls at hl ⊢
  have hl : lv_has ls 7 [(0, .ref h0), (1, .int a1), (2, .int a2), (3, .int a3), (4, .int a4)] := hl
  refine lv_aload_n hx hb dX8_sell_0 rfl (lv_at hl 0 rfl) ?_
  refine lv_iload_n hx hb dX8_sell_1 rfl (lv_at hl 1 rfl) ?_
  refine lv_iload_n hx hb dX8_sell_2 rfl (lv_at hl 2 rfl) ?_
  refine lv_iload_n hx hb dX8_sell_3 rfl (lv_at hl 3 rfl) ?_
  refine lv_iload hx hb dX8_sell_4 (lv_at hl 4 rfl) ?_
  refine pu_call (va_runV (As := [.int a1, .int a2, .int a3, .int a4]) (rest := []) ⟨hx, hb, hml, hown, hts⟩ (c_X8_isDeal l dC dI h0 q cI a1 a2 a3 a4) (cwV 4 hts gX8_sell_X8_isDeal rfl rfl rfl (by decide +kernel) ⟨Nat.le_of_ble_eq_true rfl, Nat.le_of_ble_eq_true rfl⟩) (pu_pre hP hK (ci := 7) (q0 := 0) rfl rfl) rfl rfl hl.1 rfl (lv_room (Nat.le_of_ble_eq_true rfl)) dX8_sell_6 ⟨Nat.zero_le _, Nat.zero_le _⟩) ?_
  refine lv_if_eq (tgt := 23) hx hb dX8_sell_9 (by decide) (fun h_1 => ?_) (fun h_1 => absurd (by decide) h_1)
  refine lv_iconst (v := (-1)) hx hb dX8_sell_23 (by decide) ?_
  exact W.iret (v := (-1)) hx hb hr (fun t ht hW => ⟨rfl, ht⟩) (fun q h => by cases h) dX8_sell_24

set_option maxHeartbeats 4000000 in
set_option maxRecDepth 100000 in
theorem c_X8_buy (l : Launch) (dC : Nat → ClassId) (dI : Nat → Nat → Nat) (h0 : Nat) (q : Nat → Nat) (cI : ClassId) (a1 a2 a3 a4 : Int32) : Met l yX8_buy wsX8_buy ({ frames := 3, cells := 0, slots := 0, locals := 67 }) (va_Pc [.ref h0, .int a1, .int a2, .int a3, .int a4] (pu_P (dC, dI) vwCl (fm_T cI) (fm_W h0 q cI))) (pu_Q (.int (-1))) 0 0 pu_F := by
  refine Met.ofW (cc := cX8_buy) (maxL := 7) (ret := (some .int)) (by decide) rfl ?_
  intro p e s m args below meth c s₁ B hml hv
  obtain ⟨rfl, hP, hK⟩ := hv
  have hx := B.exec
  have hb := B.bytes
  have hr := B.returns
  have hts := atoms_spec (ws := wsX8_buy) B.pre
  have hown : s.vm.findClass RX8 = some m.cls := findClass_of_methodNamed B.named
  have hlocks := B.notSynchronized
  have hl := lv_entry ([.ref h0, .int a1, .int a2, .int a3, .int a4]) (n := 7) (Nat.le_of_ble_eq_true rfl)
  rw [lg_entry_eq]
  generalize (lg_sl ([.ref h0, .int a1, .int a2, .int a3, .int a4]) ++ List.replicate (7 - (lg_sl ([.ref h0, .int a1, .int a2, .int a3, .int a4])).length) Slot.unset).toArray = ls at hl ⊢
  have hl : lv_has ls 7 [(0, .ref h0), (1, .int a1), (2, .int a2), (3, .int a3), (4, .int a4)] := hl
  refine lv_aload_n hx hb dX8_buy_0 rfl (lv_at hl 0 rfl) ?_
  refine lv_iload_n hx hb dX8_buy_1 rfl (lv_at hl 1 rfl) ?_
  refine lv_iload_n hx hb dX8_buy_2 rfl (lv_at hl 2 rfl) ?_
  refine lv_iload_n hx hb dX8_buy_3 rfl (lv_at hl 3 rfl) ?_
  refine lv_iload hx hb dX8_buy_4 (lv_at hl 4 rfl) ?_
  refine pu_call (va_runV (As := [.int a1, .int a2, .int a3, .int a4]) (rest := []) ⟨hx, hb, hml, hown, hts⟩ (c_X8_isDeal l dC dI h0 q cI a1 a2 a3 a4) (cwV 4 hts gX8_buy_X8_isDeal rfl rfl rfl (by decide +kernel) ⟨Nat.le_of_ble_eq_true rfl, Nat.le_of_ble_eq_true rfl⟩) (pu_pre hP hK (ci := 7) (q0 := 0) rfl rfl) rfl rfl hl.1 rfl (lv_room (Nat.le_of_ble_eq_true rfl)) dX8_buy_6 ⟨Nat.zero_le _, Nat.zero_le _⟩) ?_
  refine lv_if_eq (tgt := 26) hx hb dX8_buy_9 (by decide) (fun h_1 => ?_) (fun h_1 => absurd (by decide) h_1)
  refine lv_iconst (v := (-1)) hx hb dX8_buy_26 (by decide) ?_
  exact W.iret (v := (-1)) hx hb hr (fun t ht hW => ⟨rfl, ht⟩) (fun q h => by cases h) dX8_buy_27

set_option maxHeartbeats 4000000 in
set_option maxRecDepth 100000 in
theorem c_X8_give (l : Launch) (dC : Nat → ClassId) (dI : Nat → Nat → Nat) (h0 : Nat) (q : Nat → Nat) (cI : ClassId) (a1 a2 a3 a4 : Int32) : Met l yX8_give wsX8_give ({ frames := 3, cells := 0, slots := 0, locals := 67 }) (va_Pc [.ref h0, .int a1, .int a2, .int a3, .int a4] (pu_P (dC, dI) vwCl (fm_T cI) (fm_W h0 q cI))) (pu_Q (.int (-1))) 0 0 pu_F := by
  refine Met.ofW (cc := cX8_give) (maxL := 5) (ret := (some .int)) (by decide) rfl ?_
  intro p e s m args below meth c s₁ B hml hv
  obtain ⟨rfl, hP, hK⟩ := hv
  have hx := B.exec
  have hb := B.bytes
  have hr := B.returns
  have hts := atoms_spec (ws := wsX8_give) B.pre
  have hown : s.vm.findClass RX8 = some m.cls := findClass_of_methodNamed B.named
  have hlocks := B.notSynchronized
  have hl := lv_entry ([.ref h0, .int a1, .int a2, .int a3, .int a4]) (n := 5) (Nat.le_of_ble_eq_true rfl)
  rw [lg_entry_eq]
  generalize (lg_sl ([.ref h0, .int a1, .int a2, .int a3, .int a4]) ++ List.replicate (5 - (lg_sl ([.ref h0, .int a1, .int a2, .int a3, .int a4])).length) Slot.unset).toArray = ls at hl ⊢
  have hl : lv_has ls 5 [(0, .ref h0), (1, .int a1), (2, .int a2), (3, .int a3), (4, .int a4)] := hl
  refine lv_aload_n hx hb dX8_give_0 rfl (lv_at hl 0 rfl) ?_
  refine lv_iload_n hx hb dX8_give_1 rfl (lv_at hl 1 rfl) ?_
  refine lv_iload_n hx hb dX8_give_2 rfl (lv_at hl 2 rfl) ?_
  refine lv_iload_n hx hb dX8_give_3 rfl (lv_at hl 3 rfl) ?_
  refine lv_iload hx hb dX8_give_4 (lv_at hl 4 rfl) ?_
  refine pu_call (va_runV (As := [.int a1, .int a2, .int a3, .int a4]) (rest := []) ⟨hx, hb, hml, hown, hts⟩ (c_X8_isDeal l dC dI h0 q cI a1 a2 a3 a4) (cwV 4 hts gX8_give_X8_isDeal rfl rfl rfl (by decide +kernel) ⟨Nat.le_of_ble_eq_true rfl, Nat.le_of_ble_eq_true rfl⟩) (pu_pre hP hK (ci := 7) (q0 := 0) rfl rfl) rfl rfl hl.1 rfl (lv_room (Nat.le_of_ble_eq_true rfl)) dX8_give_6 ⟨Nat.zero_le _, Nat.zero_le _⟩) ?_
  refine lv_if_eq (tgt := 23) hx hb dX8_give_9 (by decide) (fun h_1 => ?_) (fun h_1 => absurd (by decide) h_1)
  refine lv_iconst (v := (-1)) hx hb dX8_give_23 (by decide) ?_
  exact W.iret (v := (-1)) hx hb hr (fun t ht hW => ⟨rfl, ht⟩) (fun q h => by cases h) dX8_give_24

set_option maxHeartbeats 4000000 in
set_option maxRecDepth 100000 in
theorem c_X8_owes (l : Launch) (dC : Nat → ClassId) (dI : Nat → Nat → Nat) (h0 : Nat) (q : Nat → Nat) (cI : ClassId) (a1 a2 : Int32) : Met l yX8_owes wsX8_owes ({ frames := 2, cells := 0, slots := 0, locals := 43 }) (va_Pc [.ref h0, .int a1, .int a2] (pu_P (dC, dI) vwCl (fm_T cI) (fm_W h0 q cI))) (pu_Q (.int 0)) 0 0 pu_F := by
  refine Met.ofW (cc := cX8_owes) (maxL := 3) (ret := (some .int)) (by decide) rfl ?_
  intro p e s m args below meth c s₁ B hml hv
  obtain ⟨rfl, hP, hK⟩ := hv
  have hx := B.exec
  have hb := B.bytes
  have hr := B.returns
  have hts := atoms_spec (ws := wsX8_owes) B.pre
  have hown : s.vm.findClass RX8 = some m.cls := findClass_of_methodNamed B.named
  have hlocks := B.notSynchronized
  have hl := lv_entry ([.ref h0, .int a1, .int a2]) (n := 3) (Nat.le_of_ble_eq_true rfl)
  rw [lg_entry_eq]
  generalize (lg_sl ([.ref h0, .int a1, .int a2]) ++ List.replicate (3 - (lg_sl ([.ref h0, .int a1, .int a2])).length) Slot.unset).toArray = ls at hl ⊢
  have hl : lv_has ls 3 [(0, .ref h0), (1, .int a1), (2, .int a2)] := hl
  refine lv_aload_n hx hb dX8_owes_0 rfl (lv_at hl 0 rfl) ?_
  refine lv_iload_n hx hb dX8_owes_1 rfl (lv_at hl 1 rfl) ?_
  refine pu_call (va_runV (As := [.int a1]) (rest := []) ⟨hx, hb, hml, hown, hts⟩ (c_X8_isPost l dC dI h0 q cI a1) (cwV 1 hts gX8_owes_X8_isPost rfl rfl rfl (by decide +kernel) ⟨Nat.le_of_ble_eq_true rfl, Nat.le_of_ble_eq_true rfl⟩) (pu_pre hP hK (ci := 7) (q0 := 0) rfl rfl) rfl rfl hl.1 rfl (lv_room (Nat.le_of_ble_eq_true rfl)) dX8_owes_2 ⟨Nat.zero_le _, Nat.zero_le _⟩) ?_
  refine lv_if_eq (tgt := 32) hx hb dX8_owes_5 (by decide) (fun h_1 => ?_) (fun h_1 => absurd (by decide) h_1)
  refine lv_iconst (v := 0) hx hb dX8_owes_32 (by decide) ?_
  exact W.iret (v := 0) hx hb hr (fun t ht hW => ⟨rfl, ht⟩) (fun q h => by cases h) dX8_owes_33

set_option maxHeartbeats 4000000 in
set_option maxRecDepth 100000 in
theorem c_X8_price (l : Launch) (dC : Nat → ClassId) (dI : Nat → Nat → Nat) (h0 : Nat) (q : Nat → Nat) (cI : ClassId) (a1 a2 : Int32) : Met l yX8_price wsX8_price ({ frames := 2, cells := 0, slots := 0, locals := 43 }) (va_Pc [.ref h0, .int a1, .int a2] (pu_P (dC, dI) vwCl (fm_T cI) (fm_W h0 q cI))) (pu_Q (.int (-1))) 0 0 pu_F := by
  refine Met.ofW (cc := cX8_price) (maxL := 3) (ret := (some .int)) (by decide) rfl ?_
  intro p e s m args below meth c s₁ B hml hv
  obtain ⟨rfl, hP, hK⟩ := hv
  have hx := B.exec
  have hb := B.bytes
  have hr := B.returns
  have hts := atoms_spec (ws := wsX8_price) B.pre
  have hown : s.vm.findClass RX8 = some m.cls := findClass_of_methodNamed B.named
  have hlocks := B.notSynchronized
  have hl := lv_entry ([.ref h0, .int a1, .int a2]) (n := 3) (Nat.le_of_ble_eq_true rfl)
  rw [lg_entry_eq]
  generalize (lg_sl ([.ref h0, .int a1, .int a2]) ++ List.replicate (3 - (lg_sl ([.ref h0, .int a1, .int a2])).length) Slot.unset).toArray = ls at hl ⊢
  have hl : lv_has ls 3 [(0, .ref h0), (1, .int a1), (2, .int a2)] := hl
  refine lv_aload_n hx hb dX8_price_0 rfl (lv_at hl 0 rfl) ?_
  refine lv_iload_n hx hb dX8_price_1 rfl (lv_at hl 1 rfl) ?_
  refine pu_call (va_runV (As := [.int a1]) (rest := []) ⟨hx, hb, hml, hown, hts⟩ (c_X8_isPost l dC dI h0 q cI a1) (cwV 1 hts gX8_price_X8_isPost rfl rfl rfl (by decide +kernel) ⟨Nat.le_of_ble_eq_true rfl, Nat.le_of_ble_eq_true rfl⟩) (pu_pre hP hK (ci := 7) (q0 := 0) rfl rfl) rfl rfl hl.1 rfl (lv_room (Nat.le_of_ble_eq_true rfl)) dX8_price_2 ⟨Nat.zero_le _, Nat.zero_le _⟩) ?_
  refine lv_if_eq (tgt := 29) hx hb dX8_price_5 (by decide) (fun h_1 => ?_) (fun h_1 => absurd (by decide) h_1)
  refine lv_iconst (v := (-1)) hx hb dX8_price_29 (by decide) ?_
  exact W.iret (v := (-1)) hx hb hr (fun t ht hW => ⟨rfl, ht⟩) (fun q h => by cases h) dX8_price_30

set_option maxHeartbeats 4000000 in
set_option maxRecDepth 100000 in
theorem c_X8_order (l : Launch) (dC : Nat → ClassId) (dI : Nat → Nat → Nat) (h0 : Nat) (q : Nat → Nat) (cI : ClassId) (a1 a2 a3 a4 : Int32) : Met l yX8_order wsX8_order ({ frames := 3, cells := 0, slots := 0, locals := 65 }) (va_Pc [.ref h0, .int a1, .int a2, .int a3, .int a4] (pu_P (dC, dI) vwCl (fm_T cI) (fm_W h0 q cI))) (pu_Q (.int (-1))) 0 0 pu_F := by
  refine Met.ofW (cc := cX8_order) (maxL := 5) (ret := (some .int)) (by decide) rfl ?_
  intro p e s m args below meth c s₁ B hml hv
  obtain ⟨rfl, hP, hK⟩ := hv
  have hx := B.exec
  have hb := B.bytes
  have hr := B.returns
  have hts := atoms_spec (ws := wsX8_order) B.pre
  have hown : s.vm.findClass RX8 = some m.cls := findClass_of_methodNamed B.named
  have hlocks := B.notSynchronized
  have hl := lv_entry ([.ref h0, .int a1, .int a2, .int a3, .int a4]) (n := 5) (Nat.le_of_ble_eq_true rfl)
  rw [lg_entry_eq]
  generalize (lg_sl ([.ref h0, .int a1, .int a2, .int a3, .int a4]) ++ List.replicate (5 - (lg_sl ([.ref h0, .int a1, .int a2, .int a3, .int a4])).length) Slot.unset).toArray = ls at hl ⊢
  have hl : lv_has ls 5 [(0, .ref h0), (1, .int a1), (2, .int a2), (3, .int a3), (4, .int a4)] := hl
  refine lv_aload_n hx hb dX8_order_0 rfl (lv_at hl 0 rfl) ?_
  refine lv_iload_n hx hb dX8_order_1 rfl (lv_at hl 1 rfl) ?_
  refine lv_iload_n hx hb dX8_order_2 rfl (lv_at hl 2 rfl) ?_
  refine pu_call (va_runV (As := [.int a1, .int a2]) (rest := []) ⟨hx, hb, hml, hown, hts⟩ (c_X8_canWrite l dC dI h0 q cI a1 a2) (cwV 2 hts gX8_order_X8_canWrite rfl rfl rfl (by decide +kernel) ⟨Nat.le_of_ble_eq_true rfl, Nat.le_of_ble_eq_true rfl⟩) (pu_pre hP hK (ci := 7) (q0 := 0) rfl rfl) rfl rfl hl.1 rfl (lv_room (Nat.le_of_ble_eq_true rfl)) dX8_order_3 ⟨Nat.zero_le _, Nat.zero_le _⟩) ?_
  refine lv_if_eq (tgt := 40) hx hb dX8_order_6 (by decide) (fun h_1 => ?_) (fun h_1 => absurd (by decide) h_1)
  refine lv_iconst (v := (-1)) hx hb dX8_order_40 (by decide) ?_
  exact W.iret (v := (-1)) hx hb hr (fun t ht hW => ⟨rfl, ht⟩) (fun q h => by cases h) dX8_order_41

set_option maxHeartbeats 4000000 in
set_option maxRecDepth 100000 in
theorem c_X8_debt (l : Launch) (dC : Nat → ClassId) (dI : Nat → Nat → Nat) (h0 : Nat) (q : Nat → Nat) (cI : ClassId) (a1 a2 a3 : Int32) : Met l yX8_debt wsX8_debt ({ frames := 3, cells := 0, slots := 0, locals := 65 }) (va_Pc [.ref h0, .int a1, .int a2, .int a3] (pu_P (dC, dI) vwCl (fm_T cI) (fm_W h0 q cI))) (pu_Q (.int (-1))) 0 0 pu_F := by
  refine Met.ofW (cc := cX8_debt) (maxL := 5) (ret := (some .int)) (by decide) rfl ?_
  intro p e s m args below meth c s₁ B hml hv
  obtain ⟨rfl, hP, hK⟩ := hv
  have hx := B.exec
  have hb := B.bytes
  have hr := B.returns
  have hts := atoms_spec (ws := wsX8_debt) B.pre
  have hown : s.vm.findClass RX8 = some m.cls := findClass_of_methodNamed B.named
  have hlocks := B.notSynchronized
  have hl := lv_entry ([.ref h0, .int a1, .int a2, .int a3]) (n := 5) (Nat.le_of_ble_eq_true rfl)
  rw [lg_entry_eq]
  generalize (lg_sl ([.ref h0, .int a1, .int a2, .int a3]) ++ List.replicate (5 - (lg_sl ([.ref h0, .int a1, .int a2, .int a3])).length) Slot.unset).toArray = ls at hl ⊢
  have hl : lv_has ls 5 [(0, .ref h0), (1, .int a1), (2, .int a2), (3, .int a3)] := hl
  refine lv_aload_n hx hb dX8_debt_0 rfl (lv_at hl 0 rfl) ?_
  refine lv_iload_n hx hb dX8_debt_1 rfl (lv_at hl 1 rfl) ?_
  refine lv_iload_n hx hb dX8_debt_2 rfl (lv_at hl 2 rfl) ?_
  refine pu_call (va_runV (As := [.int a1, .int a2]) (rest := []) ⟨hx, hb, hml, hown, hts⟩ (c_X8_canWrite l dC dI h0 q cI a1 a2) (cwV 2 hts gX8_debt_X8_canWrite rfl rfl rfl (by decide +kernel) ⟨Nat.le_of_ble_eq_true rfl, Nat.le_of_ble_eq_true rfl⟩) (pu_pre hP hK (ci := 7) (q0 := 0) rfl rfl) rfl rfl hl.1 rfl (lv_room (Nat.le_of_ble_eq_true rfl)) dX8_debt_3 ⟨Nat.zero_le _, Nat.zero_le _⟩) ?_
  refine lv_if_eq (tgt := 28) hx hb dX8_debt_6 (by decide) (fun h_1 => ?_) (fun h_1 => absurd (by decide) h_1)
  refine lv_iconst (v := (-1)) hx hb dX8_debt_28 (by decide) ?_
  exact W.iret (v := (-1)) hx hb hr (fun t ht hW => ⟨rfl, ht⟩) (fun q h => by cases h) dX8_debt_29

set_option maxHeartbeats 4000000 in
set_option maxRecDepth 100000 in
theorem c_X8_report (l : Launch) (dC : Nat → ClassId) (dI : Nat → Nat → Nat) (h0 : Nat) (q : Nat → Nat) (cI : ClassId) (a1 a2 : Int32) : Met l yX8_report wsX8_report ({ frames := 3, cells := 0, slots := 0, locals := 65 }) (va_Pc [.ref h0, .int a1, .int a2] (pu_P (dC, dI) vwCl (fm_T cI) (fm_W h0 q cI))) (pu_Q (.int (-1))) 0 0 pu_F := by
  refine Met.ofW (cc := cX8_report) (maxL := 5) (ret := (some .int)) (by decide) rfl ?_
  intro p e s m args below meth c s₁ B hml hv
  obtain ⟨rfl, hP, hK⟩ := hv
  have hx := B.exec
  have hb := B.bytes
  have hr := B.returns
  have hts := atoms_spec (ws := wsX8_report) B.pre
  have hown : s.vm.findClass RX8 = some m.cls := findClass_of_methodNamed B.named
  have hlocks := B.notSynchronized
  have hl := lv_entry ([.ref h0, .int a1, .int a2]) (n := 5) (Nat.le_of_ble_eq_true rfl)
  rw [lg_entry_eq]
  generalize (lg_sl ([.ref h0, .int a1, .int a2]) ++ List.replicate (5 - (lg_sl ([.ref h0, .int a1, .int a2])).length) Slot.unset).toArray = ls at hl ⊢
  have hl : lv_has ls 5 [(0, .ref h0), (1, .int a1), (2, .int a2)] := hl
  refine lv_aload_n hx hb dX8_report_0 rfl (lv_at hl 0 rfl) ?_
  refine lv_iload_n hx hb dX8_report_1 rfl (lv_at hl 1 rfl) ?_
  refine lv_iload_n hx hb dX8_report_2 rfl (lv_at hl 2 rfl) ?_
  refine pu_call (va_runV (As := [.int a1, .int a2]) (rest := []) ⟨hx, hb, hml, hown, hts⟩ (c_X8_canWrite l dC dI h0 q cI a1 a2) (cwV 2 hts gX8_report_X8_canWrite rfl rfl rfl (by decide +kernel) ⟨Nat.le_of_ble_eq_true rfl, Nat.le_of_ble_eq_true rfl⟩) (pu_pre hP hK (ci := 7) (q0 := 0) rfl rfl) rfl rfl hl.1 rfl (lv_room (Nat.le_of_ble_eq_true rfl)) dX8_report_3 ⟨Nat.zero_le _, Nat.zero_le _⟩) ?_
  refine lv_if_ne (tgt := 11) hx hb dX8_report_6 (by decide) (fun h_1 => absurd (by decide) h_1) (fun h_1 => ?_)
  refine lv_iconst (v := (-1)) hx hb dX8_report_9 (by decide) ?_
  exact W.iret (v := (-1)) hx hb hr (fun t ht hW => ⟨rfl, ht⟩) (fun q h => by cases h) dX8_report_10

set_option maxHeartbeats 4000000 in
set_option maxRecDepth 100000 in
theorem c_X8_known (l : Launch) (dC : Nat → ClassId) (dI : Nat → Nat → Nat) (h0 : Nat) (q : Nat → Nat) (cI : ClassId) (a1 a2 a3 : Int32) : Met l yX8_known wsX8_known ({ frames := 2, cells := 0, slots := 0, locals := 43 }) (va_Pc [.ref h0, .int a1, .int a2, .int a3] (pu_P (dC, dI) vwCl (fm_T cI) (fm_W h0 q cI))) (pu_Q (.int (-1))) 0 0 pu_F := by
  refine Met.ofW (cc := cX8_known) (maxL := 5) (ret := (some .int)) (by decide) rfl ?_
  intro p e s m args below meth c s₁ B hml hv
  obtain ⟨rfl, hP, hK⟩ := hv
  have hx := B.exec
  have hb := B.bytes
  have hr := B.returns
  have hts := atoms_spec (ws := wsX8_known) B.pre
  have hown : s.vm.findClass RX8 = some m.cls := findClass_of_methodNamed B.named
  have hlocks := B.notSynchronized
  have hl := lv_entry ([.ref h0, .int a1, .int a2, .int a3]) (n := 5) (Nat.le_of_ble_eq_true rfl)
  rw [lg_entry_eq]
  generalize (lg_sl ([.ref h0, .int a1, .int a2, .int a3]) ++ List.replicate (5 - (lg_sl ([.ref h0, .int a1, .int a2, .int a3])).length) Slot.unset).toArray = ls at hl ⊢
  have hl : lv_has ls 5 [(0, .ref h0), (1, .int a1), (2, .int a2), (3, .int a3)] := hl
  refine lv_aload_n hx hb dX8_known_0 rfl (lv_at hl 0 rfl) ?_
  refine lv_iload_n hx hb dX8_known_1 rfl (lv_at hl 1 rfl) ?_
  refine pu_call (va_runV (As := [.int a1]) (rest := []) ⟨hx, hb, hml, hown, hts⟩ (c_X8_isPost l dC dI h0 q cI a1) (cwV 1 hts gX8_known_X8_isPost rfl rfl rfl (by decide +kernel) ⟨Nat.le_of_ble_eq_true rfl, Nat.le_of_ble_eq_true rfl⟩) (pu_pre hP hK (ci := 7) (q0 := 0) rfl rfl) rfl rfl hl.1 rfl (lv_room (Nat.le_of_ble_eq_true rfl)) dX8_known_2 ⟨Nat.zero_le _, Nat.zero_le _⟩) ?_
  refine lv_if_eq (tgt := 23) hx hb dX8_known_5 (by decide) (fun h_1 => ?_) (fun h_1 => absurd (by decide) h_1)
  refine lv_iconst (v := (-1)) hx hb dX8_known_23 (by decide) ?_
  exact W.iret (v := (-1)) hx hb hr (fun t ht hW => ⟨rfl, ht⟩) (fun q h => by cases h) dX8_known_24

set_option maxHeartbeats 4000000 in
set_option maxRecDepth 100000 in
theorem c_X8_knownDay (l : Launch) (dC : Nat → ClassId) (dI : Nat → Nat → Nat) (h0 : Nat) (q : Nat → Nat) (cI : ClassId) (a1 a2 : Int32) : Met l yX8_knownDay wsX8_knownDay ({ frames := 2, cells := 0, slots := 0, locals := 43 }) (va_Pc [.ref h0, .int a1, .int a2] (pu_P (dC, dI) vwCl (fm_T cI) (fm_W h0 q cI))) (pu_Q (.int (-1))) 0 0 pu_F := by
  refine Met.ofW (cc := cX8_knownDay) (maxL := 4) (ret := (some .int)) (by decide) rfl ?_
  intro p e s m args below meth c s₁ B hml hv
  obtain ⟨rfl, hP, hK⟩ := hv
  have hx := B.exec
  have hb := B.bytes
  have hr := B.returns
  have hts := atoms_spec (ws := wsX8_knownDay) B.pre
  have hown : s.vm.findClass RX8 = some m.cls := findClass_of_methodNamed B.named
  have hlocks := B.notSynchronized
  have hl := lv_entry ([.ref h0, .int a1, .int a2]) (n := 4) (Nat.le_of_ble_eq_true rfl)
  rw [lg_entry_eq]
  generalize (lg_sl ([.ref h0, .int a1, .int a2]) ++ List.replicate (4 - (lg_sl ([.ref h0, .int a1, .int a2])).length) Slot.unset).toArray = ls at hl ⊢
  have hl : lv_has ls 4 [(0, .ref h0), (1, .int a1), (2, .int a2)] := hl
  refine lv_aload_n hx hb dX8_knownDay_0 rfl (lv_at hl 0 rfl) ?_
  refine lv_iload_n hx hb dX8_knownDay_1 rfl (lv_at hl 1 rfl) ?_
  refine pu_call (va_runV (As := [.int a1]) (rest := []) ⟨hx, hb, hml, hown, hts⟩ (c_X8_isPost l dC dI h0 q cI a1) (cwV 1 hts gX8_knownDay_X8_isPost rfl rfl rfl (by decide +kernel) ⟨Nat.le_of_ble_eq_true rfl, Nat.le_of_ble_eq_true rfl⟩) (pu_pre hP hK (ci := 7) (q0 := 0) rfl rfl) rfl rfl hl.1 rfl (lv_room (Nat.le_of_ble_eq_true rfl)) dX8_knownDay_2 ⟨Nat.zero_le _, Nat.zero_le _⟩) ?_
  refine lv_if_eq (tgt := 16) hx hb dX8_knownDay_5 (by decide) (fun h_1 => ?_) (fun h_1 => absurd (by decide) h_1)
  refine lv_iconst (v := (-1)) hx hb dX8_knownDay_16 (by decide) ?_
  exact W.iret (v := (-1)) hx hb hr (fun t ht hW => ⟨rfl, ht⟩) (fun q h => by cases h) dX8_knownDay_17

set_option maxHeartbeats 4000000 in
set_option maxRecDepth 100000 in
theorem c_X8_cost (l : Launch) (dC : Nat → ClassId) (dI : Nat → Nat → Nat) (h0 : Nat) (q : Nat → Nat) (cI : ClassId) (a1 a2 a3 a4 a5 : Int32) : Met l yX8_cost wsX8_cost ({ frames := 2, cells := 0, slots := 0, locals := 43 }) (va_Pc [.ref h0, .int a1, .int a2, .int a3, .int a4, .int a5] (pu_P (dC, dI) vwCl (fm_T cI) (fm_W h0 q cI))) (pu_Q (.int (-1))) 0 0 pu_F := by
  refine Met.ofW (cc := cX8_cost) (maxL := 10) (ret := (some .int)) (by decide) rfl ?_
  intro p e s m args below meth c s₁ B hml hv
  obtain ⟨rfl, hP, hK⟩ := hv
  have hx := B.exec
  have hb := B.bytes
  have hr := B.returns
  have hts := atoms_spec (ws := wsX8_cost) B.pre
  have hown : s.vm.findClass RX8 = some m.cls := findClass_of_methodNamed B.named
  have hlocks := B.notSynchronized
  have hl := lv_entry ([.ref h0, .int a1, .int a2, .int a3, .int a4, .int a5]) (n := 10) (Nat.le_of_ble_eq_true rfl)
  rw [lg_entry_eq]
  generalize (lg_sl ([.ref h0, .int a1, .int a2, .int a3, .int a4, .int a5]) ++ List.replicate (10 - (lg_sl ([.ref h0, .int a1, .int a2, .int a3, .int a4, .int a5])).length) Slot.unset).toArray = ls at hl ⊢
  have hl : lv_has ls 10 [(0, .ref h0), (1, .int a1), (2, .int a2), (3, .int a3), (4, .int a4), (5, .int a5)] := hl
  refine lv_aload_n hx hb dX8_cost_0 rfl (lv_at hl 0 rfl) ?_
  refine lv_iload_n hx hb dX8_cost_1 rfl (lv_at hl 1 rfl) ?_
  refine pu_call (va_runV (As := [.int a1]) (rest := []) ⟨hx, hb, hml, hown, hts⟩ (c_X8_isPost l dC dI h0 q cI a1) (cwV 1 hts gX8_cost_X8_isPost rfl rfl rfl (by decide +kernel) ⟨Nat.le_of_ble_eq_true rfl, Nat.le_of_ble_eq_true rfl⟩) (pu_pre hP hK (ci := 7) (q0 := 0) rfl rfl) rfl rfl hl.1 rfl (lv_room (Nat.le_of_ble_eq_true rfl)) dX8_cost_2 ⟨Nat.zero_le _, Nat.zero_le _⟩) ?_
  refine lv_if_eq (tgt := 47) hx hb dX8_cost_5 (by decide) (fun h_1 => ?_) (fun h_1 => absurd (by decide) h_1)
  refine lv_iconst (v := (-1)) hx hb dX8_cost_47 (by decide) ?_
  exact W.iret (v := (-1)) hx hb hr (fun t ht hW => ⟨rfl, ht⟩) (fun q h => by cases h) dX8_cost_48

set_option maxHeartbeats 4000000 in
set_option maxRecDepth 100000 in
theorem c_X8_indent (l : Launch) (dC : Nat → ClassId) (dI : Nat → Nat → Nat) (h0 : Nat) (q : Nat → Nat) (cI : ClassId) (a1 a2 a3 a4 : Int32) : Met l yX8_indent wsX8_indent ({ frames := 3, cells := 0, slots := 0, locals := 72 }) (va_Pc [.ref h0, .int a1, .int a2, .int a3, .int a4] (pu_P (dC, dI) vwCl (fm_T cI) (fm_W h0 q cI))) (pu_Q (.int (-1))) 0 0 pu_F := by
  refine Met.ofW (cc := cX8_indent) (maxL := 8) (ret := (some .int)) (by decide) rfl ?_
  intro p e s m args below meth c s₁ B hml hv
  obtain ⟨rfl, hP, hK⟩ := hv
  have hx := B.exec
  have hb := B.bytes
  have hr := B.returns
  have hts := atoms_spec (ws := wsX8_indent) B.pre
  have hown : s.vm.findClass RX8 = some m.cls := findClass_of_methodNamed B.named
  have hlocks := B.notSynchronized
  have hl := lv_entry ([.ref h0, .int a1, .int a2, .int a3, .int a4]) (n := 8) (Nat.le_of_ble_eq_true rfl)
  rw [lg_entry_eq]
  generalize (lg_sl ([.ref h0, .int a1, .int a2, .int a3, .int a4]) ++ List.replicate (8 - (lg_sl ([.ref h0, .int a1, .int a2, .int a3, .int a4])).length) Slot.unset).toArray = ls at hl ⊢
  have hl : lv_has ls 8 [(0, .ref h0), (1, .int a1), (2, .int a2), (3, .int a3), (4, .int a4)] := hl
  refine lv_iconst (v := (-1)) hx hb dX8_indent_0 (by decide) ?_
  refine lv_istore (lv' := [(5, .int (-1)), (0, .ref h0), (1, .int a1), (2, .int a2), (3, .int a3), (4, .int a4)]) hx hb dX8_indent_1 hl (by decide) rfl (fun ls hl => ?_)
  refine lv_iconst (v := 0) hx hb dX8_indent_3 (by decide) ?_
  refine lv_istore (lv' := [(6, .int 0), (5, .int (-1)), (0, .ref h0), (1, .int a1), (2, .int a2), (3, .int a3), (4, .int a4)]) hx hb dX8_indent_4 hl (by decide) rfl (fun ls hl => ?_)
  refine lv_iload hx hb dX8_indent_6 (lv_at hl 0 rfl) ?_
  refine lv_bipush (v := 21) hx hb dX8_indent_8 (by decide) ?_
  refine lv_icmp_ge (tgt := 66) hx hb dX8_indent_10 (by decide) (fun h_1 => absurd h_1 (by decide)) (fun h_1 => ?_)
  refine lv_aload_n hx hb dX8_indent_13 rfl (lv_at hl 2 rfl) ?_
  refine lv_iload_n hx hb dX8_indent_14 rfl (lv_at hl 3 rfl) ?_
  refine lv_iload_n hx hb dX8_indent_15 rfl (lv_at hl 4 rfl) ?_
  refine lv_iload_n hx hb dX8_indent_16 rfl (lv_at hl 5 rfl) ?_
  refine lv_iload hx hb dX8_indent_17 (lv_at hl 6 rfl) ?_
  refine lv_iload hx hb dX8_indent_19 (lv_at hl 0 rfl) ?_
  refine pu_call (va_runV (As := [.int a1, .int a2, .int a3, .int a4, .int 0]) (rest := []) ⟨hx, hb, hml, hown, hts⟩ (c_X8_cost l dC dI h0 q cI a1 a2 a3 a4 0) (cwV 5 hts gX8_indent_X8_cost rfl rfl rfl (by decide +kernel) ⟨Nat.le_of_ble_eq_true rfl, Nat.le_of_ble_eq_true rfl⟩) (pu_pre hP hK (ci := 7) (q0 := 0) rfl rfl) rfl rfl hl.1 rfl (lv_room (Nat.le_of_ble_eq_true rfl)) dX8_indent_21 ⟨Nat.zero_le _, Nat.zero_le _⟩) ?_
  refine lv_istore (lv' := [(7, .int (-1)), (6, .int 0), (5, .int (-1)), (0, .ref h0), (1, .int a1), (2, .int a2), (3, .int a3), (4, .int a4)]) hx hb dX8_indent_24 hl (by decide) rfl (fun ls hl => ?_)
  refine lv_iload hx hb dX8_indent_26 (lv_at hl 0 rfl) ?_
  refine lv_iconst (v := (-1)) hx hb dX8_indent_28 (by decide) ?_
  refine lv_icmp_ne (tgt := 34) hx hb dX8_indent_29 (by decide) (fun h_2 => absurd (by decide) h_2) (fun h_2 => ?_)
  refine lv_iconst (v := (-1)) hx hb dX8_indent_32 (by decide) ?_
  exact W.iret (v := (-1)) hx hb hr (fun t ht hW => ⟨rfl, ht⟩) (fun q h => by cases h) dX8_indent_33

set_option maxHeartbeats 4000000 in
set_option maxRecDepth 100000 in
theorem c_X8_quarrel (l : Launch) (dC : Nat → ClassId) (dI : Nat → Nat → Nat) (h0 : Nat) (q : Nat → Nat) (cI : ClassId) (a1 a2 : Int32) : Met l yX8_quarrel wsX8_quarrel ({ frames := 2, cells := 0, slots := 0, locals := 43 }) (va_Pc [.ref h0, .int a1, .int a2] (pu_P (dC, dI) vwCl (fm_T cI) (fm_W h0 q cI))) (pu_Q (.int (-1))) 0 0 pu_F := by
  refine Met.ofW (cc := cX8_quarrel) (maxL := 5) (ret := (some .int)) (by decide) rfl ?_
  intro p e s m args below meth c s₁ B hml hv
  obtain ⟨rfl, hP, hK⟩ := hv
  have hx := B.exec
  have hb := B.bytes
  have hr := B.returns
  have hts := atoms_spec (ws := wsX8_quarrel) B.pre
  have hown : s.vm.findClass RX8 = some m.cls := findClass_of_methodNamed B.named
  have hlocks := B.notSynchronized
  have hl := lv_entry ([.ref h0, .int a1, .int a2]) (n := 5) (Nat.le_of_ble_eq_true rfl)
  rw [lg_entry_eq]
  generalize (lg_sl ([.ref h0, .int a1, .int a2]) ++ List.replicate (5 - (lg_sl ([.ref h0, .int a1, .int a2])).length) Slot.unset).toArray = ls at hl ⊢
  have hl : lv_has ls 5 [(0, .ref h0), (1, .int a1), (2, .int a2)] := hl
  refine lv_aload_n hx hb dX8_quarrel_0 rfl (lv_at hl 0 rfl) ?_
  refine lv_iload_n hx hb dX8_quarrel_1 rfl (lv_at hl 1 rfl) ?_
  refine pu_call (va_runV (As := [.int a1]) (rest := []) ⟨hx, hb, hml, hown, hts⟩ (c_X8_isPost l dC dI h0 q cI a1) (cwV 1 hts gX8_quarrel_X8_isPost rfl rfl rfl (by decide +kernel) ⟨Nat.le_of_ble_eq_true rfl, Nat.le_of_ble_eq_true rfl⟩) (pu_pre hP hK (ci := 7) (q0 := 0) rfl rfl) rfl rfl hl.1 rfl (lv_room (Nat.le_of_ble_eq_true rfl)) dX8_quarrel_2 ⟨Nat.zero_le _, Nat.zero_le _⟩) ?_
  refine lv_if_eq (tgt := 16) hx hb dX8_quarrel_5 (by decide) (fun h_1 => ?_) (fun h_1 => absurd (by decide) h_1)
  refine lv_iconst (v := (-1)) hx hb dX8_quarrel_16 (by decide) ?_
  exact W.iret (v := (-1)) hx hb hr (fun t ht hW => ⟨rfl, ht⟩) (fun q h => by cases h) dX8_quarrel_17

set_option maxHeartbeats 4000000 in
set_option maxRecDepth 100000 in
theorem c_X8_canoe (l : Launch) (dC : Nat → ClassId) (dI : Nat → Nat → Nat) (h0 : Nat) (q : Nat → Nat) (cI : ClassId) (a1 a2 : Int32) : Met l yX8_canoe wsX8_canoe ({ frames := 2, cells := 0, slots := 0, locals := 43 }) (va_Pc [.ref h0, .int a1, .int a2] (pu_P (dC, dI) vwCl (fm_T cI) (fm_W h0 q cI))) (pu_Q (.int (-1))) 0 0 pu_F := by
  refine Met.ofW (cc := cX8_canoe) (maxL := 3) (ret := (some .int)) (by decide) rfl ?_
  intro p e s m args below meth c s₁ B hml hv
  obtain ⟨rfl, hP, hK⟩ := hv
  have hx := B.exec
  have hb := B.bytes
  have hr := B.returns
  have hts := atoms_spec (ws := wsX8_canoe) B.pre
  have hown : s.vm.findClass RX8 = some m.cls := findClass_of_methodNamed B.named
  have hlocks := B.notSynchronized
  have hl := lv_entry ([.ref h0, .int a1, .int a2]) (n := 3) (Nat.le_of_ble_eq_true rfl)
  rw [lg_entry_eq]
  generalize (lg_sl ([.ref h0, .int a1, .int a2]) ++ List.replicate (3 - (lg_sl ([.ref h0, .int a1, .int a2])).length) Slot.unset).toArray = ls at hl ⊢
  have hl : lv_has ls 3 [(0, .ref h0), (1, .int a1), (2, .int a2)] := hl
  refine lv_aload_n hx hb dX8_canoe_0 rfl (lv_at hl 0 rfl) ?_
  refine lv_iload_n hx hb dX8_canoe_1 rfl (lv_at hl 1 rfl) ?_
  refine pu_call (va_runV (As := [.int a1]) (rest := []) ⟨hx, hb, hml, hown, hts⟩ (c_X8_isCanoe l dC dI h0 q cI a1) (cwV 1 hts gX8_canoe_X8_isCanoe rfl rfl rfl (by decide +kernel) ⟨Nat.le_of_ble_eq_true rfl, Nat.le_of_ble_eq_true rfl⟩) (pu_pre hP hK (ci := 7) (q0 := 0) rfl rfl) rfl rfl hl.1 rfl (lv_room (Nat.le_of_ble_eq_true rfl)) dX8_canoe_2 ⟨Nat.zero_le _, Nat.zero_le _⟩) ?_
  refine lv_if_ne (tgt := 10) hx hb dX8_canoe_5 (by decide) (fun h_1 => absurd (by decide) h_1) (fun h_1 => ?_)
  refine lv_iconst (v := (-1)) hx hb dX8_canoe_8 (by decide) ?_
  exact W.iret (v := (-1)) hx hb hr (fun t ht hW => ⟨rfl, ht⟩) (fun q h => by cases h) dX8_canoe_9

set_option maxHeartbeats 4000000 in
set_option maxRecDepth 100000 in
theorem c_X8_told (l : Launch) (dC : Nat → ClassId) (dI : Nat → Nat → Nat) (h0 : Nat) (q : Nat → Nat) (cI : ClassId) (a1 a2 : Int32) : Met l yX8_told wsX8_told ({ frames := 2, cells := 0, slots := 0, locals := 43 }) (va_Pc [.ref h0, .int a1, .int a2] (pu_P (dC, dI) vwCl (fm_T cI) (fm_W h0 q cI))) (pu_Q (.int (-1))) 0 0 pu_F := by
  refine Met.ofW (cc := cX8_told) (maxL := 5) (ret := (some .int)) (by decide) rfl ?_
  intro p e s m args below meth c s₁ B hml hv
  obtain ⟨rfl, hP, hK⟩ := hv
  have hx := B.exec
  have hb := B.bytes
  have hr := B.returns
  have hts := atoms_spec (ws := wsX8_told) B.pre
  have hown : s.vm.findClass RX8 = some m.cls := findClass_of_methodNamed B.named
  have hlocks := B.notSynchronized
  have hl := lv_entry ([.ref h0, .int a1, .int a2]) (n := 5) (Nat.le_of_ble_eq_true rfl)
  rw [lg_entry_eq]
  generalize (lg_sl ([.ref h0, .int a1, .int a2]) ++ List.replicate (5 - (lg_sl ([.ref h0, .int a1, .int a2])).length) Slot.unset).toArray = ls at hl ⊢
  have hl : lv_has ls 5 [(0, .ref h0), (1, .int a1), (2, .int a2)] := hl
  refine lv_aload_n hx hb dX8_told_0 rfl (lv_at hl 0 rfl) ?_
  refine lv_iload_n hx hb dX8_told_1 rfl (lv_at hl 1 rfl) ?_
  refine pu_call (va_runV (As := [.int a1]) (rest := []) ⟨hx, hb, hml, hown, hts⟩ (c_X8_isPost l dC dI h0 q cI a1) (cwV 1 hts gX8_told_X8_isPost rfl rfl rfl (by decide +kernel) ⟨Nat.le_of_ble_eq_true rfl, Nat.le_of_ble_eq_true rfl⟩) (pu_pre hP hK (ci := 7) (q0 := 0) rfl rfl) rfl rfl hl.1 rfl (lv_room (Nat.le_of_ble_eq_true rfl)) dX8_told_2 ⟨Nat.zero_le _, Nat.zero_le _⟩) ?_
  refine lv_if_ne (tgt := 10) hx hb dX8_told_5 (by decide) (fun h_1 => absurd (by decide) h_1) (fun h_1 => ?_)
  refine lv_iconst (v := (-1)) hx hb dX8_told_8 (by decide) ?_
  exact W.iret (v := (-1)) hx hb hr (fun t ht hW => ⟨rfl, ht⟩) (fun q h => by cases h) dX8_told_9
