set_option maxHeartbeats 4000000 in
set_option maxRecDepth 100000 in
theorem c_X7_way (l : Launch) (dC : Nat → ClassId) (dI : Nat → Nat → Nat) (h0 : Nat) (q : Nat → Nat) (cy : Nat → ClassId) (a1 a2 a3 a4 : Int32) : Met l yX7_way wsX7_way ({ frames := 2, cells := 0, slots := 0, locals := 43 }) (va_Pc [.ref h0, .int a1, .int a2, .int a3, .int a4] (pu_P (dC, dI) vwCl (fx_T cy) (fx_W h0 q cy))) (pu_Q (.int (-1))) 0 0 pu_F := by
  refine Met.ofW (cc := cX7_way) (maxL := 8) (ret := (some .int)) (by decide) rfl ?_
  intro p e s m args below meth c s₁ B hml hv
  obtain ⟨rfl, hP, hK⟩ := hv
  have hx := B.exec
  have hb := B.bytes
  have hr := B.returns
  have hts := atoms_spec (ws := wsX7_way) B.pre
  have hown : s.vm.findClass RX7 = some m.cls := findClass_of_methodNamed B.named
  have hlocks := B.notSynchronized
  have hl := lv_entry ([.ref h0, .int a1, .int a2, .int a3, .int a4]) (n := 8) (Nat.le_of_ble_eq_true rfl)
  rw [lg_entry_eq]
  generalize (lg_sl ([.ref h0, .int a1, .int a2, .int a3, .int a4]) ++ List.replicate (8 - (lg_sl ([.ref h0, .int a1, .int a2, .int a3, .int a4])).length) Slot.unset).toArray = ls at hl ⊢
  have hl : lv_has ls 8 [(0, .ref h0), (1, .int a1), (2, .int a2), (3, .int a3), (4, .int a4)] := hl
  refine lv_aload_n hx hb dX7_way_0 rfl (lv_at hl 0 rfl) ?_
  refine lv_iload_n hx hb dX7_way_1 rfl (lv_at hl 1 rfl) ?_
  refine lv_iload_n hx hb dX7_way_2 rfl (lv_at hl 2 rfl) ?_
  refine pu_call (va_runV (As := [.int a1, .int a2]) (rest := []) ⟨hx, hb, hml, hown, hts⟩ (c_X7_areTwoPosts l dC dI h0 q cy a1 a2) (cwV 2 hts gX7_way_X7_areTwoPosts rfl rfl rfl (by decide +kernel) ⟨Nat.le_of_ble_eq_true rfl, Nat.le_of_ble_eq_true rfl⟩) (pu_pre hP hK (ci := 6) (q0 := 0) rfl rfl) rfl rfl hl.1 rfl (lv_room (Nat.le_of_ble_eq_true rfl)) dX7_way_3 ⟨Nat.zero_le _, Nat.zero_le _⟩) ?_
  refine lv_if_eq (tgt := 30) hx hb dX7_way_6 (by decide) (fun h_1 => ?_) (fun h_1 => absurd (by decide) h_1)
  refine lv_iconst (v := (-1)) hx hb dX7_way_30 (by decide) ?_
  exact W.iret (v := (-1)) hx hb hr (fun t ht hW => ⟨rfl, ht⟩) (fun q h => by cases h) dX7_way_31

set_option maxHeartbeats 4000000 in
set_option maxRecDepth 100000 in
theorem c_X7_next (l : Launch) (dC : Nat → ClassId) (dI : Nat → Nat → Nat) (h0 : Nat) (q : Nat → Nat) (cy : Nat → ClassId) (a1 a2 : Int32) : Met l yX7_next wsX7_next ({ frames := 2, cells := 0, slots := 0, locals := 43 }) (va_Pc [.ref h0, .int a1, .int a2] (pu_P (dC, dI) vwCl (fx_T cy) (fx_W h0 q cy))) (pu_Q (.int (-1))) 0 0 pu_F := by
  refine Met.ofW (cc := cX7_next) (maxL := 4) (ret := (some .int)) (by decide) rfl ?_
  intro p e s m args below meth c s₁ B hml hv
  obtain ⟨rfl, hP, hK⟩ := hv
  have hx := B.exec
  have hb := B.bytes
  have hr := B.returns
  have hts := atoms_spec (ws := wsX7_next) B.pre
  have hown : s.vm.findClass RX7 = some m.cls := findClass_of_methodNamed B.named
  have hlocks := B.notSynchronized
  have hl := lv_entry ([.ref h0, .int a1, .int a2]) (n := 4) (Nat.le_of_ble_eq_true rfl)
  rw [lg_entry_eq]
  generalize (lg_sl ([.ref h0, .int a1, .int a2]) ++ List.replicate (4 - (lg_sl ([.ref h0, .int a1, .int a2])).length) Slot.unset).toArray = ls at hl ⊢
  have hl : lv_has ls 4 [(0, .ref h0), (1, .int a1), (2, .int a2)] := hl
  refine lv_aload_n hx hb dX7_next_0 rfl (lv_at hl 0 rfl) ?_
  refine lv_iload_n hx hb dX7_next_1 rfl (lv_at hl 1 rfl) ?_
  refine lv_iload_n hx hb dX7_next_2 rfl (lv_at hl 2 rfl) ?_
  refine pu_call (va_runV (As := [.int a1, .int a2]) (rest := []) ⟨hx, hb, hml, hown, hts⟩ (c_X7_areTwoPosts l dC dI h0 q cy a1 a2) (cwV 2 hts gX7_next_X7_areTwoPosts rfl rfl rfl (by decide +kernel) ⟨Nat.le_of_ble_eq_true rfl, Nat.le_of_ble_eq_true rfl⟩) (pu_pre hP hK (ci := 6) (q0 := 0) rfl rfl) rfl rfl hl.1 rfl (lv_room (Nat.le_of_ble_eq_true rfl)) dX7_next_3 ⟨Nat.zero_le _, Nat.zero_le _⟩) ?_
  refine lv_if_eq (tgt := 22) hx hb dX7_next_6 (by decide) (fun h_1 => ?_) (fun h_1 => absurd (by decide) h_1)
  refine lv_iconst (v := (-1)) hx hb dX7_next_22 (by decide) ?_
  exact W.iret (v := (-1)) hx hb hr (fun t ht hW => ⟨rfl, ht⟩) (fun q h => by cases h) dX7_next_23

set_option maxHeartbeats 4000000 in
set_option maxRecDepth 100000 in
theorem c_X7_store (l : Launch) (dC : Nat → ClassId) (dI : Nat → Nat → Nat) (h0 : Nat) (q : Nat → Nat) (cy : Nat → ClassId) (a1 a2 a3 : Int32) : Met l yX7_store wsX7_store ({ frames := 1, cells := 0, slots := 0, locals := 21 }) (va_Pc [.ref h0, .int a1, .int a2, .int a3] (pu_P (dC, dI) vwCl (fx_T cy) (fx_W h0 q cy))) (pu_Q (.int (-1))) 0 0 pu_F := by
  refine Met.ofW (cc := cX7_store) (maxL := 5) (ret := (some .int)) (by decide) rfl ?_
  intro p e s m args below meth c s₁ B hml hv
  obtain ⟨rfl, hP, hK⟩ := hv
  have hx := B.exec
  have hb := B.bytes
  have hr := B.returns
  have hts := atoms_spec (ws := wsX7_store) B.pre
  have hown : s.vm.findClass RX7 = some m.cls := findClass_of_methodNamed B.named
  have hlocks := B.notSynchronized
  have hl := lv_entry ([.ref h0, .int a1, .int a2, .int a3]) (n := 5) (Nat.le_of_ble_eq_true rfl)
  rw [lg_entry_eq]
  generalize (lg_sl ([.ref h0, .int a1, .int a2, .int a3]) ++ List.replicate (5 - (lg_sl ([.ref h0, .int a1, .int a2, .int a3])).length) Slot.unset).toArray = ls at hl ⊢
  have hl : lv_has ls 5 [(0, .ref h0), (1, .int a1), (2, .int a2), (3, .int a3)] := hl
  refine lv_aload_n hx hb dX7_store_0 rfl (lv_at hl 0 rfl) ?_
  refine lv_iload_n hx hb dX7_store_1 rfl (lv_at hl 1 rfl) ?_
  refine pu_call (va_runV (As := [.int a1]) (rest := []) ⟨hx, hb, hml, hown, hts⟩ (c_X7_postAt l dC dI h0 q cy a1) (cwV 1 hts gX7_store_X7_postAt rfl rfl rfl (by decide +kernel) ⟨Nat.le_of_ble_eq_true rfl, Nat.le_of_ble_eq_true rfl⟩) (pu_pre hP hK (ci := 6) (q0 := 0) rfl rfl) rfl rfl hl.1 rfl (lv_room (Nat.le_of_ble_eq_true rfl)) dX7_store_2 ⟨Nat.zero_le _, Nat.zero_le _⟩) ?_
  refine lv_astoreN (lv' := [(4, .null), (0, .ref h0), (1, .int a1), (2, .int a2), (3, .int a3)]) hx hb dX7_store_5 hl (by decide) rfl (fun ls hl => ?_)
  refine lv_aloadN hx hb dX7_store_7 (lv_at hl 0 rfl) ?_
  refine lv_ifnullN (tgt := 44) hx hb dX7_store_9 (by decide) ?_
  refine lv_iconst (v := (-1)) hx hb dX7_store_44 (by decide) ?_
  exact W.iret (v := (-1)) hx hb hr (fun t ht hW => ⟨rfl, ht⟩) (fun q h => by cases h) dX7_store_45

set_option maxHeartbeats 4000000 in
set_option maxRecDepth 100000 in
theorem c_X7_send (l : Launch) (dC : Nat → ClassId) (dI : Nat → Nat → Nat) (h0 : Nat) (q : Nat → Nat) (cy : Nat → ClassId) (a1 a2 : Int32) : Met l yX7_send wsX7_send ({ frames := 1, cells := 0, slots := 0, locals := 21 }) (va_Pc [.ref h0, .int a1, .int a2] (pu_P (dC, dI) vwCl (fx_T cy) (fx_W h0 q cy))) (pu_Q (.int (-1))) 0 0 pu_F := by
  refine Met.ofW (cc := cX7_send) (maxL := 8) (ret := (some .int)) (by decide) rfl ?_
  intro p e s m args below meth c s₁ B hml hv
  obtain ⟨rfl, hP, hK⟩ := hv
  have hx := B.exec
  have hb := B.bytes
  have hr := B.returns
  have hts := atoms_spec (ws := wsX7_send) B.pre
  have hown : s.vm.findClass RX7 = some m.cls := findClass_of_methodNamed B.named
  have hlocks := B.notSynchronized
  have hl := lv_entry ([.ref h0, .int a1, .int a2]) (n := 8) (Nat.le_of_ble_eq_true rfl)
  rw [lg_entry_eq]
  generalize (lg_sl ([.ref h0, .int a1, .int a2]) ++ List.replicate (8 - (lg_sl ([.ref h0, .int a1, .int a2])).length) Slot.unset).toArray = ls at hl ⊢
  have hl : lv_has ls 8 [(0, .ref h0), (1, .int a1), (2, .int a2)] := hl
  refine lv_aload_n hx hb dX7_send_0 rfl (lv_at hl 0 rfl) ?_
  refine lv_iload_n hx hb dX7_send_1 rfl (lv_at hl 1 rfl) ?_
  refine pu_call (va_runV (As := [.int a1]) (rest := []) ⟨hx, hb, hml, hown, hts⟩ (c_X7_postAt l dC dI h0 q cy a1) (cwV 1 hts gX7_send_X7_postAt rfl rfl rfl (by decide +kernel) ⟨Nat.le_of_ble_eq_true rfl, Nat.le_of_ble_eq_true rfl⟩) (pu_pre hP hK (ci := 6) (q0 := 0) rfl rfl) rfl rfl hl.1 rfl (lv_room (Nat.le_of_ble_eq_true rfl)) dX7_send_2 ⟨Nat.zero_le _, Nat.zero_le _⟩) ?_
  refine lv_astore_nN (lv' := [(3, .null), (0, .ref h0), (1, .int a1), (2, .int a2)]) hx hb dX7_send_5 rfl hl (by decide) rfl (fun ls hl => ?_)
  refine lv_aload_n hx hb dX7_send_6 rfl (lv_at hl 1 rfl) ?_
  refine lv_iload_n hx hb dX7_send_7 rfl (lv_at hl 3 rfl) ?_
  refine pu_call (va_runV (As := [.int a2]) (rest := []) ⟨hx, hb, hml, hown, hts⟩ (c_X7_wayAt l dC dI h0 q cy a2) (cwV 1 hts gX7_send_X7_wayAt rfl rfl rfl (by decide +kernel) ⟨Nat.le_of_ble_eq_true rfl, Nat.le_of_ble_eq_true rfl⟩) (pu_pre hP hK (ci := 6) (q0 := 0) rfl rfl) rfl rfl hl.1 rfl (lv_room (Nat.le_of_ble_eq_true rfl)) dX7_send_8 ⟨Nat.zero_le _, Nat.zero_le _⟩) ?_
  refine lv_astoreN (lv' := [(4, .null), (3, .null), (0, .ref h0), (1, .int a1), (2, .int a2)]) hx hb dX7_send_11 hl (by decide) rfl (fun ls hl => ?_)
  refine lv_aload_nN hx hb dX7_send_13 rfl (lv_at hl 1 rfl) ?_
  refine lv_ifnullN (tgt := 43) hx hb dX7_send_14 (by decide) ?_
  refine lv_iconst (v := (-1)) hx hb dX7_send_43 (by decide) ?_
  exact W.iret (v := (-1)) hx hb hr (fun t ht hW => ⟨rfl, ht⟩) (fun q h => by cases h) dX7_send_44

set_option maxHeartbeats 4000000 in
set_option maxRecDepth 100000 in
theorem c_X7_lose (l : Launch) (dC : Nat → ClassId) (dI : Nat → Nat → Nat) (h0 : Nat) (q : Nat → Nat) (cy : Nat → ClassId) (a1 : Int32) : Met l yX7_lose wsX7_lose ({ frames := 1, cells := 0, slots := 0, locals := 21 }) (va_Pc [.ref h0, .int a1] (pu_P (dC, dI) vwCl (fx_T cy) (fx_W h0 q cy))) (pu_Q (.int (-1))) 0 0 pu_F := by
  refine Met.ofW (cc := cX7_lose) (maxL := 5) (ret := (some .int)) (by decide) rfl ?_
  intro p e s m args below meth c s₁ B hml hv
  obtain ⟨rfl, hP, hK⟩ := hv
  have hx := B.exec
  have hb := B.bytes
  have hr := B.returns
  have hts := atoms_spec (ws := wsX7_lose) B.pre
  have hown : s.vm.findClass RX7 = some m.cls := findClass_of_methodNamed B.named
  have hlocks := B.notSynchronized
  have hl := lv_entry ([.ref h0, .int a1]) (n := 5) (Nat.le_of_ble_eq_true rfl)
  rw [lg_entry_eq]
  generalize (lg_sl ([.ref h0, .int a1]) ++ List.replicate (5 - (lg_sl ([.ref h0, .int a1])).length) Slot.unset).toArray = ls at hl ⊢
  have hl : lv_has ls 5 [(0, .ref h0), (1, .int a1)] := hl
  refine lv_aload_n hx hb dX7_lose_0 rfl (lv_at hl 0 rfl) ?_
  refine lv_iload_n hx hb dX7_lose_1 rfl (lv_at hl 1 rfl) ?_
  refine pu_call (va_runV (As := [.int a1]) (rest := []) ⟨hx, hb, hml, hown, hts⟩ (c_X7_canoeAt l dC dI h0 q cy a1) (cwV 1 hts gX7_lose_X7_canoeAt rfl rfl rfl (by decide +kernel) ⟨Nat.le_of_ble_eq_true rfl, Nat.le_of_ble_eq_true rfl⟩) (pu_pre hP hK (ci := 6) (q0 := 0) rfl rfl) rfl rfl hl.1 rfl (lv_room (Nat.le_of_ble_eq_true rfl)) dX7_lose_2 ⟨Nat.zero_le _, Nat.zero_le _⟩) ?_
  refine lv_astore_nN (lv' := [(2, .null), (0, .ref h0), (1, .int a1)]) hx hb dX7_lose_5 rfl hl (by decide) rfl (fun ls hl => ?_)
  refine lv_aload_nN hx hb dX7_lose_6 rfl (lv_at hl 0 rfl) ?_
  refine lv_ifnullN (tgt := 17) hx hb dX7_lose_7 (by decide) ?_
  refine lv_iconst (v := (-1)) hx hb dX7_lose_17 (by decide) ?_
  exact W.iret (v := (-1)) hx hb hr (fun t ht hW => ⟨rfl, ht⟩) (fun q h => by cases h) dX7_lose_18

set_option maxHeartbeats 4000000 in
set_option maxRecDepth 100000 in
theorem c_X7_spoil (l : Launch) (dC : Nat → ClassId) (dI : Nat → Nat → Nat) (h0 : Nat) (q : Nat → Nat) (cy : Nat → ClassId) (a1 a2 a3 : Int32) : Met l yX7_spoil wsX7_spoil ({ frames := 1, cells := 0, slots := 0, locals := 21 }) (va_Pc [.ref h0, .int a1, .int a2, .int a3] (pu_P (dC, dI) vwCl (fx_T cy) (fx_W h0 q cy))) (pu_Q (.int 0)) 0 0 pu_F := by
  refine Met.ofW (cc := cX7_spoil) (maxL := 5) (ret := (some .boolean)) (by decide) rfl ?_
  intro p e s m args below meth c s₁ B hml hv
  obtain ⟨rfl, hP, hK⟩ := hv
  have hx := B.exec
  have hb := B.bytes
  have hr := B.returns
  have hts := atoms_spec (ws := wsX7_spoil) B.pre
  have hown : s.vm.findClass RX7 = some m.cls := findClass_of_methodNamed B.named
  have hlocks := B.notSynchronized
  have hl := lv_entry ([.ref h0, .int a1, .int a2, .int a3]) (n := 5) (Nat.le_of_ble_eq_true rfl)
  rw [lg_entry_eq]
  generalize (lg_sl ([.ref h0, .int a1, .int a2, .int a3]) ++ List.replicate (5 - (lg_sl ([.ref h0, .int a1, .int a2, .int a3])).length) Slot.unset).toArray = ls at hl ⊢
  have hl : lv_has ls 5 [(0, .ref h0), (1, .int a1), (2, .int a2), (3, .int a3)] := hl
  refine lv_aload_n hx hb dX7_spoil_0 rfl (lv_at hl 0 rfl) ?_
  refine lv_iload_n hx hb dX7_spoil_1 rfl (lv_at hl 1 rfl) ?_
  refine pu_call (va_runV (As := [.int a1]) (rest := []) ⟨hx, hb, hml, hown, hts⟩ (c_X7_canoeAt l dC dI h0 q cy a1) (cwV 1 hts gX7_spoil_X7_canoeAt rfl rfl rfl (by decide +kernel) ⟨Nat.le_of_ble_eq_true rfl, Nat.le_of_ble_eq_true rfl⟩) (pu_pre hP hK (ci := 6) (q0 := 0) rfl rfl) rfl rfl hl.1 rfl (lv_room (Nat.le_of_ble_eq_true rfl)) dX7_spoil_2 ⟨Nat.zero_le _, Nat.zero_le _⟩) ?_
  refine lv_astoreN (lv' := [(4, .null), (0, .ref h0), (1, .int a1), (2, .int a2), (3, .int a3)]) hx hb dX7_spoil_5 hl (by decide) rfl (fun ls hl => ?_)
  refine lv_aloadN hx hb dX7_spoil_7 (lv_at hl 0 rfl) ?_
  refine lv_ifnullN (tgt := 42) hx hb dX7_spoil_9 (by decide) ?_
  refine lv_iconst (v := 0) hx hb dX7_spoil_42 (by decide) ?_
  exact W.zret (v := 0) hx hb hr rfl (fun t ht hW => ⟨rfl, ht⟩) (fun q h => by cases h) dX7_spoil_43

set_option maxHeartbeats 4000000 in
set_option maxRecDepth 100000 in
theorem c_X7_sell (l : Launch) (dC : Nat → ClassId) (dI : Nat → Nat → Nat) (h0 : Nat) (q : Nat → Nat) (cy : Nat → ClassId) (a1 a2 a3 a4 : Int32) : Met l yX7_sell wsX7_sell ({ frames := 1, cells := 0, slots := 0, locals := 21 }) (va_Pc [.ref h0, .int a1, .int a2, .int a3, .int a4] (pu_P (dC, dI) vwCl (fx_T cy) (fx_W h0 q cy))) (pu_Q (.int (-1))) 0 0 pu_F := by
  refine Met.ofW (cc := cX7_sell) (maxL := 7) (ret := (some .int)) (by decide) rfl ?_
  intro p e s m args below meth c s₁ B hml hv
  obtain ⟨rfl, hP, hK⟩ := hv
  have hx := B.exec
  have hb := B.bytes
  have hr := B.returns
  have hts := atoms_spec (ws := wsX7_sell) B.pre
  have hown : s.vm.findClass RX7 = some m.cls := findClass_of_methodNamed B.named
  have hlocks := B.notSynchronized
  have hl := lv_entry ([.ref h0, .int a1, .int a2, .int a3, .int a4]) (n := 7) (Nat.le_of_ble_eq_true rfl)
  rw [lg_entry_eq]
  generalize (lg_sl ([.ref h0, .int a1, .int a2, .int a3, .int a4]) ++ List.replicate (7 - (lg_sl ([.ref h0, .int a1, .int a2, .int a3, .int a4])).length) Slot.unset).toArray = ls at hl ⊢
  have hl : lv_has ls 7 [(0, .ref h0), (1, .int a1), (2, .int a2), (3, .int a3), (4, .int a4)] := hl
  refine lv_aload_n hx hb dX7_sell_0 rfl (lv_at hl 0 rfl) ?_
  refine lv_iload_n hx hb dX7_sell_1 rfl (lv_at hl 1 rfl) ?_
  refine pu_call (va_runV (As := [.int a1]) (rest := []) ⟨hx, hb, hml, hown, hts⟩ (c_X7_postAt l dC dI h0 q cy a1) (cwV 1 hts gX7_sell_X7_postAt rfl rfl rfl (by decide +kernel) ⟨Nat.le_of_ble_eq_true rfl, Nat.le_of_ble_eq_true rfl⟩) (pu_pre hP hK (ci := 6) (q0 := 0) rfl rfl) rfl rfl hl.1 rfl (lv_room (Nat.le_of_ble_eq_true rfl)) dX7_sell_2 ⟨Nat.zero_le _, Nat.zero_le _⟩) ?_
  refine lv_astoreN (lv' := [(5, .null), (0, .ref h0), (1, .int a1), (2, .int a2), (3, .int a3), (4, .int a4)]) hx hb dX7_sell_5 hl (by decide) rfl (fun ls hl => ?_)
  refine lv_aloadN hx hb dX7_sell_7 (lv_at hl 0 rfl) ?_
  refine lv_ifnullN (tgt := 34) hx hb dX7_sell_9 (by decide) ?_
  refine lv_iconst (v := (-1)) hx hb dX7_sell_34 (by decide) ?_
  exact W.iret (v := (-1)) hx hb hr (fun t ht hW => ⟨rfl, ht⟩) (fun q h => by cases h) dX7_sell_35

set_option maxHeartbeats 4000000 in
set_option maxRecDepth 100000 in
theorem c_X7_buy (l : Launch) (dC : Nat → ClassId) (dI : Nat → Nat → Nat) (h0 : Nat) (q : Nat → Nat) (cy : Nat → ClassId) (a1 a2 a3 a4 : Int32) : Met l yX7_buy wsX7_buy ({ frames := 1, cells := 0, slots := 0, locals := 21 }) (va_Pc [.ref h0, .int a1, .int a2, .int a3, .int a4] (pu_P (dC, dI) vwCl (fx_T cy) (fx_W h0 q cy))) (pu_Q (.int (-1))) 0 0 pu_F := by
  refine Met.ofW (cc := cX7_buy) (maxL := 7) (ret := (some .int)) (by decide) rfl ?_
  intro p e s m args below meth c s₁ B hml hv
  obtain ⟨rfl, hP, hK⟩ := hv
  have hx := B.exec
  have hb := B.bytes
  have hr := B.returns
  have hts := atoms_spec (ws := wsX7_buy) B.pre
  have hown : s.vm.findClass RX7 = some m.cls := findClass_of_methodNamed B.named
  have hlocks := B.notSynchronized
  have hl := lv_entry ([.ref h0, .int a1, .int a2, .int a3, .int a4]) (n := 7) (Nat.le_of_ble_eq_true rfl)
  rw [lg_entry_eq]
  generalize (lg_sl ([.ref h0, .int a1, .int a2, .int a3, .int a4]) ++ List.replicate (7 - (lg_sl ([.ref h0, .int a1, .int a2, .int a3, .int a4])).length) Slot.unset).toArray = ls at hl ⊢
  have hl : lv_has ls 7 [(0, .ref h0), (1, .int a1), (2, .int a2), (3, .int a3), (4, .int a4)] := hl
  refine lv_aload_n hx hb dX7_buy_0 rfl (lv_at hl 0 rfl) ?_
  refine lv_iload_n hx hb dX7_buy_1 rfl (lv_at hl 1 rfl) ?_
  refine pu_call (va_runV (As := [.int a1]) (rest := []) ⟨hx, hb, hml, hown, hts⟩ (c_X7_postAt l dC dI h0 q cy a1) (cwV 1 hts gX7_buy_X7_postAt rfl rfl rfl (by decide +kernel) ⟨Nat.le_of_ble_eq_true rfl, Nat.le_of_ble_eq_true rfl⟩) (pu_pre hP hK (ci := 6) (q0 := 0) rfl rfl) rfl rfl hl.1 rfl (lv_room (Nat.le_of_ble_eq_true rfl)) dX7_buy_2 ⟨Nat.zero_le _, Nat.zero_le _⟩) ?_
  refine lv_astoreN (lv' := [(5, .null), (0, .ref h0), (1, .int a1), (2, .int a2), (3, .int a3), (4, .int a4)]) hx hb dX7_buy_5 hl (by decide) rfl (fun ls hl => ?_)
  refine lv_aloadN hx hb dX7_buy_7 (lv_at hl 0 rfl) ?_
  refine lv_ifnullN (tgt := 37) hx hb dX7_buy_9 (by decide) ?_
  refine lv_iconst (v := (-1)) hx hb dX7_buy_37 (by decide) ?_
  exact W.iret (v := (-1)) hx hb hr (fun t ht hW => ⟨rfl, ht⟩) (fun q h => by cases h) dX7_buy_38

set_option maxHeartbeats 4000000 in
set_option maxRecDepth 100000 in
theorem c_X7_give (l : Launch) (dC : Nat → ClassId) (dI : Nat → Nat → Nat) (h0 : Nat) (q : Nat → Nat) (cy : Nat → ClassId) (a1 a2 a3 a4 : Int32) : Met l yX7_give wsX7_give ({ frames := 1, cells := 0, slots := 0, locals := 21 }) (va_Pc [.ref h0, .int a1, .int a2, .int a3, .int a4] (pu_P (dC, dI) vwCl (fx_T cy) (fx_W h0 q cy))) (pu_Q (.int (-1))) 0 0 pu_F := by
  refine Met.ofW (cc := cX7_give) (maxL := 6) (ret := (some .int)) (by decide) rfl ?_
  intro p e s m args below meth c s₁ B hml hv
  obtain ⟨rfl, hP, hK⟩ := hv
  have hx := B.exec
  have hb := B.bytes
  have hr := B.returns
  have hts := atoms_spec (ws := wsX7_give) B.pre
  have hown : s.vm.findClass RX7 = some m.cls := findClass_of_methodNamed B.named
  have hlocks := B.notSynchronized
  have hl := lv_entry ([.ref h0, .int a1, .int a2, .int a3, .int a4]) (n := 6) (Nat.le_of_ble_eq_true rfl)
  rw [lg_entry_eq]
  generalize (lg_sl ([.ref h0, .int a1, .int a2, .int a3, .int a4]) ++ List.replicate (6 - (lg_sl ([.ref h0, .int a1, .int a2, .int a3, .int a4])).length) Slot.unset).toArray = ls at hl ⊢
  have hl : lv_has ls 6 [(0, .ref h0), (1, .int a1), (2, .int a2), (3, .int a3), (4, .int a4)] := hl
  refine lv_aload_n hx hb dX7_give_0 rfl (lv_at hl 0 rfl) ?_
  refine lv_iload_n hx hb dX7_give_1 rfl (lv_at hl 1 rfl) ?_
  refine pu_call (va_runV (As := [.int a1]) (rest := []) ⟨hx, hb, hml, hown, hts⟩ (c_X7_postAt l dC dI h0 q cy a1) (cwV 1 hts gX7_give_X7_postAt rfl rfl rfl (by decide +kernel) ⟨Nat.le_of_ble_eq_true rfl, Nat.le_of_ble_eq_true rfl⟩) (pu_pre hP hK (ci := 6) (q0 := 0) rfl rfl) rfl rfl hl.1 rfl (lv_room (Nat.le_of_ble_eq_true rfl)) dX7_give_2 ⟨Nat.zero_le _, Nat.zero_le _⟩) ?_
  refine lv_astoreN (lv' := [(5, .null), (0, .ref h0), (1, .int a1), (2, .int a2), (3, .int a3), (4, .int a4)]) hx hb dX7_give_5 hl (by decide) rfl (fun ls hl => ?_)
  refine lv_aloadN hx hb dX7_give_7 (lv_at hl 0 rfl) ?_
  refine lv_ifnullN (tgt := 34) hx hb dX7_give_9 (by decide) ?_
  refine lv_iconst (v := (-1)) hx hb dX7_give_34 (by decide) ?_
  exact W.iret (v := (-1)) hx hb hr (fun t ht hW => ⟨rfl, ht⟩) (fun q h => by cases h) dX7_give_35

set_option maxHeartbeats 4000000 in
set_option maxRecDepth 100000 in
theorem c_X7_owes (l : Launch) (dC : Nat → ClassId) (dI : Nat → Nat → Nat) (h0 : Nat) (q : Nat → Nat) (cy : Nat → ClassId) (a1 a2 : Int32) : Met l yX7_owes wsX7_owes ({ frames := 1, cells := 0, slots := 0, locals := 21 }) (va_Pc [.ref h0, .int a1, .int a2] (pu_P (dC, dI) vwCl (fx_T cy) (fx_W h0 q cy))) (pu_Q (.int 0)) 0 0 pu_F := by
  refine Met.ofW (cc := cX7_owes) (maxL := 4) (ret := (some .int)) (by decide) rfl ?_
  intro p e s m args below meth c s₁ B hml hv
  obtain ⟨rfl, hP, hK⟩ := hv
  have hx := B.exec
  have hb := B.bytes
  have hr := B.returns
  have hts := atoms_spec (ws := wsX7_owes) B.pre
  have hown : s.vm.findClass RX7 = some m.cls := findClass_of_methodNamed B.named
  have hlocks := B.notSynchronized
  have hl := lv_entry ([.ref h0, .int a1, .int a2]) (n := 4) (Nat.le_of_ble_eq_true rfl)
  rw [lg_entry_eq]
  generalize (lg_sl ([.ref h0, .int a1, .int a2]) ++ List.replicate (4 - (lg_sl ([.ref h0, .int a1, .int a2])).length) Slot.unset).toArray = ls at hl ⊢
  have hl : lv_has ls 4 [(0, .ref h0), (1, .int a1), (2, .int a2)] := hl
  refine lv_aload_n hx hb dX7_owes_0 rfl (lv_at hl 0 rfl) ?_
  refine lv_iload_n hx hb dX7_owes_1 rfl (lv_at hl 1 rfl) ?_
  refine pu_call (va_runV (As := [.int a1]) (rest := []) ⟨hx, hb, hml, hown, hts⟩ (c_X7_postAt l dC dI h0 q cy a1) (cwV 1 hts gX7_owes_X7_postAt rfl rfl rfl (by decide +kernel) ⟨Nat.le_of_ble_eq_true rfl, Nat.le_of_ble_eq_true rfl⟩) (pu_pre hP hK (ci := 6) (q0 := 0) rfl rfl) rfl rfl hl.1 rfl (lv_room (Nat.le_of_ble_eq_true rfl)) dX7_owes_2 ⟨Nat.zero_le _, Nat.zero_le _⟩) ?_
  refine lv_astore_nN (lv' := [(3, .null), (0, .ref h0), (1, .int a1), (2, .int a2)]) hx hb dX7_owes_5 rfl hl (by decide) rfl (fun ls hl => ?_)
  refine lv_aload_nN hx hb dX7_owes_6 rfl (lv_at hl 0 rfl) ?_
  refine lv_ifnullN (tgt := 17) hx hb dX7_owes_7 (by decide) ?_
  refine lv_iconst (v := 0) hx hb dX7_owes_17 (by decide) ?_
  refine lv_goto (tgt := 27) hx hb dX7_owes_18 (by decide) ?_
  exact W.iret (v := 0) hx hb hr (fun t ht hW => ⟨rfl, ht⟩) (fun q h => by cases h) dX7_owes_27

set_option maxHeartbeats 4000000 in
set_option maxRecDepth 100000 in
theorem c_X7_price (l : Launch) (dC : Nat → ClassId) (dI : Nat → Nat → Nat) (h0 : Nat) (q : Nat → Nat) (cy : Nat → ClassId) (a1 a2 : Int32) : Met l yX7_price wsX7_price ({ frames := 1, cells := 0, slots := 0, locals := 21 }) (va_Pc [.ref h0, .int a1, .int a2] (pu_P (dC, dI) vwCl (fx_T cy) (fx_W h0 q cy))) (pu_Q (.int (-1))) 0 0 pu_F := by
  refine Met.ofW (cc := cX7_price) (maxL := 4) (ret := (some .int)) (by decide) rfl ?_
  intro p e s m args below meth c s₁ B hml hv
  obtain ⟨rfl, hP, hK⟩ := hv
  have hx := B.exec
  have hb := B.bytes
  have hr := B.returns
  have hts := atoms_spec (ws := wsX7_price) B.pre
  have hown : s.vm.findClass RX7 = some m.cls := findClass_of_methodNamed B.named
  have hlocks := B.notSynchronized
  have hl := lv_entry ([.ref h0, .int a1, .int a2]) (n := 4) (Nat.le_of_ble_eq_true rfl)
  rw [lg_entry_eq]
  generalize (lg_sl ([.ref h0, .int a1, .int a2]) ++ List.replicate (4 - (lg_sl ([.ref h0, .int a1, .int a2])).length) Slot.unset).toArray = ls at hl ⊢
  have hl : lv_has ls 4 [(0, .ref h0), (1, .int a1), (2, .int a2)] := hl
  refine lv_aload_n hx hb dX7_price_0 rfl (lv_at hl 0 rfl) ?_
  refine lv_iload_n hx hb dX7_price_1 rfl (lv_at hl 1 rfl) ?_
  refine pu_call (va_runV (As := [.int a1]) (rest := []) ⟨hx, hb, hml, hown, hts⟩ (c_X7_postAt l dC dI h0 q cy a1) (cwV 1 hts gX7_price_X7_postAt rfl rfl rfl (by decide +kernel) ⟨Nat.le_of_ble_eq_true rfl, Nat.le_of_ble_eq_true rfl⟩) (pu_pre hP hK (ci := 6) (q0 := 0) rfl rfl) rfl rfl hl.1 rfl (lv_room (Nat.le_of_ble_eq_true rfl)) dX7_price_2 ⟨Nat.zero_le _, Nat.zero_le _⟩) ?_
  refine lv_astore_nN (lv' := [(3, .null), (0, .ref h0), (1, .int a1), (2, .int a2)]) hx hb dX7_price_5 rfl hl (by decide) rfl (fun ls hl => ?_)
  refine lv_aload_nN hx hb dX7_price_6 rfl (lv_at hl 0 rfl) ?_
  refine lv_ifnullN (tgt := 17) hx hb dX7_price_7 (by decide) ?_
  refine lv_iconst (v := (-1)) hx hb dX7_price_17 (by decide) ?_
  refine lv_goto (tgt := 27) hx hb dX7_price_18 (by decide) ?_
  exact W.iret (v := (-1)) hx hb hr (fun t ht hW => ⟨rfl, ht⟩) (fun q h => by cases h) dX7_price_27

set_option maxHeartbeats 4000000 in
set_option maxRecDepth 100000 in
theorem c_X7_order (l : Launch) (dC : Nat → ClassId) (dI : Nat → Nat → Nat) (h0 : Nat) (q : Nat → Nat) (cy : Nat → ClassId) (a1 a2 a3 a4 : Int32) : Met l yX7_order wsX7_order ({ frames := 3, cells := 0, slots := 0, locals := 65 }) (va_Pc [.ref h0, .int a1, .int a2, .int a3, .int a4] (pu_P (dC, dI) vwCl (fx_T cy) (fx_W h0 q cy))) (pu_Q (.int (-1))) 0 0 pu_F := by
  refine Met.ofW (cc := cX7_order) (maxL := 5) (ret := (some .int)) (by decide) rfl ?_
  intro p e s m args below meth c s₁ B hml hv
  obtain ⟨rfl, hP, hK⟩ := hv
  have hx := B.exec
  have hb := B.bytes
  have hr := B.returns
  have hts := atoms_spec (ws := wsX7_order) B.pre
  have hown : s.vm.findClass RX7 = some m.cls := findClass_of_methodNamed B.named
  have hlocks := B.notSynchronized
  have hl := lv_entry ([.ref h0, .int a1, .int a2, .int a3, .int a4]) (n := 5) (Nat.le_of_ble_eq_true rfl)
  rw [lg_entry_eq]
  generalize (lg_sl ([.ref h0, .int a1, .int a2, .int a3, .int a4]) ++ List.replicate (5 - (lg_sl ([.ref h0, .int a1, .int a2, .int a3, .int a4])).length) Slot.unset).toArray = ls at hl ⊢
  have hl : lv_has ls 5 [(0, .ref h0), (1, .int a1), (2, .int a2), (3, .int a3), (4, .int a4)] := hl
  refine lv_aload_n hx hb dX7_order_0 rfl (lv_at hl 0 rfl) ?_
  refine lv_iload_n hx hb dX7_order_1 rfl (lv_at hl 1 rfl) ?_
  refine lv_iload_n hx hb dX7_order_2 rfl (lv_at hl 2 rfl) ?_
  refine pu_call (va_runV (As := [.int a1, .int a2]) (rest := []) ⟨hx, hb, hml, hown, hts⟩ (c_X7_canWrite l dC dI h0 q cy a1 a2) (cwV 2 hts gX7_order_X7_canWrite rfl rfl rfl (by decide +kernel) ⟨Nat.le_of_ble_eq_true rfl, Nat.le_of_ble_eq_true rfl⟩) (pu_pre hP hK (ci := 6) (q0 := 0) rfl rfl) rfl rfl hl.1 rfl (lv_room (Nat.le_of_ble_eq_true rfl)) dX7_order_3 ⟨Nat.zero_le _, Nat.zero_le _⟩) ?_
  refine lv_if_eq (tgt := 27) hx hb dX7_order_6 (by decide) (fun h_1 => ?_) (fun h_1 => absurd (by decide) h_1)
  refine lv_iconst (v := (-1)) hx hb dX7_order_27 (by decide) ?_
  exact W.iret (v := (-1)) hx hb hr (fun t ht hW => ⟨rfl, ht⟩) (fun q h => by cases h) dX7_order_28

set_option maxHeartbeats 4000000 in
set_option maxRecDepth 100000 in
theorem c_X7_debt (l : Launch) (dC : Nat → ClassId) (dI : Nat → Nat → Nat) (h0 : Nat) (q : Nat → Nat) (cy : Nat → ClassId) (a1 a2 a3 : Int32) : Met l yX7_debt wsX7_debt ({ frames := 1, cells := 0, slots := 0, locals := 21 }) (va_Pc [.ref h0, .int a1, .int a2, .int a3] (pu_P (dC, dI) vwCl (fx_T cy) (fx_W h0 q cy))) (pu_Q (.int (-1))) 0 0 pu_F := by
  refine Met.ofW (cc := cX7_debt) (maxL := 6) (ret := (some .int)) (by decide) rfl ?_
  intro p e s m args below meth c s₁ B hml hv
  obtain ⟨rfl, hP, hK⟩ := hv
  have hx := B.exec
  have hb := B.bytes
  have hr := B.returns
  have hts := atoms_spec (ws := wsX7_debt) B.pre
  have hown : s.vm.findClass RX7 = some m.cls := findClass_of_methodNamed B.named
  have hlocks := B.notSynchronized
  have hl := lv_entry ([.ref h0, .int a1, .int a2, .int a3]) (n := 6) (Nat.le_of_ble_eq_true rfl)
  rw [lg_entry_eq]
  generalize (lg_sl ([.ref h0, .int a1, .int a2, .int a3]) ++ List.replicate (6 - (lg_sl ([.ref h0, .int a1, .int a2, .int a3])).length) Slot.unset).toArray = ls at hl ⊢
  have hl : lv_has ls 6 [(0, .ref h0), (1, .int a1), (2, .int a2), (3, .int a3)] := hl
  refine lv_aload_n hx hb dX7_debt_0 rfl (lv_at hl 0 rfl) ?_
  refine lv_iload_n hx hb dX7_debt_1 rfl (lv_at hl 1 rfl) ?_
  refine pu_call (va_runV (As := [.int a1]) (rest := []) ⟨hx, hb, hml, hown, hts⟩ (c_X7_postAt l dC dI h0 q cy a1) (cwV 1 hts gX7_debt_X7_postAt rfl rfl rfl (by decide +kernel) ⟨Nat.le_of_ble_eq_true rfl, Nat.le_of_ble_eq_true rfl⟩) (pu_pre hP hK (ci := 6) (q0 := 0) rfl rfl) rfl rfl hl.1 rfl (lv_room (Nat.le_of_ble_eq_true rfl)) dX7_debt_2 ⟨Nat.zero_le _, Nat.zero_le _⟩) ?_
  refine lv_astoreN (lv' := [(4, .null), (0, .ref h0), (1, .int a1), (2, .int a2), (3, .int a3)]) hx hb dX7_debt_5 hl (by decide) rfl (fun ls hl => ?_)
  refine lv_aloadN hx hb dX7_debt_7 (lv_at hl 0 rfl) ?_
  refine lv_ifnullN (tgt := 38) hx hb dX7_debt_9 (by decide) ?_
  refine lv_iconst (v := (-1)) hx hb dX7_debt_38 (by decide) ?_
  exact W.iret (v := (-1)) hx hb hr (fun t ht hW => ⟨rfl, ht⟩) (fun q h => by cases h) dX7_debt_39

set_option maxHeartbeats 4000000 in
set_option maxRecDepth 100000 in
theorem c_X7_report (l : Launch) (dC : Nat → ClassId) (dI : Nat → Nat → Nat) (h0 : Nat) (q : Nat → Nat) (cy : Nat → ClassId) (a1 a2 : Int32) : Met l yX7_report wsX7_report ({ frames := 1, cells := 0, slots := 0, locals := 21 }) (va_Pc [.ref h0, .int a1, .int a2] (pu_P (dC, dI) vwCl (fx_T cy) (fx_W h0 q cy))) (pu_Q (.int (-1))) 0 0 pu_F := by
  refine Met.ofW (cc := cX7_report) (maxL := 4) (ret := (some .int)) (by decide) rfl ?_
  intro p e s m args below meth c s₁ B hml hv
  obtain ⟨rfl, hP, hK⟩ := hv
  have hx := B.exec
  have hb := B.bytes
  have hr := B.returns
  have hts := atoms_spec (ws := wsX7_report) B.pre
  have hown : s.vm.findClass RX7 = some m.cls := findClass_of_methodNamed B.named
  have hlocks := B.notSynchronized
  have hl := lv_entry ([.ref h0, .int a1, .int a2]) (n := 4) (Nat.le_of_ble_eq_true rfl)
  rw [lg_entry_eq]
  generalize (lg_sl ([.ref h0, .int a1, .int a2]) ++ List.replicate (4 - (lg_sl ([.ref h0, .int a1, .int a2])).length) Slot.unset).toArray = ls at hl ⊢
  have hl : lv_has ls 4 [(0, .ref h0), (1, .int a1), (2, .int a2)] := hl
  refine lv_aload_n hx hb dX7_report_0 rfl (lv_at hl 0 rfl) ?_
  refine lv_iload_n hx hb dX7_report_1 rfl (lv_at hl 1 rfl) ?_
  refine pu_call (va_runV (As := [.int a1]) (rest := []) ⟨hx, hb, hml, hown, hts⟩ (c_X7_postAt l dC dI h0 q cy a1) (cwV 1 hts gX7_report_X7_postAt rfl rfl rfl (by decide +kernel) ⟨Nat.le_of_ble_eq_true rfl, Nat.le_of_ble_eq_true rfl⟩) (pu_pre hP hK (ci := 6) (q0 := 0) rfl rfl) rfl rfl hl.1 rfl (lv_room (Nat.le_of_ble_eq_true rfl)) dX7_report_2 ⟨Nat.zero_le _, Nat.zero_le _⟩) ?_
  refine lv_astore_nN (lv' := [(3, .null), (0, .ref h0), (1, .int a1), (2, .int a2)]) hx hb dX7_report_5 rfl hl (by decide) rfl (fun ls hl => ?_)
  refine lv_aload_nN hx hb dX7_report_6 rfl (lv_at hl 0 rfl) ?_
  refine lv_ifnullN (tgt := 19) hx hb dX7_report_7 (by decide) ?_
  refine lv_iconst (v := (-1)) hx hb dX7_report_19 (by decide) ?_
  exact W.iret (v := (-1)) hx hb hr (fun t ht hW => ⟨rfl, ht⟩) (fun q h => by cases h) dX7_report_20

set_option maxHeartbeats 4000000 in
set_option maxRecDepth 100000 in
theorem c_X7_known (l : Launch) (dC : Nat → ClassId) (dI : Nat → Nat → Nat) (h0 : Nat) (q : Nat → Nat) (cy : Nat → ClassId) (a1 a2 a3 : Int32) : Met l yX7_known wsX7_known ({ frames := 1, cells := 0, slots := 0, locals := 21 }) (va_Pc [.ref h0, .int a1, .int a2, .int a3] (pu_P (dC, dI) vwCl (fx_T cy) (fx_W h0 q cy))) (pu_Q (.int (-1))) 0 0 pu_F := by
  refine Met.ofW (cc := cX7_known) (maxL := 6) (ret := (some .int)) (by decide) rfl ?_
  intro p e s m args below meth c s₁ B hml hv
  obtain ⟨rfl, hP, hK⟩ := hv
  have hx := B.exec
  have hb := B.bytes
  have hr := B.returns
  have hts := atoms_spec (ws := wsX7_known) B.pre
  have hown : s.vm.findClass RX7 = some m.cls := findClass_of_methodNamed B.named
  have hlocks := B.notSynchronized
  have hl := lv_entry ([.ref h0, .int a1, .int a2, .int a3]) (n := 6) (Nat.le_of_ble_eq_true rfl)
  rw [lg_entry_eq]
  generalize (lg_sl ([.ref h0, .int a1, .int a2, .int a3]) ++ List.replicate (6 - (lg_sl ([.ref h0, .int a1, .int a2, .int a3])).length) Slot.unset).toArray = ls at hl ⊢
  have hl : lv_has ls 6 [(0, .ref h0), (1, .int a1), (2, .int a2), (3, .int a3)] := hl
  refine lv_aload_n hx hb dX7_known_0 rfl (lv_at hl 0 rfl) ?_
  refine lv_iload_n hx hb dX7_known_1 rfl (lv_at hl 1 rfl) ?_
  refine pu_call (va_runV (As := [.int a1]) (rest := []) ⟨hx, hb, hml, hown, hts⟩ (c_X7_postAt l dC dI h0 q cy a1) (cwV 1 hts gX7_known_X7_postAt rfl rfl rfl (by decide +kernel) ⟨Nat.le_of_ble_eq_true rfl, Nat.le_of_ble_eq_true rfl⟩) (pu_pre hP hK (ci := 6) (q0 := 0) rfl rfl) rfl rfl hl.1 rfl (lv_room (Nat.le_of_ble_eq_true rfl)) dX7_known_2 ⟨Nat.zero_le _, Nat.zero_le _⟩) ?_
  refine lv_astoreN (lv' := [(4, .null), (0, .ref h0), (1, .int a1), (2, .int a2), (3, .int a3)]) hx hb dX7_known_5 hl (by decide) rfl (fun ls hl => ?_)
  refine lv_aloadN hx hb dX7_known_7 (lv_at hl 0 rfl) ?_
  refine lv_ifnullN (tgt := 19) hx hb dX7_known_9 (by decide) ?_
  refine lv_iconst (v := (-1)) hx hb dX7_known_19 (by decide) ?_
  exact W.iret (v := (-1)) hx hb hr (fun t ht hW => ⟨rfl, ht⟩) (fun q h => by cases h) dX7_known_20

set_option maxHeartbeats 4000000 in
set_option maxRecDepth 100000 in
theorem c_X7_knownDay (l : Launch) (dC : Nat → ClassId) (dI : Nat → Nat → Nat) (h0 : Nat) (q : Nat → Nat) (cy : Nat → ClassId) (a1 a2 : Int32) : Met l yX7_knownDay wsX7_knownDay ({ frames := 1, cells := 0, slots := 0, locals := 21 }) (va_Pc [.ref h0, .int a1, .int a2] (pu_P (dC, dI) vwCl (fx_T cy) (fx_W h0 q cy))) (pu_Q (.int (-1))) 0 0 pu_F := by
  refine Met.ofW (cc := cX7_knownDay) (maxL := 5) (ret := (some .int)) (by decide) rfl ?_
  intro p e s m args below meth c s₁ B hml hv
  obtain ⟨rfl, hP, hK⟩ := hv
  have hx := B.exec
  have hb := B.bytes
  have hr := B.returns
  have hts := atoms_spec (ws := wsX7_knownDay) B.pre
  have hown : s.vm.findClass RX7 = some m.cls := findClass_of_methodNamed B.named
  have hlocks := B.notSynchronized
  have hl := lv_entry ([.ref h0, .int a1, .int a2]) (n := 5) (Nat.le_of_ble_eq_true rfl)
  rw [lg_entry_eq]
  generalize (lg_sl ([.ref h0, .int a1, .int a2]) ++ List.replicate (5 - (lg_sl ([.ref h0, .int a1, .int a2])).length) Slot.unset).toArray = ls at hl ⊢
  have hl : lv_has ls 5 [(0, .ref h0), (1, .int a1), (2, .int a2)] := hl
  refine lv_aload_n hx hb dX7_knownDay_0 rfl (lv_at hl 0 rfl) ?_
  refine lv_iload_n hx hb dX7_knownDay_1 rfl (lv_at hl 1 rfl) ?_
  refine pu_call (va_runV (As := [.int a1]) (rest := []) ⟨hx, hb, hml, hown, hts⟩ (c_X7_postAt l dC dI h0 q cy a1) (cwV 1 hts gX7_knownDay_X7_postAt rfl rfl rfl (by decide +kernel) ⟨Nat.le_of_ble_eq_true rfl, Nat.le_of_ble_eq_true rfl⟩) (pu_pre hP hK (ci := 6) (q0 := 0) rfl rfl) rfl rfl hl.1 rfl (lv_room (Nat.le_of_ble_eq_true rfl)) dX7_knownDay_2 ⟨Nat.zero_le _, Nat.zero_le _⟩) ?_
  refine lv_astore_nN (lv' := [(3, .null), (0, .ref h0), (1, .int a1), (2, .int a2)]) hx hb dX7_knownDay_5 rfl hl (by decide) rfl (fun ls hl => ?_)
  refine lv_aload_nN hx hb dX7_knownDay_6 rfl (lv_at hl 0 rfl) ?_
  refine lv_ifnonnullN hx hb dX7_knownDay_7 ?_
  refine lv_iconst (v := (-1)) hx hb dX7_knownDay_10 (by decide) ?_
  exact W.iret (v := (-1)) hx hb hr (fun t ht hW => ⟨rfl, ht⟩) (fun q h => by cases h) dX7_knownDay_11

set_option maxHeartbeats 4000000 in
set_option maxRecDepth 100000 in
theorem c_X7_cost (l : Launch) (dC : Nat → ClassId) (dI : Nat → Nat → Nat) (h0 : Nat) (q : Nat → Nat) (cy : Nat → ClassId) (a1 a2 a3 a4 a5 : Int32) : Met l yX7_cost wsX7_cost ({ frames := 1, cells := 0, slots := 0, locals := 21 }) (va_Pc [.ref h0, .int a1, .int a2, .int a3, .int a4, .int a5] (pu_P (dC, dI) vwCl (fx_T cy) (fx_W h0 q cy))) (pu_Q (.int (-1))) 0 0 pu_F := by
  refine Met.ofW (cc := cX7_cost) (maxL := 11) (ret := (some .int)) (by decide) rfl ?_
  intro p e s m args below meth c s₁ B hml hv
  obtain ⟨rfl, hP, hK⟩ := hv
  have hx := B.exec
  have hb := B.bytes
  have hr := B.returns
  have hts := atoms_spec (ws := wsX7_cost) B.pre
  have hown : s.vm.findClass RX7 = some m.cls := findClass_of_methodNamed B.named
  have hlocks := B.notSynchronized
  have hl := lv_entry ([.ref h0, .int a1, .int a2, .int a3, .int a4, .int a5]) (n := 11) (Nat.le_of_ble_eq_true rfl)
  rw [lg_entry_eq]
  generalize (lg_sl ([.ref h0, .int a1, .int a2, .int a3, .int a4, .int a5]) ++ List.replicate (11 - (lg_sl ([.ref h0, .int a1, .int a2, .int a3, .int a4, .int a5])).length) Slot.unset).toArray = ls at hl ⊢
  have hl : lv_has ls 11 [(0, .ref h0), (1, .int a1), (2, .int a2), (3, .int a3), (4, .int a4), (5, .int a5)] := hl
  refine lv_aload_n hx hb dX7_cost_0 rfl (lv_at hl 0 rfl) ?_
  refine lv_iload_n hx hb dX7_cost_1 rfl (lv_at hl 1 rfl) ?_
  refine pu_call (va_runV (As := [.int a1]) (rest := []) ⟨hx, hb, hml, hown, hts⟩ (c_X7_postAt l dC dI h0 q cy a1) (cwV 1 hts gX7_cost_X7_postAt rfl rfl rfl (by decide +kernel) ⟨Nat.le_of_ble_eq_true rfl, Nat.le_of_ble_eq_true rfl⟩) (pu_pre hP hK (ci := 6) (q0 := 0) rfl rfl) rfl rfl hl.1 rfl (lv_room (Nat.le_of_ble_eq_true rfl)) dX7_cost_2 ⟨Nat.zero_le _, Nat.zero_le _⟩) ?_
  refine lv_astoreN (lv' := [(6, .null), (0, .ref h0), (1, .int a1), (2, .int a2), (3, .int a3), (4, .int a4), (5, .int a5)]) hx hb dX7_cost_5 hl (by decide) rfl (fun ls hl => ?_)
  refine lv_aloadN hx hb dX7_cost_7 (lv_at hl 0 rfl) ?_
  refine lv_ifnullN (tgt := 59) hx hb dX7_cost_9 (by decide) ?_
  refine lv_iconst (v := (-1)) hx hb dX7_cost_59 (by decide) ?_
  exact W.iret (v := (-1)) hx hb hr (fun t ht hW => ⟨rfl, ht⟩) (fun q h => by cases h) dX7_cost_60

set_option maxHeartbeats 4000000 in
set_option maxRecDepth 100000 in
theorem c_X7_indent (l : Launch) (dC : Nat → ClassId) (dI : Nat → Nat → Nat) (h0 : Nat) (q : Nat → Nat) (cy : Nat → ClassId) (a1 a2 a3 a4 : Int32) : Met l yX7_indent wsX7_indent ({ frames := 2, cells := 0, slots := 0, locals := 51 }) (va_Pc [.ref h0, .int a1, .int a2, .int a3, .int a4] (pu_P (dC, dI) vwCl (fx_T cy) (fx_W h0 q cy))) (pu_Q (.int (-1))) 0 0 pu_F := by
  refine Met.ofW (cc := cX7_indent) (maxL := 9) (ret := (some .int)) (by decide) rfl ?_
  intro p e s m args below meth c s₁ B hml hv
  obtain ⟨rfl, hP, hK⟩ := hv
  have hx := B.exec
  have hb := B.bytes
  have hr := B.returns
  have hts := atoms_spec (ws := wsX7_indent) B.pre
  have hown : s.vm.findClass RX7 = some m.cls := findClass_of_methodNamed B.named
  have hlocks := B.notSynchronized
  have hl := lv_entry ([.ref h0, .int a1, .int a2, .int a3, .int a4]) (n := 9) (Nat.le_of_ble_eq_true rfl)
  rw [lg_entry_eq]
  generalize (lg_sl ([.ref h0, .int a1, .int a2, .int a3, .int a4]) ++ List.replicate (9 - (lg_sl ([.ref h0, .int a1, .int a2, .int a3, .int a4])).length) Slot.unset).toArray = ls at hl ⊢
  have hl : lv_has ls 9 [(0, .ref h0), (1, .int a1), (2, .int a2), (3, .int a3), (4, .int a4)] := hl
  refine lv_iconst (v := (-1)) hx hb dX7_indent_0 (by decide) ?_
  refine lv_istore (lv' := [(5, .int (-1)), (0, .ref h0), (1, .int a1), (2, .int a2), (3, .int a3), (4, .int a4)]) hx hb dX7_indent_1 hl (by decide) rfl (fun ls hl => ?_)
  refine lv_iconst (v := (-1)) hx hb dX7_indent_3 (by decide) ?_
  refine lv_istore (lv' := [(6, .int (-1)), (5, .int (-1)), (0, .ref h0), (1, .int a1), (2, .int a2), (3, .int a3), (4, .int a4)]) hx hb dX7_indent_4 hl (by decide) rfl (fun ls hl => ?_)
  refine lv_iconst (v := 0) hx hb dX7_indent_6 (by decide) ?_
  refine lv_istore (lv' := [(7, .int 0), (6, .int (-1)), (5, .int (-1)), (0, .ref h0), (1, .int a1), (2, .int a2), (3, .int a3), (4, .int a4)]) hx hb dX7_indent_7 hl (by decide) rfl (fun ls hl => ?_)
  refine lv_iload hx hb dX7_indent_9 (lv_at hl 0 rfl) ?_
  refine lv_bipush (v := 20) hx hb dX7_indent_11 (by decide) ?_
  refine lv_icmp_gt (tgt := 62) hx hb dX7_indent_13 (by decide) (fun h_1 => absurd h_1 (by decide)) (fun h_1 => ?_)
  refine lv_aload_n hx hb dX7_indent_16 rfl (lv_at hl 3 rfl) ?_
  refine lv_iload_n hx hb dX7_indent_17 rfl (lv_at hl 4 rfl) ?_
  refine lv_iload_n hx hb dX7_indent_18 rfl (lv_at hl 5 rfl) ?_
  refine lv_iload_n hx hb dX7_indent_19 rfl (lv_at hl 6 rfl) ?_
  refine lv_iload hx hb dX7_indent_20 (lv_at hl 7 rfl) ?_
  refine lv_iload hx hb dX7_indent_22 (lv_at hl 0 rfl) ?_
  refine pu_call (va_runV (As := [.int a1, .int a2, .int a3, .int a4, .int 0]) (rest := []) ⟨hx, hb, hml, hown, hts⟩ (c_X7_cost l dC dI h0 q cy a1 a2 a3 a4 0) (cwV 5 hts gX7_indent_X7_cost rfl rfl rfl (by decide +kernel) ⟨Nat.le_of_ble_eq_true rfl, Nat.le_of_ble_eq_true rfl⟩) (pu_pre hP hK (ci := 6) (q0 := 0) rfl rfl) rfl rfl hl.1 rfl (lv_room (Nat.le_of_ble_eq_true rfl)) dX7_indent_24 ⟨Nat.zero_le _, Nat.zero_le _⟩) ?_
  refine lv_istore (lv' := [(8, .int (-1)), (7, .int 0), (6, .int (-1)), (5, .int (-1)), (0, .ref h0), (1, .int a1), (2, .int a2), (3, .int a3), (4, .int a4)]) hx hb dX7_indent_27 hl (by decide) rfl (fun ls hl => ?_)
  refine lv_iload hx hb dX7_indent_29 (lv_at hl 0 rfl) ?_
  refine lv_iconst (v := (-1)) hx hb dX7_indent_31 (by decide) ?_
  refine lv_icmp_eq (tgt := 56) hx hb dX7_indent_32 (by decide) (fun h_2 => ?_) (fun h_2 => absurd (by decide) h_2)
  refine lv_iinc (v := 1) (lv' := [(7, .int 1), (8, .int (-1)), (6, .int (-1)), (5, .int (-1)), (0, .ref h0), (1, .int a1), (2, .int a2), (3, .int a3), (4, .int a4)]) hx hb dX7_indent_56 hl (k := 1) rfl (by decide) (by decide) rfl (fun ls hl => ?_)
  refine lv_goto (tgt := 9) hx hb dX7_indent_59 (by decide) ?_
  refine lv_iload hx hb dX7_indent_9 (lv_at hl 0 rfl) ?_
  refine lv_bipush (v := 20) hx hb dX7_indent_11 (by decide) ?_
  refine lv_icmp_gt (tgt := 62) hx hb dX7_indent_13 (by decide) (fun h_3 => absurd h_3 (by decide)) (fun h_3 => ?_)
  refine lv_aload_n hx hb dX7_indent_16 rfl (lv_at hl 4 rfl) ?_
  refine lv_iload_n hx hb dX7_indent_17 rfl (lv_at hl 5 rfl) ?_
  refine lv_iload_n hx hb dX7_indent_18 rfl (lv_at hl 6 rfl) ?_
  refine lv_iload_n hx hb dX7_indent_19 rfl (lv_at hl 7 rfl) ?_
  refine lv_iload hx hb dX7_indent_20 (lv_at hl 8 rfl) ?_
  refine lv_iload hx hb dX7_indent_22 (lv_at hl 0 rfl) ?_
  refine pu_call (va_runV (As := [.int a1, .int a2, .int a3, .int a4, .int 1]) (rest := []) ⟨hx, hb, hml, hown, hts⟩ (c_X7_cost l dC dI h0 q cy a1 a2 a3 a4 1) (cwV 5 hts gX7_indent_X7_cost rfl rfl rfl (by decide +kernel) ⟨Nat.le_of_ble_eq_true rfl, Nat.le_of_ble_eq_true rfl⟩) (pu_pre hP hK (ci := 6) (q0 := 0) rfl rfl) rfl rfl hl.1 rfl (lv_room (Nat.le_of_ble_eq_true rfl)) dX7_indent_24 ⟨Nat.zero_le _, Nat.zero_le _⟩) ?_
  refine lv_istore (lv' := [(8, .int (-1)), (7, .int 1), (6, .int (-1)), (5, .int (-1)), (0, .ref h0), (1, .int a1), (2, .int a2), (3, .int a3), (4, .int a4)]) hx hb dX7_indent_27 hl (by decide) rfl (fun ls hl => ?_)
  refine lv_iload hx hb dX7_indent_29 (lv_at hl 0 rfl) ?_
  refine lv_iconst (v := (-1)) hx hb dX7_indent_31 (by decide) ?_
  refine lv_icmp_eq (tgt := 56) hx hb dX7_indent_32 (by decide) (fun h_4 => ?_) (fun h_4 => absurd (by decide) h_4)
  refine lv_iinc (v := 2) (lv' := [(7, .int 2), (8, .int (-1)), (6, .int (-1)), (5, .int (-1)), (0, .ref h0), (1, .int a1), (2, .int a2), (3, .int a3), (4, .int a4)]) hx hb dX7_indent_56 hl (k := 1) rfl (by decide) (by decide) rfl (fun ls hl => ?_)
  refine lv_goto (tgt := 9) hx hb dX7_indent_59 (by decide) ?_
  refine lv_iload hx hb dX7_indent_9 (lv_at hl 0 rfl) ?_
  refine lv_bipush (v := 20) hx hb dX7_indent_11 (by decide) ?_
  refine lv_icmp_gt (tgt := 62) hx hb dX7_indent_13 (by decide) (fun h_5 => absurd h_5 (by decide)) (fun h_5 => ?_)
  refine lv_aload_n hx hb dX7_indent_16 rfl (lv_at hl 4 rfl) ?_
  refine lv_iload_n hx hb dX7_indent_17 rfl (lv_at hl 5 rfl) ?_
  refine lv_iload_n hx hb dX7_indent_18 rfl (lv_at hl 6 rfl) ?_
  refine lv_iload_n hx hb dX7_indent_19 rfl (lv_at hl 7 rfl) ?_
  refine lv_iload hx hb dX7_indent_20 (lv_at hl 8 rfl) ?_
  refine lv_iload hx hb dX7_indent_22 (lv_at hl 0 rfl) ?_
  refine pu_call (va_runV (As := [.int a1, .int a2, .int a3, .int a4, .int 2]) (rest := []) ⟨hx, hb, hml, hown, hts⟩ (c_X7_cost l dC dI h0 q cy a1 a2 a3 a4 2) (cwV 5 hts gX7_indent_X7_cost rfl rfl rfl (by decide +kernel) ⟨Nat.le_of_ble_eq_true rfl, Nat.le_of_ble_eq_true rfl⟩) (pu_pre hP hK (ci := 6) (q0 := 0) rfl rfl) rfl rfl hl.1 rfl (lv_room (Nat.le_of_ble_eq_true rfl)) dX7_indent_24 ⟨Nat.zero_le _, Nat.zero_le _⟩) ?_
  refine lv_istore (lv' := [(8, .int (-1)), (7, .int 2), (6, .int (-1)), (5, .int (-1)), (0, .ref h0), (1, .int a1), (2, .int a2), (3, .int a3), (4, .int a4)]) hx hb dX7_indent_27 hl (by decide) rfl (fun ls hl => ?_)
  refine lv_iload hx hb dX7_indent_29 (lv_at hl 0 rfl) ?_
  refine lv_iconst (v := (-1)) hx hb dX7_indent_31 (by decide) ?_
  refine lv_icmp_eq (tgt := 56) hx hb dX7_indent_32 (by decide) (fun h_6 => ?_) (fun h_6 => absurd (by decide) h_6)
  refine lv_iinc (v := 3) (lv' := [(7, .int 3), (8, .int (-1)), (6, .int (-1)), (5, .int (-1)), (0, .ref h0), (1, .int a1), (2, .int a2), (3, .int a3), (4, .int a4)]) hx hb dX7_indent_56 hl (k := 1) rfl (by decide) (by decide) rfl (fun ls hl => ?_)
  refine lv_goto (tgt := 9) hx hb dX7_indent_59 (by decide) ?_
  refine lv_iload hx hb dX7_indent_9 (lv_at hl 0 rfl) ?_
  refine lv_bipush (v := 20) hx hb dX7_indent_11 (by decide) ?_
  refine lv_icmp_gt (tgt := 62) hx hb dX7_indent_13 (by decide) (fun h_7 => absurd h_7 (by decide)) (fun h_7 => ?_)
  refine lv_aload_n hx hb dX7_indent_16 rfl (lv_at hl 4 rfl) ?_
  refine lv_iload_n hx hb dX7_indent_17 rfl (lv_at hl 5 rfl) ?_
  refine lv_iload_n hx hb dX7_indent_18 rfl (lv_at hl 6 rfl) ?_
  refine lv_iload_n hx hb dX7_indent_19 rfl (lv_at hl 7 rfl) ?_
  refine lv_iload hx hb dX7_indent_20 (lv_at hl 8 rfl) ?_
  refine lv_iload hx hb dX7_indent_22 (lv_at hl 0 rfl) ?_
  refine pu_call (va_runV (As := [.int a1, .int a2, .int a3, .int a4, .int 3]) (rest := []) ⟨hx, hb, hml, hown, hts⟩ (c_X7_cost l dC dI h0 q cy a1 a2 a3 a4 3) (cwV 5 hts gX7_indent_X7_cost rfl rfl rfl (by decide +kernel) ⟨Nat.le_of_ble_eq_true rfl, Nat.le_of_ble_eq_true rfl⟩) (pu_pre hP hK (ci := 6) (q0 := 0) rfl rfl) rfl rfl hl.1 rfl (lv_room (Nat.le_of_ble_eq_true rfl)) dX7_indent_24 ⟨Nat.zero_le _, Nat.zero_le _⟩) ?_
  refine lv_istore (lv' := [(8, .int (-1)), (7, .int 3), (6, .int (-1)), (5, .int (-1)), (0, .ref h0), (1, .int a1), (2, .int a2), (3, .int a3), (4, .int a4)]) hx hb dX7_indent_27 hl (by decide) rfl (fun ls hl => ?_)
  refine lv_iload hx hb dX7_indent_29 (lv_at hl 0 rfl) ?_
  refine lv_iconst (v := (-1)) hx hb dX7_indent_31 (by decide) ?_
  refine lv_icmp_eq (tgt := 56) hx hb dX7_indent_32 (by decide) (fun h_8 => ?_) (fun h_8 => absurd (by decide) h_8)
  refine lv_iinc (v := 4) (lv' := [(7, .int 4), (8, .int (-1)), (6, .int (-1)), (5, .int (-1)), (0, .ref h0), (1, .int a1), (2, .int a2), (3, .int a3), (4, .int a4)]) hx hb dX7_indent_56 hl (k := 1) rfl (by decide) (by decide) rfl (fun ls hl => ?_)
  refine lv_goto (tgt := 9) hx hb dX7_indent_59 (by decide) ?_
  refine lv_iload hx hb dX7_indent_9 (lv_at hl 0 rfl) ?_
  refine lv_bipush (v := 20) hx hb dX7_indent_11 (by decide) ?_
  refine lv_icmp_gt (tgt := 62) hx hb dX7_indent_13 (by decide) (fun h_9 => absurd h_9 (by decide)) (fun h_9 => ?_)
  refine lv_aload_n hx hb dX7_indent_16 rfl (lv_at hl 4 rfl) ?_
  refine lv_iload_n hx hb dX7_indent_17 rfl (lv_at hl 5 rfl) ?_
  refine lv_iload_n hx hb dX7_indent_18 rfl (lv_at hl 6 rfl) ?_
  refine lv_iload_n hx hb dX7_indent_19 rfl (lv_at hl 7 rfl) ?_
  refine lv_iload hx hb dX7_indent_20 (lv_at hl 8 rfl) ?_
  refine lv_iload hx hb dX7_indent_22 (lv_at hl 0 rfl) ?_
  refine pu_call (va_runV (As := [.int a1, .int a2, .int a3, .int a4, .int 4]) (rest := []) ⟨hx, hb, hml, hown, hts⟩ (c_X7_cost l dC dI h0 q cy a1 a2 a3 a4 4) (cwV 5 hts gX7_indent_X7_cost rfl rfl rfl (by decide +kernel) ⟨Nat.le_of_ble_eq_true rfl, Nat.le_of_ble_eq_true rfl⟩) (pu_pre hP hK (ci := 6) (q0 := 0) rfl rfl) rfl rfl hl.1 rfl (lv_room (Nat.le_of_ble_eq_true rfl)) dX7_indent_24 ⟨Nat.zero_le _, Nat.zero_le _⟩) ?_
  refine lv_istore (lv' := [(8, .int (-1)), (7, .int 4), (6, .int (-1)), (5, .int (-1)), (0, .ref h0), (1, .int a1), (2, .int a2), (3, .int a3), (4, .int a4)]) hx hb dX7_indent_27 hl (by decide) rfl (fun ls hl => ?_)
  refine lv_iload hx hb dX7_indent_29 (lv_at hl 0 rfl) ?_
  refine lv_iconst (v := (-1)) hx hb dX7_indent_31 (by decide) ?_
  refine lv_icmp_eq (tgt := 56) hx hb dX7_indent_32 (by decide) (fun h_10 => ?_) (fun h_10 => absurd (by decide) h_10)
  refine lv_iinc (v := 5) (lv' := [(7, .int 5), (8, .int (-1)), (6, .int (-1)), (5, .int (-1)), (0, .ref h0), (1, .int a1), (2, .int a2), (3, .int a3), (4, .int a4)]) hx hb dX7_indent_56 hl (k := 1) rfl (by decide) (by decide) rfl (fun ls hl => ?_)
  refine lv_goto (tgt := 9) hx hb dX7_indent_59 (by decide) ?_
  refine lv_iload hx hb dX7_indent_9 (lv_at hl 0 rfl) ?_
  refine lv_bipush (v := 20) hx hb dX7_indent_11 (by decide) ?_
  refine lv_icmp_gt (tgt := 62) hx hb dX7_indent_13 (by decide) (fun h_11 => absurd h_11 (by decide)) (fun h_11 => ?_)
  refine lv_aload_n hx hb dX7_indent_16 rfl (lv_at hl 4 rfl) ?_
  refine lv_iload_n hx hb dX7_indent_17 rfl (lv_at hl 5 rfl) ?_
  refine lv_iload_n hx hb dX7_indent_18 rfl (lv_at hl 6 rfl) ?_
  refine lv_iload_n hx hb dX7_indent_19 rfl (lv_at hl 7 rfl) ?_
  refine lv_iload hx hb dX7_indent_20 (lv_at hl 8 rfl) ?_
  refine lv_iload hx hb dX7_indent_22 (lv_at hl 0 rfl) ?_
  refine pu_call (va_runV (As := [.int a1, .int a2, .int a3, .int a4, .int 5]) (rest := []) ⟨hx, hb, hml, hown, hts⟩ (c_X7_cost l dC dI h0 q cy a1 a2 a3 a4 5) (cwV 5 hts gX7_indent_X7_cost rfl rfl rfl (by decide +kernel) ⟨Nat.le_of_ble_eq_true rfl, Nat.le_of_ble_eq_true rfl⟩) (pu_pre hP hK (ci := 6) (q0 := 0) rfl rfl) rfl rfl hl.1 rfl (lv_room (Nat.le_of_ble_eq_true rfl)) dX7_indent_24 ⟨Nat.zero_le _, Nat.zero_le _⟩) ?_
  refine lv_istore (lv' := [(8, .int (-1)), (7, .int 5), (6, .int (-1)), (5, .int (-1)), (0, .ref h0), (1, .int a1), (2, .int a2), (3, .int a3), (4, .int a4)]) hx hb dX7_indent_27 hl (by decide) rfl (fun ls hl => ?_)
  refine lv_iload hx hb dX7_indent_29 (lv_at hl 0 rfl) ?_
  refine lv_iconst (v := (-1)) hx hb dX7_indent_31 (by decide) ?_
  refine lv_icmp_eq (tgt := 56) hx hb dX7_indent_32 (by decide) (fun h_12 => ?_) (fun h_12 => absurd (by decide) h_12)
  refine lv_iinc (v := 6) (lv' := [(7, .int 6), (8, .int (-1)), (6, .int (-1)), (5, .int (-1)), (0, .ref h0), (1, .int a1), (2, .int a2), (3, .int a3), (4, .int a4)]) hx hb dX7_indent_56 hl (k := 1) rfl (by decide) (by decide) rfl (fun ls hl => ?_)
  refine lv_goto (tgt := 9) hx hb dX7_indent_59 (by decide) ?_
  refine lv_iload hx hb dX7_indent_9 (lv_at hl 0 rfl) ?_
  refine lv_bipush (v := 20) hx hb dX7_indent_11 (by decide) ?_
  refine lv_icmp_gt (tgt := 62) hx hb dX7_indent_13 (by decide) (fun h_13 => absurd h_13 (by decide)) (fun h_13 => ?_)
  refine lv_aload_n hx hb dX7_indent_16 rfl (lv_at hl 4 rfl) ?_
  refine lv_iload_n hx hb dX7_indent_17 rfl (lv_at hl 5 rfl) ?_
  refine lv_iload_n hx hb dX7_indent_18 rfl (lv_at hl 6 rfl) ?_
  refine lv_iload_n hx hb dX7_indent_19 rfl (lv_at hl 7 rfl) ?_
  refine lv_iload hx hb dX7_indent_20 (lv_at hl 8 rfl) ?_
  refine lv_iload hx hb dX7_indent_22 (lv_at hl 0 rfl) ?_
  refine pu_call (va_runV (As := [.int a1, .int a2, .int a3, .int a4, .int 6]) (rest := []) ⟨hx, hb, hml, hown, hts⟩ (c_X7_cost l dC dI h0 q cy a1 a2 a3 a4 6) (cwV 5 hts gX7_indent_X7_cost rfl rfl rfl (by decide +kernel) ⟨Nat.le_of_ble_eq_true rfl, Nat.le_of_ble_eq_true rfl⟩) (pu_pre hP hK (ci := 6) (q0 := 0) rfl rfl) rfl rfl hl.1 rfl (lv_room (Nat.le_of_ble_eq_true rfl)) dX7_indent_24 ⟨Nat.zero_le _, Nat.zero_le _⟩) ?_
  refine lv_istore (lv' := [(8, .int (-1)), (7, .int 6), (6, .int (-1)), (5, .int (-1)), (0, .ref h0), (1, .int a1), (2, .int a2), (3, .int a3), (4, .int a4)]) hx hb dX7_indent_27 hl (by decide) rfl (fun ls hl => ?_)
  refine lv_iload hx hb dX7_indent_29 (lv_at hl 0 rfl) ?_
  refine lv_iconst (v := (-1)) hx hb dX7_indent_31 (by decide) ?_
  refine lv_icmp_eq (tgt := 56) hx hb dX7_indent_32 (by decide) (fun h_14 => ?_) (fun h_14 => absurd (by decide) h_14)
  refine lv_iinc (v := 7) (lv' := [(7, .int 7), (8, .int (-1)), (6, .int (-1)), (5, .int (-1)), (0, .ref h0), (1, .int a1), (2, .int a2), (3, .int a3), (4, .int a4)]) hx hb dX7_indent_56 hl (k := 1) rfl (by decide) (by decide) rfl (fun ls hl => ?_)
  refine lv_goto (tgt := 9) hx hb dX7_indent_59 (by decide) ?_
  refine lv_iload hx hb dX7_indent_9 (lv_at hl 0 rfl) ?_
  refine lv_bipush (v := 20) hx hb dX7_indent_11 (by decide) ?_
  refine lv_icmp_gt (tgt := 62) hx hb dX7_indent_13 (by decide) (fun h_15 => absurd h_15 (by decide)) (fun h_15 => ?_)
  refine lv_aload_n hx hb dX7_indent_16 rfl (lv_at hl 4 rfl) ?_
  refine lv_iload_n hx hb dX7_indent_17 rfl (lv_at hl 5 rfl) ?_
  refine lv_iload_n hx hb dX7_indent_18 rfl (lv_at hl 6 rfl) ?_
  refine lv_iload_n hx hb dX7_indent_19 rfl (lv_at hl 7 rfl) ?_
  refine lv_iload hx hb dX7_indent_20 (lv_at hl 8 rfl) ?_
  refine lv_iload hx hb dX7_indent_22 (lv_at hl 0 rfl) ?_
  refine pu_call (va_runV (As := [.int a1, .int a2, .int a3, .int a4, .int 7]) (rest := []) ⟨hx, hb, hml, hown, hts⟩ (c_X7_cost l dC dI h0 q cy a1 a2 a3 a4 7) (cwV 5 hts gX7_indent_X7_cost rfl rfl rfl (by decide +kernel) ⟨Nat.le_of_ble_eq_true rfl, Nat.le_of_ble_eq_true rfl⟩) (pu_pre hP hK (ci := 6) (q0 := 0) rfl rfl) rfl rfl hl.1 rfl (lv_room (Nat.le_of_ble_eq_true rfl)) dX7_indent_24 ⟨Nat.zero_le _, Nat.zero_le _⟩) ?_
  refine lv_istore (lv' := [(8, .int (-1)), (7, .int 7), (6, .int (-1)), (5, .int (-1)), (0, .ref h0), (1, .int a1), (2, .int a2), (3, .int a3), (4, .int a4)]) hx hb dX7_indent_27 hl (by decide) rfl (fun ls hl => ?_)
  refine lv_iload hx hb dX7_indent_29 (lv_at hl 0 rfl) ?_
  refine lv_iconst (v := (-1)) hx hb dX7_indent_31 (by decide) ?_
  refine lv_icmp_eq (tgt := 56) hx hb dX7_indent_32 (by decide) (fun h_16 => ?_) (fun h_16 => absurd (by decide) h_16)
  refine lv_iinc (v := 8) (lv' := [(7, .int 8), (8, .int (-1)), (6, .int (-1)), (5, .int (-1)), (0, .ref h0), (1, .int a1), (2, .int a2), (3, .int a3), (4, .int a4)]) hx hb dX7_indent_56 hl (k := 1) rfl (by decide) (by decide) rfl (fun ls hl => ?_)
  refine lv_goto (tgt := 9) hx hb dX7_indent_59 (by decide) ?_
  refine lv_iload hx hb dX7_indent_9 (lv_at hl 0 rfl) ?_
  refine lv_bipush (v := 20) hx hb dX7_indent_11 (by decide) ?_
  refine lv_icmp_gt (tgt := 62) hx hb dX7_indent_13 (by decide) (fun h_17 => absurd h_17 (by decide)) (fun h_17 => ?_)
  refine lv_aload_n hx hb dX7_indent_16 rfl (lv_at hl 4 rfl) ?_
  refine lv_iload_n hx hb dX7_indent_17 rfl (lv_at hl 5 rfl) ?_
  refine lv_iload_n hx hb dX7_indent_18 rfl (lv_at hl 6 rfl) ?_
  refine lv_iload_n hx hb dX7_indent_19 rfl (lv_at hl 7 rfl) ?_
  refine lv_iload hx hb dX7_indent_20 (lv_at hl 8 rfl) ?_
  refine lv_iload hx hb dX7_indent_22 (lv_at hl 0 rfl) ?_
  refine pu_call (va_runV (As := [.int a1, .int a2, .int a3, .int a4, .int 8]) (rest := []) ⟨hx, hb, hml, hown, hts⟩ (c_X7_cost l dC dI h0 q cy a1 a2 a3 a4 8) (cwV 5 hts gX7_indent_X7_cost rfl rfl rfl (by decide +kernel) ⟨Nat.le_of_ble_eq_true rfl, Nat.le_of_ble_eq_true rfl⟩) (pu_pre hP hK (ci := 6) (q0 := 0) rfl rfl) rfl rfl hl.1 rfl (lv_room (Nat.le_of_ble_eq_true rfl)) dX7_indent_24 ⟨Nat.zero_le _, Nat.zero_le _⟩) ?_
  refine lv_istore (lv' := [(8, .int (-1)), (7, .int 8), (6, .int (-1)), (5, .int (-1)), (0, .ref h0), (1, .int a1), (2, .int a2), (3, .int a3), (4, .int a4)]) hx hb dX7_indent_27 hl (by decide) rfl (fun ls hl => ?_)
  refine lv_iload hx hb dX7_indent_29 (lv_at hl 0 rfl) ?_
  refine lv_iconst (v := (-1)) hx hb dX7_indent_31 (by decide) ?_
  refine lv_icmp_eq (tgt := 56) hx hb dX7_indent_32 (by decide) (fun h_18 => ?_) (fun h_18 => absurd (by decide) h_18)
  refine lv_iinc (v := 9) (lv' := [(7, .int 9), (8, .int (-1)), (6, .int (-1)), (5, .int (-1)), (0, .ref h0), (1, .int a1), (2, .int a2), (3, .int a3), (4, .int a4)]) hx hb dX7_indent_56 hl (k := 1) rfl (by decide) (by decide) rfl (fun ls hl => ?_)
  refine lv_goto (tgt := 9) hx hb dX7_indent_59 (by decide) ?_
  refine lv_iload hx hb dX7_indent_9 (lv_at hl 0 rfl) ?_
  refine lv_bipush (v := 20) hx hb dX7_indent_11 (by decide) ?_
  refine lv_icmp_gt (tgt := 62) hx hb dX7_indent_13 (by decide) (fun h_19 => absurd h_19 (by decide)) (fun h_19 => ?_)
  refine lv_aload_n hx hb dX7_indent_16 rfl (lv_at hl 4 rfl) ?_
  refine lv_iload_n hx hb dX7_indent_17 rfl (lv_at hl 5 rfl) ?_
  refine lv_iload_n hx hb dX7_indent_18 rfl (lv_at hl 6 rfl) ?_
  refine lv_iload_n hx hb dX7_indent_19 rfl (lv_at hl 7 rfl) ?_
  refine lv_iload hx hb dX7_indent_20 (lv_at hl 8 rfl) ?_
  refine lv_iload hx hb dX7_indent_22 (lv_at hl 0 rfl) ?_
  refine pu_call (va_runV (As := [.int a1, .int a2, .int a3, .int a4, .int 9]) (rest := []) ⟨hx, hb, hml, hown, hts⟩ (c_X7_cost l dC dI h0 q cy a1 a2 a3 a4 9) (cwV 5 hts gX7_indent_X7_cost rfl rfl rfl (by decide +kernel) ⟨Nat.le_of_ble_eq_true rfl, Nat.le_of_ble_eq_true rfl⟩) (pu_pre hP hK (ci := 6) (q0 := 0) rfl rfl) rfl rfl hl.1 rfl (lv_room (Nat.le_of_ble_eq_true rfl)) dX7_indent_24 ⟨Nat.zero_le _, Nat.zero_le _⟩) ?_
  refine lv_istore (lv' := [(8, .int (-1)), (7, .int 9), (6, .int (-1)), (5, .int (-1)), (0, .ref h0), (1, .int a1), (2, .int a2), (3, .int a3), (4, .int a4)]) hx hb dX7_indent_27 hl (by decide) rfl (fun ls hl => ?_)
  refine lv_iload hx hb dX7_indent_29 (lv_at hl 0 rfl) ?_
  refine lv_iconst (v := (-1)) hx hb dX7_indent_31 (by decide) ?_
  refine lv_icmp_eq (tgt := 56) hx hb dX7_indent_32 (by decide) (fun h_20 => ?_) (fun h_20 => absurd (by decide) h_20)
  refine lv_iinc (v := 10) (lv' := [(7, .int 10), (8, .int (-1)), (6, .int (-1)), (5, .int (-1)), (0, .ref h0), (1, .int a1), (2, .int a2), (3, .int a3), (4, .int a4)]) hx hb dX7_indent_56 hl (k := 1) rfl (by decide) (by decide) rfl (fun ls hl => ?_)
  refine lv_goto (tgt := 9) hx hb dX7_indent_59 (by decide) ?_
  refine lv_iload hx hb dX7_indent_9 (lv_at hl 0 rfl) ?_
  refine lv_bipush (v := 20) hx hb dX7_indent_11 (by decide) ?_
  refine lv_icmp_gt (tgt := 62) hx hb dX7_indent_13 (by decide) (fun h_21 => absurd h_21 (by decide)) (fun h_21 => ?_)
  refine lv_aload_n hx hb dX7_indent_16 rfl (lv_at hl 4 rfl) ?_
  refine lv_iload_n hx hb dX7_indent_17 rfl (lv_at hl 5 rfl) ?_
  refine lv_iload_n hx hb dX7_indent_18 rfl (lv_at hl 6 rfl) ?_
  refine lv_iload_n hx hb dX7_indent_19 rfl (lv_at hl 7 rfl) ?_
  refine lv_iload hx hb dX7_indent_20 (lv_at hl 8 rfl) ?_
  refine lv_iload hx hb dX7_indent_22 (lv_at hl 0 rfl) ?_
  refine pu_call (va_runV (As := [.int a1, .int a2, .int a3, .int a4, .int 10]) (rest := []) ⟨hx, hb, hml, hown, hts⟩ (c_X7_cost l dC dI h0 q cy a1 a2 a3 a4 10) (cwV 5 hts gX7_indent_X7_cost rfl rfl rfl (by decide +kernel) ⟨Nat.le_of_ble_eq_true rfl, Nat.le_of_ble_eq_true rfl⟩) (pu_pre hP hK (ci := 6) (q0 := 0) rfl rfl) rfl rfl hl.1 rfl (lv_room (Nat.le_of_ble_eq_true rfl)) dX7_indent_24 ⟨Nat.zero_le _, Nat.zero_le _⟩) ?_
  refine lv_istore (lv' := [(8, .int (-1)), (7, .int 10), (6, .int (-1)), (5, .int (-1)), (0, .ref h0), (1, .int a1), (2, .int a2), (3, .int a3), (4, .int a4)]) hx hb dX7_indent_27 hl (by decide) rfl (fun ls hl => ?_)
  refine lv_iload hx hb dX7_indent_29 (lv_at hl 0 rfl) ?_
  refine lv_iconst (v := (-1)) hx hb dX7_indent_31 (by decide) ?_
  refine lv_icmp_eq (tgt := 56) hx hb dX7_indent_32 (by decide) (fun h_22 => ?_) (fun h_22 => absurd (by decide) h_22)
  refine lv_iinc (v := 11) (lv' := [(7, .int 11), (8, .int (-1)), (6, .int (-1)), (5, .int (-1)), (0, .ref h0), (1, .int a1), (2, .int a2), (3, .int a3), (4, .int a4)]) hx hb dX7_indent_56 hl (k := 1) rfl (by decide) (by decide) rfl (fun ls hl => ?_)
  refine lv_goto (tgt := 9) hx hb dX7_indent_59 (by decide) ?_
  refine lv_iload hx hb dX7_indent_9 (lv_at hl 0 rfl) ?_
  refine lv_bipush (v := 20) hx hb dX7_indent_11 (by decide) ?_
  refine lv_icmp_gt (tgt := 62) hx hb dX7_indent_13 (by decide) (fun h_23 => absurd h_23 (by decide)) (fun h_23 => ?_)
  refine lv_aload_n hx hb dX7_indent_16 rfl (lv_at hl 4 rfl) ?_
  refine lv_iload_n hx hb dX7_indent_17 rfl (lv_at hl 5 rfl) ?_
  refine lv_iload_n hx hb dX7_indent_18 rfl (lv_at hl 6 rfl) ?_
  refine lv_iload_n hx hb dX7_indent_19 rfl (lv_at hl 7 rfl) ?_
  refine lv_iload hx hb dX7_indent_20 (lv_at hl 8 rfl) ?_
  refine lv_iload hx hb dX7_indent_22 (lv_at hl 0 rfl) ?_
  refine pu_call (va_runV (As := [.int a1, .int a2, .int a3, .int a4, .int 11]) (rest := []) ⟨hx, hb, hml, hown, hts⟩ (c_X7_cost l dC dI h0 q cy a1 a2 a3 a4 11) (cwV 5 hts gX7_indent_X7_cost rfl rfl rfl (by decide +kernel) ⟨Nat.le_of_ble_eq_true rfl, Nat.le_of_ble_eq_true rfl⟩) (pu_pre hP hK (ci := 6) (q0 := 0) rfl rfl) rfl rfl hl.1 rfl (lv_room (Nat.le_of_ble_eq_true rfl)) dX7_indent_24 ⟨Nat.zero_le _, Nat.zero_le _⟩) ?_
  refine lv_istore (lv' := [(8, .int (-1)), (7, .int 11), (6, .int (-1)), (5, .int (-1)), (0, .ref h0), (1, .int a1), (2, .int a2), (3, .int a3), (4, .int a4)]) hx hb dX7_indent_27 hl (by decide) rfl (fun ls hl => ?_)
  refine lv_iload hx hb dX7_indent_29 (lv_at hl 0 rfl) ?_
  refine lv_iconst (v := (-1)) hx hb dX7_indent_31 (by decide) ?_
  refine lv_icmp_eq (tgt := 56) hx hb dX7_indent_32 (by decide) (fun h_24 => ?_) (fun h_24 => absurd (by decide) h_24)
  refine lv_iinc (v := 12) (lv' := [(7, .int 12), (8, .int (-1)), (6, .int (-1)), (5, .int (-1)), (0, .ref h0), (1, .int a1), (2, .int a2), (3, .int a3), (4, .int a4)]) hx hb dX7_indent_56 hl (k := 1) rfl (by decide) (by decide) rfl (fun ls hl => ?_)
  refine lv_goto (tgt := 9) hx hb dX7_indent_59 (by decide) ?_
  refine lv_iload hx hb dX7_indent_9 (lv_at hl 0 rfl) ?_
  refine lv_bipush (v := 20) hx hb dX7_indent_11 (by decide) ?_
  refine lv_icmp_gt (tgt := 62) hx hb dX7_indent_13 (by decide) (fun h_25 => absurd h_25 (by decide)) (fun h_25 => ?_)
  refine lv_aload_n hx hb dX7_indent_16 rfl (lv_at hl 4 rfl) ?_
  refine lv_iload_n hx hb dX7_indent_17 rfl (lv_at hl 5 rfl) ?_
  refine lv_iload_n hx hb dX7_indent_18 rfl (lv_at hl 6 rfl) ?_
  refine lv_iload_n hx hb dX7_indent_19 rfl (lv_at hl 7 rfl) ?_
  refine lv_iload hx hb dX7_indent_20 (lv_at hl 8 rfl) ?_
  refine lv_iload hx hb dX7_indent_22 (lv_at hl 0 rfl) ?_
  refine pu_call (va_runV (As := [.int a1, .int a2, .int a3, .int a4, .int 12]) (rest := []) ⟨hx, hb, hml, hown, hts⟩ (c_X7_cost l dC dI h0 q cy a1 a2 a3 a4 12) (cwV 5 hts gX7_indent_X7_cost rfl rfl rfl (by decide +kernel) ⟨Nat.le_of_ble_eq_true rfl, Nat.le_of_ble_eq_true rfl⟩) (pu_pre hP hK (ci := 6) (q0 := 0) rfl rfl) rfl rfl hl.1 rfl (lv_room (Nat.le_of_ble_eq_true rfl)) dX7_indent_24 ⟨Nat.zero_le _, Nat.zero_le _⟩) ?_
  refine lv_istore (lv' := [(8, .int (-1)), (7, .int 12), (6, .int (-1)), (5, .int (-1)), (0, .ref h0), (1, .int a1), (2, .int a2), (3, .int a3), (4, .int a4)]) hx hb dX7_indent_27 hl (by decide) rfl (fun ls hl => ?_)
  refine lv_iload hx hb dX7_indent_29 (lv_at hl 0 rfl) ?_
  refine lv_iconst (v := (-1)) hx hb dX7_indent_31 (by decide) ?_
  refine lv_icmp_eq (tgt := 56) hx hb dX7_indent_32 (by decide) (fun h_26 => ?_) (fun h_26 => absurd (by decide) h_26)
  refine lv_iinc (v := 13) (lv' := [(7, .int 13), (8, .int (-1)), (6, .int (-1)), (5, .int (-1)), (0, .ref h0), (1, .int a1), (2, .int a2), (3, .int a3), (4, .int a4)]) hx hb dX7_indent_56 hl (k := 1) rfl (by decide) (by decide) rfl (fun ls hl => ?_)
  refine lv_goto (tgt := 9) hx hb dX7_indent_59 (by decide) ?_
  refine lv_iload hx hb dX7_indent_9 (lv_at hl 0 rfl) ?_
  refine lv_bipush (v := 20) hx hb dX7_indent_11 (by decide) ?_
  refine lv_icmp_gt (tgt := 62) hx hb dX7_indent_13 (by decide) (fun h_27 => absurd h_27 (by decide)) (fun h_27 => ?_)
  refine lv_aload_n hx hb dX7_indent_16 rfl (lv_at hl 4 rfl) ?_
  refine lv_iload_n hx hb dX7_indent_17 rfl (lv_at hl 5 rfl) ?_
  refine lv_iload_n hx hb dX7_indent_18 rfl (lv_at hl 6 rfl) ?_
  refine lv_iload_n hx hb dX7_indent_19 rfl (lv_at hl 7 rfl) ?_
  refine lv_iload hx hb dX7_indent_20 (lv_at hl 8 rfl) ?_
  refine lv_iload hx hb dX7_indent_22 (lv_at hl 0 rfl) ?_
  refine pu_call (va_runV (As := [.int a1, .int a2, .int a3, .int a4, .int 13]) (rest := []) ⟨hx, hb, hml, hown, hts⟩ (c_X7_cost l dC dI h0 q cy a1 a2 a3 a4 13) (cwV 5 hts gX7_indent_X7_cost rfl rfl rfl (by decide +kernel) ⟨Nat.le_of_ble_eq_true rfl, Nat.le_of_ble_eq_true rfl⟩) (pu_pre hP hK (ci := 6) (q0 := 0) rfl rfl) rfl rfl hl.1 rfl (lv_room (Nat.le_of_ble_eq_true rfl)) dX7_indent_24 ⟨Nat.zero_le _, Nat.zero_le _⟩) ?_
  refine lv_istore (lv' := [(8, .int (-1)), (7, .int 13), (6, .int (-1)), (5, .int (-1)), (0, .ref h0), (1, .int a1), (2, .int a2), (3, .int a3), (4, .int a4)]) hx hb dX7_indent_27 hl (by decide) rfl (fun ls hl => ?_)
  refine lv_iload hx hb dX7_indent_29 (lv_at hl 0 rfl) ?_
  refine lv_iconst (v := (-1)) hx hb dX7_indent_31 (by decide) ?_
  refine lv_icmp_eq (tgt := 56) hx hb dX7_indent_32 (by decide) (fun h_28 => ?_) (fun h_28 => absurd (by decide) h_28)
  refine lv_iinc (v := 14) (lv' := [(7, .int 14), (8, .int (-1)), (6, .int (-1)), (5, .int (-1)), (0, .ref h0), (1, .int a1), (2, .int a2), (3, .int a3), (4, .int a4)]) hx hb dX7_indent_56 hl (k := 1) rfl (by decide) (by decide) rfl (fun ls hl => ?_)
  refine lv_goto (tgt := 9) hx hb dX7_indent_59 (by decide) ?_
  refine lv_iload hx hb dX7_indent_9 (lv_at hl 0 rfl) ?_
  refine lv_bipush (v := 20) hx hb dX7_indent_11 (by decide) ?_
  refine lv_icmp_gt (tgt := 62) hx hb dX7_indent_13 (by decide) (fun h_29 => absurd h_29 (by decide)) (fun h_29 => ?_)
  refine lv_aload_n hx hb dX7_indent_16 rfl (lv_at hl 4 rfl) ?_
  refine lv_iload_n hx hb dX7_indent_17 rfl (lv_at hl 5 rfl) ?_
  refine lv_iload_n hx hb dX7_indent_18 rfl (lv_at hl 6 rfl) ?_
  refine lv_iload_n hx hb dX7_indent_19 rfl (lv_at hl 7 rfl) ?_
  refine lv_iload hx hb dX7_indent_20 (lv_at hl 8 rfl) ?_
  refine lv_iload hx hb dX7_indent_22 (lv_at hl 0 rfl) ?_
  refine pu_call (va_runV (As := [.int a1, .int a2, .int a3, .int a4, .int 14]) (rest := []) ⟨hx, hb, hml, hown, hts⟩ (c_X7_cost l dC dI h0 q cy a1 a2 a3 a4 14) (cwV 5 hts gX7_indent_X7_cost rfl rfl rfl (by decide +kernel) ⟨Nat.le_of_ble_eq_true rfl, Nat.le_of_ble_eq_true rfl⟩) (pu_pre hP hK (ci := 6) (q0 := 0) rfl rfl) rfl rfl hl.1 rfl (lv_room (Nat.le_of_ble_eq_true rfl)) dX7_indent_24 ⟨Nat.zero_le _, Nat.zero_le _⟩) ?_
  refine lv_istore (lv' := [(8, .int (-1)), (7, .int 14), (6, .int (-1)), (5, .int (-1)), (0, .ref h0), (1, .int a1), (2, .int a2), (3, .int a3), (4, .int a4)]) hx hb dX7_indent_27 hl (by decide) rfl (fun ls hl => ?_)
  refine lv_iload hx hb dX7_indent_29 (lv_at hl 0 rfl) ?_
  refine lv_iconst (v := (-1)) hx hb dX7_indent_31 (by decide) ?_
  refine lv_icmp_eq (tgt := 56) hx hb dX7_indent_32 (by decide) (fun h_30 => ?_) (fun h_30 => absurd (by decide) h_30)
  refine lv_iinc (v := 15) (lv' := [(7, .int 15), (8, .int (-1)), (6, .int (-1)), (5, .int (-1)), (0, .ref h0), (1, .int a1), (2, .int a2), (3, .int a3), (4, .int a4)]) hx hb dX7_indent_56 hl (k := 1) rfl (by decide) (by decide) rfl (fun ls hl => ?_)
  refine lv_goto (tgt := 9) hx hb dX7_indent_59 (by decide) ?_
  refine lv_iload hx hb dX7_indent_9 (lv_at hl 0 rfl) ?_
  refine lv_bipush (v := 20) hx hb dX7_indent_11 (by decide) ?_
  refine lv_icmp_gt (tgt := 62) hx hb dX7_indent_13 (by decide) (fun h_31 => absurd h_31 (by decide)) (fun h_31 => ?_)
  refine lv_aload_n hx hb dX7_indent_16 rfl (lv_at hl 4 rfl) ?_
  refine lv_iload_n hx hb dX7_indent_17 rfl (lv_at hl 5 rfl) ?_
  refine lv_iload_n hx hb dX7_indent_18 rfl (lv_at hl 6 rfl) ?_
  refine lv_iload_n hx hb dX7_indent_19 rfl (lv_at hl 7 rfl) ?_
  refine lv_iload hx hb dX7_indent_20 (lv_at hl 8 rfl) ?_
  refine lv_iload hx hb dX7_indent_22 (lv_at hl 0 rfl) ?_
  refine pu_call (va_runV (As := [.int a1, .int a2, .int a3, .int a4, .int 15]) (rest := []) ⟨hx, hb, hml, hown, hts⟩ (c_X7_cost l dC dI h0 q cy a1 a2 a3 a4 15) (cwV 5 hts gX7_indent_X7_cost rfl rfl rfl (by decide +kernel) ⟨Nat.le_of_ble_eq_true rfl, Nat.le_of_ble_eq_true rfl⟩) (pu_pre hP hK (ci := 6) (q0 := 0) rfl rfl) rfl rfl hl.1 rfl (lv_room (Nat.le_of_ble_eq_true rfl)) dX7_indent_24 ⟨Nat.zero_le _, Nat.zero_le _⟩) ?_
  refine lv_istore (lv' := [(8, .int (-1)), (7, .int 15), (6, .int (-1)), (5, .int (-1)), (0, .ref h0), (1, .int a1), (2, .int a2), (3, .int a3), (4, .int a4)]) hx hb dX7_indent_27 hl (by decide) rfl (fun ls hl => ?_)
  refine lv_iload hx hb dX7_indent_29 (lv_at hl 0 rfl) ?_
  refine lv_iconst (v := (-1)) hx hb dX7_indent_31 (by decide) ?_
  refine lv_icmp_eq (tgt := 56) hx hb dX7_indent_32 (by decide) (fun h_32 => ?_) (fun h_32 => absurd (by decide) h_32)
  refine lv_iinc (v := 16) (lv' := [(7, .int 16), (8, .int (-1)), (6, .int (-1)), (5, .int (-1)), (0, .ref h0), (1, .int a1), (2, .int a2), (3, .int a3), (4, .int a4)]) hx hb dX7_indent_56 hl (k := 1) rfl (by decide) (by decide) rfl (fun ls hl => ?_)
  refine lv_goto (tgt := 9) hx hb dX7_indent_59 (by decide) ?_
  refine lv_iload hx hb dX7_indent_9 (lv_at hl 0 rfl) ?_
  refine lv_bipush (v := 20) hx hb dX7_indent_11 (by decide) ?_
  refine lv_icmp_gt (tgt := 62) hx hb dX7_indent_13 (by decide) (fun h_33 => absurd h_33 (by decide)) (fun h_33 => ?_)
  refine lv_aload_n hx hb dX7_indent_16 rfl (lv_at hl 4 rfl) ?_
  refine lv_iload_n hx hb dX7_indent_17 rfl (lv_at hl 5 rfl) ?_
  refine lv_iload_n hx hb dX7_indent_18 rfl (lv_at hl 6 rfl) ?_
  refine lv_iload_n hx hb dX7_indent_19 rfl (lv_at hl 7 rfl) ?_
  refine lv_iload hx hb dX7_indent_20 (lv_at hl 8 rfl) ?_
  refine lv_iload hx hb dX7_indent_22 (lv_at hl 0 rfl) ?_
  refine pu_call (va_runV (As := [.int a1, .int a2, .int a3, .int a4, .int 16]) (rest := []) ⟨hx, hb, hml, hown, hts⟩ (c_X7_cost l dC dI h0 q cy a1 a2 a3 a4 16) (cwV 5 hts gX7_indent_X7_cost rfl rfl rfl (by decide +kernel) ⟨Nat.le_of_ble_eq_true rfl, Nat.le_of_ble_eq_true rfl⟩) (pu_pre hP hK (ci := 6) (q0 := 0) rfl rfl) rfl rfl hl.1 rfl (lv_room (Nat.le_of_ble_eq_true rfl)) dX7_indent_24 ⟨Nat.zero_le _, Nat.zero_le _⟩) ?_
  refine lv_istore (lv' := [(8, .int (-1)), (7, .int 16), (6, .int (-1)), (5, .int (-1)), (0, .ref h0), (1, .int a1), (2, .int a2), (3, .int a3), (4, .int a4)]) hx hb dX7_indent_27 hl (by decide) rfl (fun ls hl => ?_)
  refine lv_iload hx hb dX7_indent_29 (lv_at hl 0 rfl) ?_
  refine lv_iconst (v := (-1)) hx hb dX7_indent_31 (by decide) ?_
  refine lv_icmp_eq (tgt := 56) hx hb dX7_indent_32 (by decide) (fun h_34 => ?_) (fun h_34 => absurd (by decide) h_34)
  refine lv_iinc (v := 17) (lv' := [(7, .int 17), (8, .int (-1)), (6, .int (-1)), (5, .int (-1)), (0, .ref h0), (1, .int a1), (2, .int a2), (3, .int a3), (4, .int a4)]) hx hb dX7_indent_56 hl (k := 1) rfl (by decide) (by decide) rfl (fun ls hl => ?_)
  refine lv_goto (tgt := 9) hx hb dX7_indent_59 (by decide) ?_
  refine lv_iload hx hb dX7_indent_9 (lv_at hl 0 rfl) ?_
  refine lv_bipush (v := 20) hx hb dX7_indent_11 (by decide) ?_
  refine lv_icmp_gt (tgt := 62) hx hb dX7_indent_13 (by decide) (fun h_35 => absurd h_35 (by decide)) (fun h_35 => ?_)
  refine lv_aload_n hx hb dX7_indent_16 rfl (lv_at hl 4 rfl) ?_
  refine lv_iload_n hx hb dX7_indent_17 rfl (lv_at hl 5 rfl) ?_
  refine lv_iload_n hx hb dX7_indent_18 rfl (lv_at hl 6 rfl) ?_
  refine lv_iload_n hx hb dX7_indent_19 rfl (lv_at hl 7 rfl) ?_
  refine lv_iload hx hb dX7_indent_20 (lv_at hl 8 rfl) ?_
  refine lv_iload hx hb dX7_indent_22 (lv_at hl 0 rfl) ?_
  refine pu_call (va_runV (As := [.int a1, .int a2, .int a3, .int a4, .int 17]) (rest := []) ⟨hx, hb, hml, hown, hts⟩ (c_X7_cost l dC dI h0 q cy a1 a2 a3 a4 17) (cwV 5 hts gX7_indent_X7_cost rfl rfl rfl (by decide +kernel) ⟨Nat.le_of_ble_eq_true rfl, Nat.le_of_ble_eq_true rfl⟩) (pu_pre hP hK (ci := 6) (q0 := 0) rfl rfl) rfl rfl hl.1 rfl (lv_room (Nat.le_of_ble_eq_true rfl)) dX7_indent_24 ⟨Nat.zero_le _, Nat.zero_le _⟩) ?_
  refine lv_istore (lv' := [(8, .int (-1)), (7, .int 17), (6, .int (-1)), (5, .int (-1)), (0, .ref h0), (1, .int a1), (2, .int a2), (3, .int a3), (4, .int a4)]) hx hb dX7_indent_27 hl (by decide) rfl (fun ls hl => ?_)
  refine lv_iload hx hb dX7_indent_29 (lv_at hl 0 rfl) ?_
  refine lv_iconst (v := (-1)) hx hb dX7_indent_31 (by decide) ?_
  refine lv_icmp_eq (tgt := 56) hx hb dX7_indent_32 (by decide) (fun h_36 => ?_) (fun h_36 => absurd (by decide) h_36)
  refine lv_iinc (v := 18) (lv' := [(7, .int 18), (8, .int (-1)), (6, .int (-1)), (5, .int (-1)), (0, .ref h0), (1, .int a1), (2, .int a2), (3, .int a3), (4, .int a4)]) hx hb dX7_indent_56 hl (k := 1) rfl (by decide) (by decide) rfl (fun ls hl => ?_)
  refine lv_goto (tgt := 9) hx hb dX7_indent_59 (by decide) ?_
  refine lv_iload hx hb dX7_indent_9 (lv_at hl 0 rfl) ?_
  refine lv_bipush (v := 20) hx hb dX7_indent_11 (by decide) ?_
  refine lv_icmp_gt (tgt := 62) hx hb dX7_indent_13 (by decide) (fun h_37 => absurd h_37 (by decide)) (fun h_37 => ?_)
  refine lv_aload_n hx hb dX7_indent_16 rfl (lv_at hl 4 rfl) ?_
  refine lv_iload_n hx hb dX7_indent_17 rfl (lv_at hl 5 rfl) ?_
  refine lv_iload_n hx hb dX7_indent_18 rfl (lv_at hl 6 rfl) ?_
  refine lv_iload_n hx hb dX7_indent_19 rfl (lv_at hl 7 rfl) ?_
  refine lv_iload hx hb dX7_indent_20 (lv_at hl 8 rfl) ?_
  refine lv_iload hx hb dX7_indent_22 (lv_at hl 0 rfl) ?_
  refine pu_call (va_runV (As := [.int a1, .int a2, .int a3, .int a4, .int 18]) (rest := []) ⟨hx, hb, hml, hown, hts⟩ (c_X7_cost l dC dI h0 q cy a1 a2 a3 a4 18) (cwV 5 hts gX7_indent_X7_cost rfl rfl rfl (by decide +kernel) ⟨Nat.le_of_ble_eq_true rfl, Nat.le_of_ble_eq_true rfl⟩) (pu_pre hP hK (ci := 6) (q0 := 0) rfl rfl) rfl rfl hl.1 rfl (lv_room (Nat.le_of_ble_eq_true rfl)) dX7_indent_24 ⟨Nat.zero_le _, Nat.zero_le _⟩) ?_
  refine lv_istore (lv' := [(8, .int (-1)), (7, .int 18), (6, .int (-1)), (5, .int (-1)), (0, .ref h0), (1, .int a1), (2, .int a2), (3, .int a3), (4, .int a4)]) hx hb dX7_indent_27 hl (by decide) rfl (fun ls hl => ?_)
  refine lv_iload hx hb dX7_indent_29 (lv_at hl 0 rfl) ?_
  refine lv_iconst (v := (-1)) hx hb dX7_indent_31 (by decide) ?_
  refine lv_icmp_eq (tgt := 56) hx hb dX7_indent_32 (by decide) (fun h_38 => ?_) (fun h_38 => absurd (by decide) h_38)
  refine lv_iinc (v := 19) (lv' := [(7, .int 19), (8, .int (-1)), (6, .int (-1)), (5, .int (-1)), (0, .ref h0), (1, .int a1), (2, .int a2), (3, .int a3), (4, .int a4)]) hx hb dX7_indent_56 hl (k := 1) rfl (by decide) (by decide) rfl (fun ls hl => ?_)
  refine lv_goto (tgt := 9) hx hb dX7_indent_59 (by decide) ?_
  refine lv_iload hx hb dX7_indent_9 (lv_at hl 0 rfl) ?_
  refine lv_bipush (v := 20) hx hb dX7_indent_11 (by decide) ?_
  refine lv_icmp_gt (tgt := 62) hx hb dX7_indent_13 (by decide) (fun h_39 => absurd h_39 (by decide)) (fun h_39 => ?_)
  refine lv_aload_n hx hb dX7_indent_16 rfl (lv_at hl 4 rfl) ?_
  refine lv_iload_n hx hb dX7_indent_17 rfl (lv_at hl 5 rfl) ?_
  refine lv_iload_n hx hb dX7_indent_18 rfl (lv_at hl 6 rfl) ?_
  refine lv_iload_n hx hb dX7_indent_19 rfl (lv_at hl 7 rfl) ?_
  refine lv_iload hx hb dX7_indent_20 (lv_at hl 8 rfl) ?_
  refine lv_iload hx hb dX7_indent_22 (lv_at hl 0 rfl) ?_
  refine pu_call (va_runV (As := [.int a1, .int a2, .int a3, .int a4, .int 19]) (rest := []) ⟨hx, hb, hml, hown, hts⟩ (c_X7_cost l dC dI h0 q cy a1 a2 a3 a4 19) (cwV 5 hts gX7_indent_X7_cost rfl rfl rfl (by decide +kernel) ⟨Nat.le_of_ble_eq_true rfl, Nat.le_of_ble_eq_true rfl⟩) (pu_pre hP hK (ci := 6) (q0 := 0) rfl rfl) rfl rfl hl.1 rfl (lv_room (Nat.le_of_ble_eq_true rfl)) dX7_indent_24 ⟨Nat.zero_le _, Nat.zero_le _⟩) ?_
  refine lv_istore (lv' := [(8, .int (-1)), (7, .int 19), (6, .int (-1)), (5, .int (-1)), (0, .ref h0), (1, .int a1), (2, .int a2), (3, .int a3), (4, .int a4)]) hx hb dX7_indent_27 hl (by decide) rfl (fun ls hl => ?_)
  refine lv_iload hx hb dX7_indent_29 (lv_at hl 0 rfl) ?_
  refine lv_iconst (v := (-1)) hx hb dX7_indent_31 (by decide) ?_
  refine lv_icmp_eq (tgt := 56) hx hb dX7_indent_32 (by decide) (fun h_40 => ?_) (fun h_40 => absurd (by decide) h_40)
  refine lv_iinc (v := 20) (lv' := [(7, .int 20), (8, .int (-1)), (6, .int (-1)), (5, .int (-1)), (0, .ref h0), (1, .int a1), (2, .int a2), (3, .int a3), (4, .int a4)]) hx hb dX7_indent_56 hl (k := 1) rfl (by decide) (by decide) rfl (fun ls hl => ?_)
  refine lv_goto (tgt := 9) hx hb dX7_indent_59 (by decide) ?_
  refine lv_iload hx hb dX7_indent_9 (lv_at hl 0 rfl) ?_
  refine lv_bipush (v := 20) hx hb dX7_indent_11 (by decide) ?_
  refine lv_icmp_gt (tgt := 62) hx hb dX7_indent_13 (by decide) (fun h_41 => absurd h_41 (by decide)) (fun h_41 => ?_)
  refine lv_aload_n hx hb dX7_indent_16 rfl (lv_at hl 4 rfl) ?_
  refine lv_iload_n hx hb dX7_indent_17 rfl (lv_at hl 5 rfl) ?_
  refine lv_iload_n hx hb dX7_indent_18 rfl (lv_at hl 6 rfl) ?_
  refine lv_iload_n hx hb dX7_indent_19 rfl (lv_at hl 7 rfl) ?_
  refine lv_iload hx hb dX7_indent_20 (lv_at hl 8 rfl) ?_
  refine lv_iload hx hb dX7_indent_22 (lv_at hl 0 rfl) ?_
  refine pu_call (va_runV (As := [.int a1, .int a2, .int a3, .int a4, .int 20]) (rest := []) ⟨hx, hb, hml, hown, hts⟩ (c_X7_cost l dC dI h0 q cy a1 a2 a3 a4 20) (cwV 5 hts gX7_indent_X7_cost rfl rfl rfl (by decide +kernel) ⟨Nat.le_of_ble_eq_true rfl, Nat.le_of_ble_eq_true rfl⟩) (pu_pre hP hK (ci := 6) (q0 := 0) rfl rfl) rfl rfl hl.1 rfl (lv_room (Nat.le_of_ble_eq_true rfl)) dX7_indent_24 ⟨Nat.zero_le _, Nat.zero_le _⟩) ?_
  refine lv_istore (lv' := [(8, .int (-1)), (7, .int 20), (6, .int (-1)), (5, .int (-1)), (0, .ref h0), (1, .int a1), (2, .int a2), (3, .int a3), (4, .int a4)]) hx hb dX7_indent_27 hl (by decide) rfl (fun ls hl => ?_)
  refine lv_iload hx hb dX7_indent_29 (lv_at hl 0 rfl) ?_
  refine lv_iconst (v := (-1)) hx hb dX7_indent_31 (by decide) ?_
  refine lv_icmp_eq (tgt := 56) hx hb dX7_indent_32 (by decide) (fun h_42 => ?_) (fun h_42 => absurd (by decide) h_42)
  refine lv_iinc (v := 21) (lv' := [(7, .int 21), (8, .int (-1)), (6, .int (-1)), (5, .int (-1)), (0, .ref h0), (1, .int a1), (2, .int a2), (3, .int a3), (4, .int a4)]) hx hb dX7_indent_56 hl (k := 1) rfl (by decide) (by decide) rfl (fun ls hl => ?_)
  refine lv_goto (tgt := 9) hx hb dX7_indent_59 (by decide) ?_
  refine lv_iload hx hb dX7_indent_9 (lv_at hl 0 rfl) ?_
  refine lv_bipush (v := 20) hx hb dX7_indent_11 (by decide) ?_
  refine lv_icmp_gt (tgt := 62) hx hb dX7_indent_13 (by decide) (fun h_43 => ?_) (fun h_43 => absurd (by decide) h_43)
  refine lv_iload hx hb dX7_indent_62 (lv_at hl 3 rfl) ?_
  exact W.iret (v := (-1)) hx hb hr (fun t ht hW => ⟨rfl, ht⟩) (fun q h => by cases h) dX7_indent_64

set_option maxHeartbeats 4000000 in
set_option maxRecDepth 100000 in
theorem c_X7_quarrel (l : Launch) (dC : Nat → ClassId) (dI : Nat → Nat → Nat) (h0 : Nat) (q : Nat → Nat) (cy : Nat → ClassId) (a1 a2 : Int32) : Met l yX7_quarrel wsX7_quarrel ({ frames := 2, cells := 0, slots := 0, locals := 43 }) (va_Pc [.ref h0, .int a1, .int a2] (pu_P (dC, dI) vwCl (fx_T cy) (fx_W h0 q cy))) (pu_Q (.int (-1))) 0 0 pu_F := by
  refine Met.ofW (cc := cX7_quarrel) (maxL := 5) (ret := (some .int)) (by decide) rfl ?_
  intro p e s m args below meth c s₁ B hml hv
  obtain ⟨rfl, hP, hK⟩ := hv
  have hx := B.exec
  have hb := B.bytes
  have hr := B.returns
  have hts := atoms_spec (ws := wsX7_quarrel) B.pre
  have hown : s.vm.findClass RX7 = some m.cls := findClass_of_methodNamed B.named
  have hlocks := B.notSynchronized
  have hl := lv_entry ([.ref h0, .int a1, .int a2]) (n := 5) (Nat.le_of_ble_eq_true rfl)
  rw [lg_entry_eq]
  generalize (lg_sl ([.ref h0, .int a1, .int a2]) ++ List.replicate (5 - (lg_sl ([.ref h0, .int a1, .int a2])).length) Slot.unset).toArray = ls at hl ⊢
  have hl : lv_has ls 5 [(0, .ref h0), (1, .int a1), (2, .int a2)] := hl
  refine lv_aload_n hx hb dX7_quarrel_0 rfl (lv_at hl 0 rfl) ?_
  refine lv_iload_n hx hb dX7_quarrel_1 rfl (lv_at hl 1 rfl) ?_
  refine lv_iload_n hx hb dX7_quarrel_2 rfl (lv_at hl 2 rfl) ?_
  refine pu_call (va_runV (As := [.int a1, .int a2]) (rest := []) ⟨hx, hb, hml, hown, hts⟩ (c_X7_areTwoPosts l dC dI h0 q cy a1 a2) (cwV 2 hts gX7_quarrel_X7_areTwoPosts rfl rfl rfl (by decide +kernel) ⟨Nat.le_of_ble_eq_true rfl, Nat.le_of_ble_eq_true rfl⟩) (pu_pre hP hK (ci := 6) (q0 := 0) rfl rfl) rfl rfl hl.1 rfl (lv_room (Nat.le_of_ble_eq_true rfl)) dX7_quarrel_3 ⟨Nat.zero_le _, Nat.zero_le _⟩) ?_
  refine lv_if_ne (tgt := 11) hx hb dX7_quarrel_6 (by decide) (fun h_1 => absurd (by decide) h_1) (fun h_1 => ?_)
  refine lv_iconst (v := (-1)) hx hb dX7_quarrel_9 (by decide) ?_
  exact W.iret (v := (-1)) hx hb hr (fun t ht hW => ⟨rfl, ht⟩) (fun q h => by cases h) dX7_quarrel_10

set_option maxHeartbeats 4000000 in
set_option maxRecDepth 100000 in
theorem c_X7_canoe (l : Launch) (dC : Nat → ClassId) (dI : Nat → Nat → Nat) (h0 : Nat) (q : Nat → Nat) (cy : Nat → ClassId) (a1 a2 : Int32) : Met l yX7_canoe wsX7_canoe ({ frames := 1, cells := 0, slots := 0, locals := 21 }) (va_Pc [.ref h0, .int a1, .int a2] (pu_P (dC, dI) vwCl (fx_T cy) (fx_W h0 q cy))) (pu_Q (.int (-1))) 0 0 pu_F := by
  refine Met.ofW (cc := cX7_canoe) (maxL := 4) (ret := (some .int)) (by decide) rfl ?_
  intro p e s m args below meth c s₁ B hml hv
  obtain ⟨rfl, hP, hK⟩ := hv
  have hx := B.exec
  have hb := B.bytes
  have hr := B.returns
  have hts := atoms_spec (ws := wsX7_canoe) B.pre
  have hown : s.vm.findClass RX7 = some m.cls := findClass_of_methodNamed B.named
  have hlocks := B.notSynchronized
  have hl := lv_entry ([.ref h0, .int a1, .int a2]) (n := 4) (Nat.le_of_ble_eq_true rfl)
  rw [lg_entry_eq]
  generalize (lg_sl ([.ref h0, .int a1, .int a2]) ++ List.replicate (4 - (lg_sl ([.ref h0, .int a1, .int a2])).length) Slot.unset).toArray = ls at hl ⊢
  have hl : lv_has ls 4 [(0, .ref h0), (1, .int a1), (2, .int a2)] := hl
  refine lv_aload_n hx hb dX7_canoe_0 rfl (lv_at hl 0 rfl) ?_
  refine lv_iload_n hx hb dX7_canoe_1 rfl (lv_at hl 1 rfl) ?_
  refine pu_call (va_runV (As := [.int a1]) (rest := []) ⟨hx, hb, hml, hown, hts⟩ (c_X7_canoeAt l dC dI h0 q cy a1) (cwV 1 hts gX7_canoe_X7_canoeAt rfl rfl rfl (by decide +kernel) ⟨Nat.le_of_ble_eq_true rfl, Nat.le_of_ble_eq_true rfl⟩) (pu_pre hP hK (ci := 6) (q0 := 0) rfl rfl) rfl rfl hl.1 rfl (lv_room (Nat.le_of_ble_eq_true rfl)) dX7_canoe_2 ⟨Nat.zero_le _, Nat.zero_le _⟩) ?_
  refine lv_astore_nN (lv' := [(3, .null), (0, .ref h0), (1, .int a1), (2, .int a2)]) hx hb dX7_canoe_5 rfl hl (by decide) rfl (fun ls hl => ?_)
  refine lv_aload_nN hx hb dX7_canoe_6 rfl (lv_at hl 0 rfl) ?_
  refine lv_ifnonnullN hx hb dX7_canoe_7 ?_
  refine lv_iconst (v := (-1)) hx hb dX7_canoe_10 (by decide) ?_
  exact W.iret (v := (-1)) hx hb hr (fun t ht hW => ⟨rfl, ht⟩) (fun q h => by cases h) dX7_canoe_11

set_option maxHeartbeats 4000000 in
set_option maxRecDepth 100000 in
theorem c_X7_told (l : Launch) (dC : Nat → ClassId) (dI : Nat → Nat → Nat) (h0 : Nat) (q : Nat → Nat) (cy : Nat → ClassId) (a1 a2 : Int32) : Met l yX7_told wsX7_told ({ frames := 1, cells := 0, slots := 0, locals := 21 }) (va_Pc [.ref h0, .int a1, .int a2] (pu_P (dC, dI) vwCl (fx_T cy) (fx_W h0 q cy))) (pu_Q (.int (-1))) 0 0 pu_F := by
  refine Met.ofW (cc := cX7_told) (maxL := 4) (ret := (some .int)) (by decide) rfl ?_
  intro p e s m args below meth c s₁ B hml hv
  obtain ⟨rfl, hP, hK⟩ := hv
  have hx := B.exec
  have hb := B.bytes
  have hr := B.returns
  have hts := atoms_spec (ws := wsX7_told) B.pre
  have hown : s.vm.findClass RX7 = some m.cls := findClass_of_methodNamed B.named
  have hlocks := B.notSynchronized
  have hl := lv_entry ([.ref h0, .int a1, .int a2]) (n := 4) (Nat.le_of_ble_eq_true rfl)
  rw [lg_entry_eq]
  generalize (lg_sl ([.ref h0, .int a1, .int a2]) ++ List.replicate (4 - (lg_sl ([.ref h0, .int a1, .int a2])).length) Slot.unset).toArray = ls at hl ⊢
  have hl : lv_has ls 4 [(0, .ref h0), (1, .int a1), (2, .int a2)] := hl
  refine lv_aload_n hx hb dX7_told_0 rfl (lv_at hl 0 rfl) ?_
  refine lv_iload_n hx hb dX7_told_1 rfl (lv_at hl 1 rfl) ?_
  refine pu_call (va_runV (As := [.int a1]) (rest := []) ⟨hx, hb, hml, hown, hts⟩ (c_X7_postAt l dC dI h0 q cy a1) (cwV 1 hts gX7_told_X7_postAt rfl rfl rfl (by decide +kernel) ⟨Nat.le_of_ble_eq_true rfl, Nat.le_of_ble_eq_true rfl⟩) (pu_pre hP hK (ci := 6) (q0 := 0) rfl rfl) rfl rfl hl.1 rfl (lv_room (Nat.le_of_ble_eq_true rfl)) dX7_told_2 ⟨Nat.zero_le _, Nat.zero_le _⟩) ?_
  refine lv_astore_nN (lv' := [(3, .null), (0, .ref h0), (1, .int a1), (2, .int a2)]) hx hb dX7_told_5 rfl hl (by decide) rfl (fun ls hl => ?_)
  refine lv_aload_nN hx hb dX7_told_6 rfl (lv_at hl 0 rfl) ?_
  refine lv_ifnonnullN hx hb dX7_told_7 ?_
  refine lv_iconst (v := (-1)) hx hb dX7_told_10 (by decide) ?_
  exact W.iret (v := (-1)) hx hb hr (fun t ht hW => ⟨rfl, ht⟩) (fun q h => by cases h) dX7_told_11
