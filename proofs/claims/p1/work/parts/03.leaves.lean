set_option maxHeartbeats 4000000 in
set_option maxRecDepth 100000 in
theorem c_X7_isWithin (l : Launch) (a0 a1 a2 : Int32) : Met l yX7_isWithin wsX7_isWithin ({ frames := 0, cells := 0, slots := 0, locals := 0 }) (va_Pc [.int a0, .int a1, .int a2] (fun _ => True)) (pu_Q (.int (sp_in a0 a1 a2))) 0 0 pu_F := by
  refine Met.ofW (cc := cX7_isWithin) (maxL := 3) (ret := (some .boolean)) (by decide) rfl ?_
  intro p e s m args below meth c s₁ B hml hv
  obtain ⟨rfl, -⟩ := hv
  have hx := B.exec
  have hb := B.bytes
  have hr := B.returns
  have hts := atoms_spec (ws := wsX7_isWithin) B.pre
  have hown : s.vm.findClass RX7 = some m.cls := findClass_of_methodNamed B.named
  have hlocks := B.notSynchronized
  have hl := lv_entry ([.int a0, .int a1, .int a2]) (n := 3) (Nat.le_of_ble_eq_true rfl)
  rw [lg_entry_eq]
  generalize (lg_sl ([.int a0, .int a1, .int a2]) ++ List.replicate (3 - (lg_sl ([.int a0, .int a1, .int a2])).length) Slot.unset).toArray = ls at hl ⊢
  have hl : lv_has ls 3 [(0, .int a0), (1, .int a1), (2, .int a2)] := hl
  refine lv_iload_n hx hb dX7_isWithin_0 rfl (lv_at hl 0 rfl) ?_
  refine lv_iload_n hx hb dX7_isWithin_1 rfl (lv_at hl 1 rfl) ?_
  refine lv_icmp_lt (tgt := 14) hx hb dX7_isWithin_2 (by decide) (fun h_1 => ?_) (fun h_1 => ?_)
  · skip
    refine lv_iconst (v := 0) hx hb dX7_isWithin_14 (by decide) ?_
    exact W.zret (v := 0) hx hb hr rfl (fun t ht hW => ⟨congrArg (fun z => Outcome.returned (some (Value.int z))) (by unfold sp_in; simp only [sp_le, sp_lt, show (0 : Int32).toInt = 0 from rfl, show (5 : Int32).toInt = 5 from rfl, show (6 : Int32).toInt = 6 from rfl, show (11 : Int32).toInt = 11 from rfl, show (12 : Int32).toInt = 12 from rfl] at h_1 ⊢; first | (rw [if_pos (by omega)]; done) | (rw [if_neg (by omega)]; done)), ht⟩) (fun q h => by cases h) dX7_isWithin_15
  · skip
    refine lv_iload_n hx hb dX7_isWithin_5 rfl (lv_at hl 0 rfl) ?_
    refine lv_iload_n hx hb dX7_isWithin_6 rfl (lv_at hl 2 rfl) ?_
    refine lv_icmp_gt (tgt := 14) hx hb dX7_isWithin_7 (by decide) (fun h_2 => ?_) (fun h_2 => ?_)
    · skip
      refine lv_iconst (v := 0) hx hb dX7_isWithin_14 (by decide) ?_
      exact W.zret (v := 0) hx hb hr rfl (fun t ht hW => ⟨congrArg (fun z => Outcome.returned (some (Value.int z))) (by unfold sp_in; simp only [sp_le, sp_lt, show (0 : Int32).toInt = 0 from rfl, show (5 : Int32).toInt = 5 from rfl, show (6 : Int32).toInt = 6 from rfl, show (11 : Int32).toInt = 11 from rfl, show (12 : Int32).toInt = 12 from rfl] at h_1 h_2 ⊢; first | (rw [if_pos (by omega)]; done) | (rw [if_neg (by omega)]; done)), ht⟩) (fun q h => by cases h) dX7_isWithin_15
    · skip
      refine lv_iconst (v := 1) hx hb dX7_isWithin_10 (by decide) ?_
      refine lv_goto (tgt := 15) hx hb dX7_isWithin_11 (by decide) ?_
      exact W.zret (v := 1) hx hb hr rfl (fun t ht hW => ⟨congrArg (fun z => Outcome.returned (some (Value.int z))) (by unfold sp_in; simp only [sp_le, sp_lt, show (0 : Int32).toInt = 0 from rfl, show (5 : Int32).toInt = 5 from rfl, show (6 : Int32).toInt = 6 from rfl, show (11 : Int32).toInt = 11 from rfl, show (12 : Int32).toInt = 12 from rfl] at h_1 h_2 ⊢; first | (rw [if_pos (by omega)]; done) | (rw [if_neg (by omega)]; done)), ht⟩) (fun q h => by cases h) dX7_isWithin_15

set_option maxHeartbeats 4000000 in
set_option maxRecDepth 100000 in
theorem c_X7_isWare (l : Launch) (a0 : Int32) : Met l yX7_isWare wsX7_isWare ({ frames := 0, cells := 0, slots := 0, locals := 0 }) (va_Pc [.int a0] (fun _ => True)) (pu_Q (.int (sp_in a0 0 5))) 0 0 pu_F := by
  refine Met.ofW (cc := cX7_isWare) (maxL := 1) (ret := (some .boolean)) (by decide) rfl ?_
  intro p e s m args below meth c s₁ B hml hv
  obtain ⟨rfl, -⟩ := hv
  have hx := B.exec
  have hb := B.bytes
  have hr := B.returns
  have hts := atoms_spec (ws := wsX7_isWare) B.pre
  have hown : s.vm.findClass RX7 = some m.cls := findClass_of_methodNamed B.named
  have hlocks := B.notSynchronized
  have hl := lv_entry ([.int a0]) (n := 1) (Nat.le_of_ble_eq_true rfl)
  rw [lg_entry_eq]
  generalize (lg_sl ([.int a0]) ++ List.replicate (1 - (lg_sl ([.int a0])).length) Slot.unset).toArray = ls at hl ⊢
  have hl : lv_has ls 1 [(0, .int a0)] := hl
  refine lv_iload_n hx hb dX7_isWare_0 rfl (lv_at hl 0 rfl) ?_
  refine lv_if_lt (tgt := 14) hx hb dX7_isWare_1 (by decide) (fun h_1 => ?_) (fun h_1 => ?_)
  · skip
    refine lv_iconst (v := 0) hx hb dX7_isWare_14 (by decide) ?_
    exact W.zret (v := 0) hx hb hr rfl (fun t ht hW => ⟨congrArg (fun z => Outcome.returned (some (Value.int z))) (by unfold sp_in; simp only [sp_le, sp_lt, show (0 : Int32).toInt = 0 from rfl, show (5 : Int32).toInt = 5 from rfl, show (6 : Int32).toInt = 6 from rfl, show (11 : Int32).toInt = 11 from rfl, show (12 : Int32).toInt = 12 from rfl] at h_1 ⊢; first | (rw [if_pos (by omega)]; done) | (rw [if_neg (by omega)]; done)), ht⟩) (fun q h => by cases h) dX7_isWare_15
  · skip
    refine lv_iload_n hx hb dX7_isWare_4 rfl (lv_at hl 0 rfl) ?_
    refine lv_bipush (v := 6) hx hb dX7_isWare_5 (by decide) ?_
    refine lv_icmp_ge (tgt := 14) hx hb dX7_isWare_7 (by decide) (fun h_2 => ?_) (fun h_2 => ?_)
    · skip
      refine lv_iconst (v := 0) hx hb dX7_isWare_14 (by decide) ?_
      exact W.zret (v := 0) hx hb hr rfl (fun t ht hW => ⟨congrArg (fun z => Outcome.returned (some (Value.int z))) (by unfold sp_in; simp only [sp_le, sp_lt, show (0 : Int32).toInt = 0 from rfl, show (5 : Int32).toInt = 5 from rfl, show (6 : Int32).toInt = 6 from rfl, show (11 : Int32).toInt = 11 from rfl, show (12 : Int32).toInt = 12 from rfl] at h_1 h_2 ⊢; first | (rw [if_pos (by omega)]; done) | (rw [if_neg (by omega)]; done)), ht⟩) (fun q h => by cases h) dX7_isWare_15
    · skip
      refine lv_iconst (v := 1) hx hb dX7_isWare_10 (by decide) ?_
      refine lv_goto (tgt := 15) hx hb dX7_isWare_11 (by decide) ?_
      exact W.zret (v := 1) hx hb hr rfl (fun t ht hW => ⟨congrArg (fun z => Outcome.returned (some (Value.int z))) (by unfold sp_in; simp only [sp_le, sp_lt, show (0 : Int32).toInt = 0 from rfl, show (5 : Int32).toInt = 5 from rfl, show (6 : Int32).toInt = 6 from rfl, show (11 : Int32).toInt = 11 from rfl, show (12 : Int32).toInt = 12 from rfl] at h_1 h_2 ⊢; first | (rw [if_pos (by omega)]; done) | (rw [if_neg (by omega)]; done)), ht⟩) (fun q h => by cases h) dX7_isWare_15

set_option maxHeartbeats 4000000 in
set_option maxRecDepth 100000 in
theorem c_X7_isHunter (l : Launch) (a0 : Int32) : Met l yX7_isHunter wsX7_isHunter ({ frames := 0, cells := 0, slots := 0, locals := 0 }) (va_Pc [.int a0] (fun _ => True)) (pu_Q (.int (sp_in a0 0 11))) 0 0 pu_F := by
  refine Met.ofW (cc := cX7_isHunter) (maxL := 1) (ret := (some .boolean)) (by decide) rfl ?_
  intro p e s m args below meth c s₁ B hml hv
  obtain ⟨rfl, -⟩ := hv
  have hx := B.exec
  have hb := B.bytes
  have hr := B.returns
  have hts := atoms_spec (ws := wsX7_isHunter) B.pre
  have hown : s.vm.findClass RX7 = some m.cls := findClass_of_methodNamed B.named
  have hlocks := B.notSynchronized
  have hl := lv_entry ([.int a0]) (n := 1) (Nat.le_of_ble_eq_true rfl)
  rw [lg_entry_eq]
  generalize (lg_sl ([.int a0]) ++ List.replicate (1 - (lg_sl ([.int a0])).length) Slot.unset).toArray = ls at hl ⊢
  have hl : lv_has ls 1 [(0, .int a0)] := hl
  refine lv_iload_n hx hb dX7_isHunter_0 rfl (lv_at hl 0 rfl) ?_
  refine lv_if_lt (tgt := 14) hx hb dX7_isHunter_1 (by decide) (fun h_1 => ?_) (fun h_1 => ?_)
  · skip
    refine lv_iconst (v := 0) hx hb dX7_isHunter_14 (by decide) ?_
    exact W.zret (v := 0) hx hb hr rfl (fun t ht hW => ⟨congrArg (fun z => Outcome.returned (some (Value.int z))) (by unfold sp_in; simp only [sp_le, sp_lt, show (0 : Int32).toInt = 0 from rfl, show (5 : Int32).toInt = 5 from rfl, show (6 : Int32).toInt = 6 from rfl, show (11 : Int32).toInt = 11 from rfl, show (12 : Int32).toInt = 12 from rfl] at h_1 ⊢; first | (rw [if_pos (by omega)]; done) | (rw [if_neg (by omega)]; done)), ht⟩) (fun q h => by cases h) dX7_isHunter_15
  · skip
    refine lv_iload_n hx hb dX7_isHunter_4 rfl (lv_at hl 0 rfl) ?_
    refine lv_bipush (v := 12) hx hb dX7_isHunter_5 (by decide) ?_
    refine lv_icmp_ge (tgt := 14) hx hb dX7_isHunter_7 (by decide) (fun h_2 => ?_) (fun h_2 => ?_)
    · skip
      refine lv_iconst (v := 0) hx hb dX7_isHunter_14 (by decide) ?_
      exact W.zret (v := 0) hx hb hr rfl (fun t ht hW => ⟨congrArg (fun z => Outcome.returned (some (Value.int z))) (by unfold sp_in; simp only [sp_le, sp_lt, show (0 : Int32).toInt = 0 from rfl, show (5 : Int32).toInt = 5 from rfl, show (6 : Int32).toInt = 6 from rfl, show (11 : Int32).toInt = 11 from rfl, show (12 : Int32).toInt = 12 from rfl] at h_1 h_2 ⊢; first | (rw [if_pos (by omega)]; done) | (rw [if_neg (by omega)]; done)), ht⟩) (fun q h => by cases h) dX7_isHunter_15
    · skip
      refine lv_iconst (v := 1) hx hb dX7_isHunter_10 (by decide) ?_
      refine lv_goto (tgt := 15) hx hb dX7_isHunter_11 (by decide) ?_
      exact W.zret (v := 1) hx hb hr rfl (fun t ht hW => ⟨congrArg (fun z => Outcome.returned (some (Value.int z))) (by unfold sp_in; simp only [sp_le, sp_lt, show (0 : Int32).toInt = 0 from rfl, show (5 : Int32).toInt = 5 from rfl, show (6 : Int32).toInt = 6 from rfl, show (11 : Int32).toInt = 11 from rfl, show (12 : Int32).toInt = 12 from rfl] at h_1 h_2 ⊢; first | (rw [if_pos (by omega)]; done) | (rw [if_neg (by omega)]; done)), ht⟩) (fun q h => by cases h) dX7_isHunter_15

set_option maxHeartbeats 4000000 in
set_option maxRecDepth 100000 in
theorem c_X8_in (l : Launch) (a0 a1 a2 : Int32) : Met l yX8_in wsX8_in ({ frames := 0, cells := 0, slots := 0, locals := 0 }) (va_Pc [.int a0, .int a1, .int a2] (fun _ => True)) (pu_Q (.int (sp_in a0 a1 a2))) 0 0 pu_F := by
  refine Met.ofW (cc := cX8_in) (maxL := 3) (ret := (some .boolean)) (by decide) rfl ?_
  intro p e s m args below meth c s₁ B hml hv
  obtain ⟨rfl, -⟩ := hv
  have hx := B.exec
  have hb := B.bytes
  have hr := B.returns
  have hts := atoms_spec (ws := wsX8_in) B.pre
  have hown : s.vm.findClass RX8 = some m.cls := findClass_of_methodNamed B.named
  have hlocks := B.notSynchronized
  have hl := lv_entry ([.int a0, .int a1, .int a2]) (n := 3) (Nat.le_of_ble_eq_true rfl)
  rw [lg_entry_eq]
  generalize (lg_sl ([.int a0, .int a1, .int a2]) ++ List.replicate (3 - (lg_sl ([.int a0, .int a1, .int a2])).length) Slot.unset).toArray = ls at hl ⊢
  have hl : lv_has ls 3 [(0, .int a0), (1, .int a1), (2, .int a2)] := hl
  refine lv_iload_n hx hb dX8_in_0 rfl (lv_at hl 0 rfl) ?_
  refine lv_iload_n hx hb dX8_in_1 rfl (lv_at hl 1 rfl) ?_
  refine lv_icmp_lt (tgt := 14) hx hb dX8_in_2 (by decide) (fun h_1 => ?_) (fun h_1 => ?_)
  · skip
    refine lv_iconst (v := 0) hx hb dX8_in_14 (by decide) ?_
    exact W.zret (v := 0) hx hb hr rfl (fun t ht hW => ⟨congrArg (fun z => Outcome.returned (some (Value.int z))) (by unfold sp_in; simp only [sp_le, sp_lt, show (0 : Int32).toInt = 0 from rfl, show (5 : Int32).toInt = 5 from rfl, show (6 : Int32).toInt = 6 from rfl, show (11 : Int32).toInt = 11 from rfl, show (12 : Int32).toInt = 12 from rfl] at h_1 ⊢; first | (rw [if_pos (by omega)]; done) | (rw [if_neg (by omega)]; done)), ht⟩) (fun q h => by cases h) dX8_in_15
  · skip
    refine lv_iload_n hx hb dX8_in_5 rfl (lv_at hl 0 rfl) ?_
    refine lv_iload_n hx hb dX8_in_6 rfl (lv_at hl 2 rfl) ?_
    refine lv_icmp_gt (tgt := 14) hx hb dX8_in_7 (by decide) (fun h_2 => ?_) (fun h_2 => ?_)
    · skip
      refine lv_iconst (v := 0) hx hb dX8_in_14 (by decide) ?_
      exact W.zret (v := 0) hx hb hr rfl (fun t ht hW => ⟨congrArg (fun z => Outcome.returned (some (Value.int z))) (by unfold sp_in; simp only [sp_le, sp_lt, show (0 : Int32).toInt = 0 from rfl, show (5 : Int32).toInt = 5 from rfl, show (6 : Int32).toInt = 6 from rfl, show (11 : Int32).toInt = 11 from rfl, show (12 : Int32).toInt = 12 from rfl] at h_1 h_2 ⊢; first | (rw [if_pos (by omega)]; done) | (rw [if_neg (by omega)]; done)), ht⟩) (fun q h => by cases h) dX8_in_15
    · skip
      refine lv_iconst (v := 1) hx hb dX8_in_10 (by decide) ?_
      refine lv_goto (tgt := 15) hx hb dX8_in_11 (by decide) ?_
      exact W.zret (v := 1) hx hb hr rfl (fun t ht hW => ⟨congrArg (fun z => Outcome.returned (some (Value.int z))) (by unfold sp_in; simp only [sp_le, sp_lt, show (0 : Int32).toInt = 0 from rfl, show (5 : Int32).toInt = 5 from rfl, show (6 : Int32).toInt = 6 from rfl, show (11 : Int32).toInt = 11 from rfl, show (12 : Int32).toInt = 12 from rfl] at h_1 h_2 ⊢; first | (rw [if_pos (by omega)]; done) | (rw [if_neg (by omega)]; done)), ht⟩) (fun q h => by cases h) dX8_in_15

set_option maxHeartbeats 4000000 in
set_option maxRecDepth 100000 in
theorem c_X8_isWare (l : Launch) (a0 : Int32) : Met l yX8_isWare wsX8_isWare ({ frames := 1, cells := 0, slots := 0, locals := 22 }) (va_Pc [.int a0] (fun _ => True)) (pu_Q (.int (sp_in a0 0 5))) 0 0 pu_F := by
  refine Met.ofW (cc := cX8_isWare) (maxL := 1) (ret := (some .boolean)) (by decide) rfl ?_
  intro p e s m args below meth c s₁ B hml hv
  obtain ⟨rfl, -⟩ := hv
  have hx := B.exec
  have hb := B.bytes
  have hr := B.returns
  have hts := atoms_spec (ws := wsX8_isWare) B.pre
  have hown : s.vm.findClass RX8 = some m.cls := findClass_of_methodNamed B.named
  have hlocks := B.notSynchronized
  have hl := lv_entry ([.int a0]) (n := 1) (Nat.le_of_ble_eq_true rfl)
  rw [lg_entry_eq]
  generalize (lg_sl ([.int a0]) ++ List.replicate (1 - (lg_sl ([.int a0])).length) Slot.unset).toArray = ls at hl ⊢
  have hl : lv_has ls 1 [(0, .int a0)] := hl
  refine lv_iload_n hx hb dX8_isWare_0 rfl (lv_at hl 0 rfl) ?_
  refine lv_iconst (v := 0) hx hb dX8_isWare_1 (by decide) ?_
  refine lv_iconst (v := 5) hx hb dX8_isWare_2 (by decide) ?_
  refine pu_call (va_runS (As := [.int a0, .int 0, .int 5]) (rest := []) ⟨hx, hb, hml, hown, hts⟩ (c_X8_in l a0 0 5) (va_cwS 3 hts gX8_isWare_X8_in rfl rfl rfl (by decide +kernel) ⟨Nat.le_of_ble_eq_true rfl, Nat.le_of_ble_eq_true rfl⟩) pu_preS rfl rfl hl.1 rfl (lv_room (Nat.le_of_ble_eq_true rfl)) dX8_isWare_3 ⟨Nat.zero_le _, Nat.zero_le _⟩) ?_
  exact W.zret (v := (sp_in a0 0 5)) hx hb hr (sp_narrow _ _ _) (fun t ht hW => ⟨rfl, ht⟩) (fun q h => by cases h) dX8_isWare_6

set_option maxHeartbeats 4000000 in
set_option maxRecDepth 100000 in
theorem c_X7_postAt (l : Launch) (dC : Nat → ClassId) (dI : Nat → Nat → Nat) (h0 : Nat) (q : Nat → Nat) (cy : Nat → ClassId) (a1 : Int32) : Met l yX7_postAt wsX7_postAt ({ frames := 0, cells := 0, slots := 0, locals := 0 }) (va_Pc [.ref h0, .int a1] (pu_P (dC, dI) vwCl (fx_T cy) (fx_W h0 q cy))) (pu_Q (.null)) 0 0 pu_F := by
  refine Met.ofW (cc := cX7_postAt) (maxL := 2) (ret := (some (.object "FurPosts$Post"))) (by decide) rfl ?_
  intro p e s m args below meth c s₁ B hml hv
  obtain ⟨rfl, hP, hK⟩ := hv
  have hx := B.exec
  have hb := B.bytes
  have hr := B.returns
  have hts := atoms_spec (ws := wsX7_postAt) B.pre
  have hown : s.vm.findClass RX7 = some m.cls := findClass_of_methodNamed B.named
  have hlocks := B.notSynchronized
  have hinX7 : ∀ w ∈ u_ws RX7 TX7 14, w ∈ wsX7_postAt := by decide +kernel
  have hl := lv_entry ([.ref h0, .int a1]) (n := 2) (Nat.le_of_ble_eq_true rfl)
  rw [lg_entry_eq]
  generalize (lg_sl ([.ref h0, .int a1]) ++ List.replicate (2 - (lg_sl ([.ref h0, .int a1])).length) Slot.unset).toArray = ls at hl ⊢
  have hl : lv_has ls 2 [(0, .ref h0), (1, .int a1)] := hl
  refine lv_iload_n hx hb dX7_postAt_0 rfl (lv_at hl 1 rfl) ?_
  refine lv_if_lt (tgt := 19) hx hb dX7_postAt_1 (by decide) (fun h_1 => ?_) (fun h_1 => ?_)
  · skip
    refine lv_null hx hb dX7_postAt_19 ?_
    exact W.aret (v := .null) hx hb hr (Or.inl ⟨_, rfl⟩) (Or.inl rfl) (fun t ht hW => ⟨rfl, ht⟩) (fun q h => by cases h) dX7_postAt_20
  · skip
    refine lv_iload_n hx hb dX7_postAt_4 rfl (lv_at hl 1 rfl) ?_
    refine lv_bipush (v := 8) hx hb dX7_postAt_5 (by decide) ?_
    refine lv_icmp_ge (tgt := 19) hx hb dX7_postAt_7 (by decide) (fun h_2 => ?_) (fun h_2 => ?_)
    · skip
      refine lv_null hx hb dX7_postAt_19 ?_
      exact W.aret (v := .null) hx hb hr (Or.inl ⟨_, rfl⟩) (Or.inl rfl) (fun t ht hW => ⟨rfl, ht⟩) (fun q h => by cases h) dX7_postAt_20
    · skip
      refine lv_aload_n hx hb dX7_postAt_10 rfl (lv_at hl 0 rfl) ?_
      refine va_get (D := (dC, dI)) (ci := 6) (v := .ref (q 1)) (C := RX7) (T := TX7) (N := 14) hx hb hts hinX7 hown hK hP 0 rfl rfl 0 (by decide) (hts (.fieldLink RX7 11 "FurPosts" "posts" "[LFurPosts$Post;") (by decide +kernel)) (fun _ h9 => h9) rfl dX7_postAt_11 ?_
      refine lv_iload_n hx hb dX7_postAt_14 rfl (lv_at hl 1 rfl) ?_
      refine va_aldq hx hb hK hP 1 0 rfl rfl (i := a1) (vb_in h_1 h_2 rfl) dX7_postAt_15 ?_
      refine lv_goto (tgt := 20) hx hb dX7_postAt_16 (by decide) ?_
      exact W.aret (v := .null) hx hb hr (Or.inl ⟨_, rfl⟩) (Or.inl rfl) (fun t ht hW => ⟨rfl, ht⟩) (fun q h => by cases h) dX7_postAt_20

set_option maxHeartbeats 4000000 in
set_option maxRecDepth 100000 in
theorem c_X7_wayAt (l : Launch) (dC : Nat → ClassId) (dI : Nat → Nat → Nat) (h0 : Nat) (q : Nat → Nat) (cy : Nat → ClassId) (a1 : Int32) : Met l yX7_wayAt wsX7_wayAt ({ frames := 0, cells := 0, slots := 0, locals := 0 }) (va_Pc [.ref h0, .int a1] (pu_P (dC, dI) vwCl (fx_T cy) (fx_W h0 q cy))) (pu_Q (.null)) 0 0 pu_F := by
  refine Met.ofW (cc := cX7_wayAt) (maxL := 2) (ret := (some (.object "FurPosts$Way"))) (by decide) rfl ?_
  intro p e s m args below meth c s₁ B hml hv
  obtain ⟨rfl, hP, hK⟩ := hv
  have hx := B.exec
  have hb := B.bytes
  have hr := B.returns
  have hts := atoms_spec (ws := wsX7_wayAt) B.pre
  have hown : s.vm.findClass RX7 = some m.cls := findClass_of_methodNamed B.named
  have hlocks := B.notSynchronized
  have hinX7 : ∀ w ∈ u_ws RX7 TX7 14, w ∈ wsX7_wayAt := by decide +kernel
  have hl := lv_entry ([.ref h0, .int a1]) (n := 2) (Nat.le_of_ble_eq_true rfl)
  rw [lg_entry_eq]
  generalize (lg_sl ([.ref h0, .int a1]) ++ List.replicate (2 - (lg_sl ([.ref h0, .int a1])).length) Slot.unset).toArray = ls at hl ⊢
  have hl : lv_has ls 2 [(0, .ref h0), (1, .int a1)] := hl
  refine lv_iload_n hx hb dX7_wayAt_0 rfl (lv_at hl 1 rfl) ?_
  refine lv_if_lt (tgt := 19) hx hb dX7_wayAt_1 (by decide) (fun h_1 => ?_) (fun h_1 => ?_)
  · skip
    refine lv_null hx hb dX7_wayAt_19 ?_
    exact W.aret (v := .null) hx hb hr (Or.inl ⟨_, rfl⟩) (Or.inl rfl) (fun t ht hW => ⟨rfl, ht⟩) (fun q h => by cases h) dX7_wayAt_20
  · skip
    refine lv_iload_n hx hb dX7_wayAt_4 rfl (lv_at hl 1 rfl) ?_
    refine lv_bipush (v := 12) hx hb dX7_wayAt_5 (by decide) ?_
    refine lv_icmp_ge (tgt := 19) hx hb dX7_wayAt_7 (by decide) (fun h_2 => ?_) (fun h_2 => ?_)
    · skip
      refine lv_null hx hb dX7_wayAt_19 ?_
      exact W.aret (v := .null) hx hb hr (Or.inl ⟨_, rfl⟩) (Or.inl rfl) (fun t ht hW => ⟨rfl, ht⟩) (fun q h => by cases h) dX7_wayAt_20
    · skip
      refine lv_aload_n hx hb dX7_wayAt_10 rfl (lv_at hl 0 rfl) ?_
      refine va_get (D := (dC, dI)) (ci := 6) (v := .ref (q 2)) (C := RX7) (T := TX7) (N := 14) hx hb hts hinX7 hown hK hP 0 rfl rfl 1 (by decide) (hts (.fieldLink RX7 17 "FurPosts" "ways" "[LFurPosts$Way;") (by decide +kernel)) (fun _ h9 => h9) rfl dX7_wayAt_11 ?_
      refine lv_iload_n hx hb dX7_wayAt_14 rfl (lv_at hl 1 rfl) ?_
      refine va_aldq hx hb hK hP 2 1 rfl rfl (i := a1) (vb_in h_1 h_2 rfl) dX7_wayAt_15 ?_
      refine lv_goto (tgt := 20) hx hb dX7_wayAt_16 (by decide) ?_
      exact W.aret (v := .null) hx hb hr (Or.inl ⟨_, rfl⟩) (Or.inl rfl) (fun t ht hW => ⟨rfl, ht⟩) (fun q h => by cases h) dX7_wayAt_20

set_option maxHeartbeats 4000000 in
set_option maxRecDepth 100000 in
theorem c_X7_canoeAt (l : Launch) (dC : Nat → ClassId) (dI : Nat → Nat → Nat) (h0 : Nat) (q : Nat → Nat) (cy : Nat → ClassId) (a1 : Int32) : Met l yX7_canoeAt wsX7_canoeAt ({ frames := 0, cells := 0, slots := 0, locals := 0 }) (va_Pc [.ref h0, .int a1] (pu_P (dC, dI) vwCl (fx_T cy) (fx_W h0 q cy))) (pu_Q (.null)) 0 0 pu_F := by
  refine Met.ofW (cc := cX7_canoeAt) (maxL := 2) (ret := (some (.object "FurPosts$Canoe"))) (by decide) rfl ?_
  intro p e s m args below meth c s₁ B hml hv
  obtain ⟨rfl, hP, hK⟩ := hv
  have hx := B.exec
  have hb := B.bytes
  have hr := B.returns
  have hts := atoms_spec (ws := wsX7_canoeAt) B.pre
  have hown : s.vm.findClass RX7 = some m.cls := findClass_of_methodNamed B.named
  have hlocks := B.notSynchronized
  have hinX7 : ∀ w ∈ u_ws RX7 TX7 14, w ∈ wsX7_canoeAt := by decide +kernel
  have hl := lv_entry ([.ref h0, .int a1]) (n := 2) (Nat.le_of_ble_eq_true rfl)
  rw [lg_entry_eq]
  generalize (lg_sl ([.ref h0, .int a1]) ++ List.replicate (2 - (lg_sl ([.ref h0, .int a1])).length) Slot.unset).toArray = ls at hl ⊢
  have hl : lv_has ls 2 [(0, .ref h0), (1, .int a1)] := hl
  refine lv_iload_n hx hb dX7_canoeAt_0 rfl (lv_at hl 1 rfl) ?_
  refine lv_if_lt (tgt := 19) hx hb dX7_canoeAt_1 (by decide) (fun h_1 => ?_) (fun h_1 => ?_)
  · skip
    refine lv_null hx hb dX7_canoeAt_19 ?_
    exact W.aret (v := .null) hx hb hr (Or.inl ⟨_, rfl⟩) (Or.inl rfl) (fun t ht hW => ⟨rfl, ht⟩) (fun q h => by cases h) dX7_canoeAt_20
  · skip
    refine lv_iload_n hx hb dX7_canoeAt_4 rfl (lv_at hl 1 rfl) ?_
    refine lv_bipush (v := 120) hx hb dX7_canoeAt_5 (by decide) ?_
    refine lv_icmp_ge (tgt := 19) hx hb dX7_canoeAt_7 (by decide) (fun h_2 => ?_) (fun h_2 => ?_)
    · skip
      refine lv_null hx hb dX7_canoeAt_19 ?_
      exact W.aret (v := .null) hx hb hr (Or.inl ⟨_, rfl⟩) (Or.inl rfl) (fun t ht hW => ⟨rfl, ht⟩) (fun q h => by cases h) dX7_canoeAt_20
    · skip
      refine lv_aload_n hx hb dX7_canoeAt_10 rfl (lv_at hl 0 rfl) ?_
      refine va_get (D := (dC, dI)) (ci := 6) (v := .ref (q 3)) (C := RX7) (T := TX7) (N := 14) hx hb hts hinX7 hown hK hP 0 rfl rfl 2 (by decide) (hts (.fieldLink RX7 23 "FurPosts" "canoes" "[LFurPosts$Canoe;") (by decide +kernel)) (fun _ h9 => h9) rfl dX7_canoeAt_11 ?_
      refine lv_iload_n hx hb dX7_canoeAt_14 rfl (lv_at hl 1 rfl) ?_
      refine va_aldq hx hb hK hP 3 2 rfl rfl (i := a1) (vb_in h_1 h_2 rfl) dX7_canoeAt_15 ?_
      refine lv_goto (tgt := 20) hx hb dX7_canoeAt_16 (by decide) ?_
      exact W.aret (v := .null) hx hb hr (Or.inl ⟨_, rfl⟩) (Or.inl rfl) (fun t ht hW => ⟨rfl, ht⟩) (fun q h => by cases h) dX7_canoeAt_20

set_option maxHeartbeats 4000000 in
set_option maxRecDepth 100000 in
theorem c_X7_areTwoPosts (l : Launch) (dC : Nat → ClassId) (dI : Nat → Nat → Nat) (h0 : Nat) (q : Nat → Nat) (cy : Nat → ClassId) (a1 a2 : Int32) : Met l yX7_areTwoPosts wsX7_areTwoPosts ({ frames := 1, cells := 0, slots := 0, locals := 21 }) (va_Pc [.ref h0, .int a1, .int a2] (pu_P (dC, dI) vwCl (fx_T cy) (fx_W h0 q cy))) (pu_Q (.int 0)) 0 0 pu_F := by
  refine Met.ofW (cc := cX7_areTwoPosts) (maxL := 3) (ret := (some .boolean)) (by decide) rfl ?_
  intro p e s m args below meth c s₁ B hml hv
  obtain ⟨rfl, hP, hK⟩ := hv
  have hx := B.exec
  have hb := B.bytes
  have hr := B.returns
  have hts := atoms_spec (ws := wsX7_areTwoPosts) B.pre
  have hown : s.vm.findClass RX7 = some m.cls := findClass_of_methodNamed B.named
  have hlocks := B.notSynchronized
  have hl := lv_entry ([.ref h0, .int a1, .int a2]) (n := 3) (Nat.le_of_ble_eq_true rfl)
  rw [lg_entry_eq]
  generalize (lg_sl ([.ref h0, .int a1, .int a2]) ++ List.replicate (3 - (lg_sl ([.ref h0, .int a1, .int a2])).length) Slot.unset).toArray = ls at hl ⊢
  have hl : lv_has ls 3 [(0, .ref h0), (1, .int a1), (2, .int a2)] := hl
  refine lv_iload_n hx hb dX7_areTwoPosts_0 rfl (lv_at hl 1 rfl) ?_
  refine lv_iload_n hx hb dX7_areTwoPosts_1 rfl (lv_at hl 2 rfl) ?_
  refine lv_icmp_eq (tgt := 25) hx hb dX7_areTwoPosts_2 (by decide) (fun h_1 => ?_) (fun h_1 => ?_)
  · skip
    refine lv_iconst (v := 0) hx hb dX7_areTwoPosts_25 (by decide) ?_
    exact W.zret (v := 0) hx hb hr rfl (fun t ht hW => ⟨rfl, ht⟩) (fun q h => by cases h) dX7_areTwoPosts_26
  · skip
    refine lv_aload_n hx hb dX7_areTwoPosts_5 rfl (lv_at hl 0 rfl) ?_
    refine lv_iload_n hx hb dX7_areTwoPosts_6 rfl (lv_at hl 1 rfl) ?_
    refine pu_call (va_runV (As := [.int a1]) (rest := []) ⟨hx, hb, hml, hown, hts⟩ (c_X7_postAt l dC dI h0 q cy a1) (cwV 1 hts gX7_areTwoPosts_X7_postAt rfl rfl rfl (by decide +kernel) ⟨Nat.le_of_ble_eq_true rfl, Nat.le_of_ble_eq_true rfl⟩) (pu_pre hP hK (ci := 6) (q0 := 0) rfl rfl) rfl rfl hl.1 rfl (lv_room (Nat.le_of_ble_eq_true rfl)) dX7_areTwoPosts_7 ⟨Nat.zero_le _, Nat.zero_le _⟩) ?_
    refine lv_ifnullN (tgt := 25) hx hb dX7_areTwoPosts_10 (by decide) ?_
    refine lv_iconst (v := 0) hx hb dX7_areTwoPosts_25 (by decide) ?_
    exact W.zret (v := 0) hx hb hr rfl (fun t ht hW => ⟨rfl, ht⟩) (fun q h => by cases h) dX7_areTwoPosts_26

set_option maxHeartbeats 4000000 in
set_option maxRecDepth 100000 in
theorem c_X7_canWrite (l : Launch) (dC : Nat → ClassId) (dI : Nat → Nat → Nat) (h0 : Nat) (q : Nat → Nat) (cy : Nat → ClassId) (a1 a2 : Int32) : Met l yX7_canWrite wsX7_canWrite ({ frames := 2, cells := 0, slots := 0, locals := 43 }) (va_Pc [.ref h0, .int a1, .int a2] (pu_P (dC, dI) vwCl (fx_T cy) (fx_W h0 q cy))) (pu_Q (.int 0)) 0 0 pu_F := by
  refine Met.ofW (cc := cX7_canWrite) (maxL := 3) (ret := (some .boolean)) (by decide) rfl ?_
  intro p e s m args below meth c s₁ B hml hv
  obtain ⟨rfl, hP, hK⟩ := hv
  have hx := B.exec
  have hb := B.bytes
  have hr := B.returns
  have hts := atoms_spec (ws := wsX7_canWrite) B.pre
  have hown : s.vm.findClass RX7 = some m.cls := findClass_of_methodNamed B.named
  have hlocks := B.notSynchronized
  have hl := lv_entry ([.ref h0, .int a1, .int a2]) (n := 3) (Nat.le_of_ble_eq_true rfl)
  rw [lg_entry_eq]
  generalize (lg_sl ([.ref h0, .int a1, .int a2]) ++ List.replicate (3 - (lg_sl ([.ref h0, .int a1, .int a2])).length) Slot.unset).toArray = ls at hl ⊢
  have hl : lv_has ls 3 [(0, .ref h0), (1, .int a1), (2, .int a2)] := hl
  refine lv_aload_n hx hb dX7_canWrite_0 rfl (lv_at hl 0 rfl) ?_
  refine lv_iload_n hx hb dX7_canWrite_1 rfl (lv_at hl 1 rfl) ?_
  refine lv_iload_n hx hb dX7_canWrite_2 rfl (lv_at hl 2 rfl) ?_
  refine pu_call (va_runV (As := [.int a1, .int a2]) (rest := []) ⟨hx, hb, hml, hown, hts⟩ (c_X7_areTwoPosts l dC dI h0 q cy a1 a2) (cwV 2 hts gX7_canWrite_X7_areTwoPosts rfl rfl rfl (by decide +kernel) ⟨Nat.le_of_ble_eq_true rfl, Nat.le_of_ble_eq_true rfl⟩) (pu_pre hP hK (ci := 6) (q0 := 0) rfl rfl) rfl rfl hl.1 rfl (lv_room (Nat.le_of_ble_eq_true rfl)) dX7_canWrite_3 ⟨Nat.zero_le _, Nat.zero_le _⟩) ?_
  refine lv_if_eq (tgt := 23) hx hb dX7_canWrite_6 (by decide) (fun h_1 => ?_) (fun h_1 => absurd (by decide) h_1)
  refine lv_iconst (v := 0) hx hb dX7_canWrite_23 (by decide) ?_
  exact W.zret (v := 0) hx hb hr rfl (fun t ht hW => ⟨rfl, ht⟩) (fun q h => by cases h) dX7_canWrite_24

set_option maxHeartbeats 4000000 in
set_option maxRecDepth 100000 in
theorem c_X8_isPost (l : Launch) (dC : Nat → ClassId) (dI : Nat → Nat → Nat) (h0 : Nat) (q : Nat → Nat) (cI : ClassId) (a1 : Int32) : Met l yX8_isPost wsX8_isPost ({ frames := 1, cells := 0, slots := 0, locals := 22 }) (va_Pc [.ref h0, .int a1] (pu_P (dC, dI) vwCl (fm_T cI) (fm_W h0 q cI))) (pu_Q (.int 0)) 0 0 pu_F := by
  refine Met.ofW (cc := cX8_isPost) (maxL := 2) (ret := (some .boolean)) (by decide) rfl ?_
  intro p e s m args below meth c s₁ B hml hv
  obtain ⟨rfl, hP, hK⟩ := hv
  have hx := B.exec
  have hb := B.bytes
  have hr := B.returns
  have hts := atoms_spec (ws := wsX8_isPost) B.pre
  have hown : s.vm.findClass RX8 = some m.cls := findClass_of_methodNamed B.named
  have hlocks := B.notSynchronized
  have hinX8 : ∀ w ∈ u_ws RX8 TX8 37, w ∈ wsX8_isPost := by decide +kernel
  have hl := lv_entry ([.ref h0, .int a1]) (n := 2) (Nat.le_of_ble_eq_true rfl)
  rw [lg_entry_eq]
  generalize (lg_sl ([.ref h0, .int a1]) ++ List.replicate (2 - (lg_sl ([.ref h0, .int a1])).length) Slot.unset).toArray = ls at hl ⊢
  have hl : lv_has ls 2 [(0, .ref h0), (1, .int a1)] := hl
  refine lv_iload_n hx hb dX8_isPost_0 rfl (lv_at hl 1 rfl) ?_
  refine lv_iconst (v := 0) hx hb dX8_isPost_1 (by decide) ?_
  refine lv_aload_n hx hb dX8_isPost_2 rfl (lv_at hl 0 rfl) ?_
  refine va_get (D := (dC, dI)) (ci := 7) (v := .int 0) (C := RX8) (T := TX8) (N := 37) hx hb hts hinX8 hown hK hP 0 rfl rfl 1 (by decide) (hts (.fieldLink RX8 104 "FurPostsModel" "posts" "I") (by decide +kernel)) (fun _ h9 => h9) rfl dX8_isPost_3 ?_
  refine lv_iconst (v := 1) hx hb dX8_isPost_6 (by decide) ?_
  refine lv_isub hx hb dX8_isPost_7 ?_
  rw [show (0 - 1 : Int32) = ((-1) : Int32) from by decide]
  refine pu_call (va_runS (As := [.int a1, .int 0, .int (-1)]) (rest := []) ⟨hx, hb, hml, hown, hts⟩ (c_X8_in l a1 0 (-1)) (va_cwS 3 hts gX8_isPost_X8_in rfl rfl rfl (by decide +kernel) ⟨Nat.le_of_ble_eq_true rfl, Nat.le_of_ble_eq_true rfl⟩) pu_preS rfl rfl hl.1 rfl (lv_room (Nat.le_of_ble_eq_true rfl)) dX8_isPost_8 ⟨Nat.zero_le _, Nat.zero_le _⟩) ?_
  exact W.zret (v := (sp_in a1 0 (-1))) hx hb hr (sp_narrow _ _ _) (fun t ht hW => ⟨congrArg (fun z => Outcome.returned (some (Value.int z))) (sp_none _), ht⟩) (fun q h => by cases h) dX8_isPost_11

set_option maxHeartbeats 4000000 in
set_option maxRecDepth 100000 in
theorem c_X8_isCanoe (l : Launch) (dC : Nat → ClassId) (dI : Nat → Nat → Nat) (h0 : Nat) (q : Nat → Nat) (cI : ClassId) (a1 : Int32) : Met l yX8_isCanoe wsX8_isCanoe ({ frames := 1, cells := 0, slots := 0, locals := 22 }) (va_Pc [.ref h0, .int a1] (pu_P (dC, dI) vwCl (fm_T cI) (fm_W h0 q cI))) (pu_Q (.int 0)) 0 0 pu_F := by
  refine Met.ofW (cc := cX8_isCanoe) (maxL := 2) (ret := (some .boolean)) (by decide) rfl ?_
  intro p e s m args below meth c s₁ B hml hv
  obtain ⟨rfl, hP, hK⟩ := hv
  have hx := B.exec
  have hb := B.bytes
  have hr := B.returns
  have hts := atoms_spec (ws := wsX8_isCanoe) B.pre
  have hown : s.vm.findClass RX8 = some m.cls := findClass_of_methodNamed B.named
  have hlocks := B.notSynchronized
  have hinX8 : ∀ w ∈ u_ws RX8 TX8 37, w ∈ wsX8_isCanoe := by decide +kernel
  have hl := lv_entry ([.ref h0, .int a1]) (n := 2) (Nat.le_of_ble_eq_true rfl)
  rw [lg_entry_eq]
  generalize (lg_sl ([.ref h0, .int a1]) ++ List.replicate (2 - (lg_sl ([.ref h0, .int a1])).length) Slot.unset).toArray = ls at hl ⊢
  have hl : lv_has ls 2 [(0, .ref h0), (1, .int a1)] := hl
  refine lv_iload_n hx hb dX8_isCanoe_0 rfl (lv_at hl 1 rfl) ?_
  refine lv_iconst (v := 0) hx hb dX8_isCanoe_1 (by decide) ?_
  refine lv_aload_n hx hb dX8_isCanoe_2 rfl (lv_at hl 0 rfl) ?_
  refine va_get (D := (dC, dI)) (ci := 7) (v := .int 0) (C := RX8) (T := TX8) (N := 37) hx hb hts hinX8 hown hK hP 0 rfl rfl 13 (by decide) (hts (.fieldLink RX8 112 "FurPostsModel" "canoes" "I") (by decide +kernel)) (fun _ h9 => h9) rfl dX8_isCanoe_3 ?_
  refine lv_iconst (v := 1) hx hb dX8_isCanoe_6 (by decide) ?_
  refine lv_isub hx hb dX8_isCanoe_7 ?_
  rw [show (0 - 1 : Int32) = ((-1) : Int32) from by decide]
  refine pu_call (va_runS (As := [.int a1, .int 0, .int (-1)]) (rest := []) ⟨hx, hb, hml, hown, hts⟩ (c_X8_in l a1 0 (-1)) (va_cwS 3 hts gX8_isCanoe_X8_in rfl rfl rfl (by decide +kernel) ⟨Nat.le_of_ble_eq_true rfl, Nat.le_of_ble_eq_true rfl⟩) pu_preS rfl rfl hl.1 rfl (lv_room (Nat.le_of_ble_eq_true rfl)) dX8_isCanoe_8 ⟨Nat.zero_le _, Nat.zero_le _⟩) ?_
  exact W.zret (v := (sp_in a1 0 (-1))) hx hb hr (sp_narrow _ _ _) (fun t ht hW => ⟨congrArg (fun z => Outcome.returned (some (Value.int z))) (sp_none _), ht⟩) (fun q h => by cases h) dX8_isCanoe_11

set_option maxHeartbeats 4000000 in
set_option maxRecDepth 100000 in
theorem c_X8_isAway (l : Launch) (dC : Nat → ClassId) (dI : Nat → Nat → Nat) (h0 : Nat) (q : Nat → Nat) (cI : ClassId) (a1 : Int32) : Met l yX8_isAway wsX8_isAway ({ frames := 2, cells := 0, slots := 0, locals := 43 }) (va_Pc [.ref h0, .int a1] (pu_P (dC, dI) vwCl (fm_T cI) (fm_W h0 q cI))) (pu_Q (.int 0)) 0 0 pu_F := by
  refine Met.ofW (cc := cX8_isAway) (maxL := 2) (ret := (some .boolean)) (by decide) rfl ?_
  intro p e s m args below meth c s₁ B hml hv
  obtain ⟨rfl, hP, hK⟩ := hv
  have hx := B.exec
  have hb := B.bytes
  have hr := B.returns
  have hts := atoms_spec (ws := wsX8_isAway) B.pre
  have hown : s.vm.findClass RX8 = some m.cls := findClass_of_methodNamed B.named
  have hlocks := B.notSynchronized
  have hl := lv_entry ([.ref h0, .int a1]) (n := 2) (Nat.le_of_ble_eq_true rfl)
  rw [lg_entry_eq]
  generalize (lg_sl ([.ref h0, .int a1]) ++ List.replicate (2 - (lg_sl ([.ref h0, .int a1])).length) Slot.unset).toArray = ls at hl ⊢
  have hl : lv_has ls 2 [(0, .ref h0), (1, .int a1)] := hl
  refine lv_aload_n hx hb dX8_isAway_0 rfl (lv_at hl 0 rfl) ?_
  refine lv_iload_n hx hb dX8_isAway_1 rfl (lv_at hl 1 rfl) ?_
  refine pu_call (va_runV (As := [.int a1]) (rest := []) ⟨hx, hb, hml, hown, hts⟩ (c_X8_isCanoe l dC dI h0 q cI a1) (cwV 1 hts gX8_isAway_X8_isCanoe rfl rfl rfl (by decide +kernel) ⟨Nat.le_of_ble_eq_true rfl, Nat.le_of_ble_eq_true rfl⟩) (pu_pre hP hK (ci := 7) (q0 := 0) rfl rfl) rfl rfl hl.1 rfl (lv_room (Nat.le_of_ble_eq_true rfl)) dX8_isAway_2 ⟨Nat.zero_le _, Nat.zero_le _⟩) ?_
  refine lv_if_eq (tgt := 21) hx hb dX8_isAway_5 (by decide) (fun h_1 => ?_) (fun h_1 => absurd (by decide) h_1)
  refine lv_iconst (v := 0) hx hb dX8_isAway_21 (by decide) ?_
  exact W.zret (v := 0) hx hb hr rfl (fun t ht hW => ⟨rfl, ht⟩) (fun q h => by cases h) dX8_isAway_22

set_option maxHeartbeats 4000000 in
set_option maxRecDepth 100000 in
theorem c_X8_isDeal (l : Launch) (dC : Nat → ClassId) (dI : Nat → Nat → Nat) (h0 : Nat) (q : Nat → Nat) (cI : ClassId) (a1 a2 a3 a4 : Int32) : Met l yX8_isDeal wsX8_isDeal ({ frames := 2, cells := 0, slots := 0, locals := 43 }) (va_Pc [.ref h0, .int a1, .int a2, .int a3, .int a4] (pu_P (dC, dI) vwCl (fm_T cI) (fm_W h0 q cI))) (pu_Q (.int 0)) 0 0 pu_F := by
  refine Met.ofW (cc := cX8_isDeal) (maxL := 5) (ret := (some .boolean)) (by decide) rfl ?_
  intro p e s m args below meth c s₁ B hml hv
  obtain ⟨rfl, hP, hK⟩ := hv
  have hx := B.exec
  have hb := B.bytes
  have hr := B.returns
  have hts := atoms_spec (ws := wsX8_isDeal) B.pre
  have hown : s.vm.findClass RX8 = some m.cls := findClass_of_methodNamed B.named
  have hlocks := B.notSynchronized
  have hl := lv_entry ([.ref h0, .int a1, .int a2, .int a3, .int a4]) (n := 5) (Nat.le_of_ble_eq_true rfl)
  rw [lg_entry_eq]
  generalize (lg_sl ([.ref h0, .int a1, .int a2, .int a3, .int a4]) ++ List.replicate (5 - (lg_sl ([.ref h0, .int a1, .int a2, .int a3, .int a4])).length) Slot.unset).toArray = ls at hl ⊢
  have hl : lv_has ls 5 [(0, .ref h0), (1, .int a1), (2, .int a2), (3, .int a3), (4, .int a4)] := hl
  refine lv_aload_n hx hb dX8_isDeal_0 rfl (lv_at hl 0 rfl) ?_
  refine lv_iload_n hx hb dX8_isDeal_1 rfl (lv_at hl 1 rfl) ?_
  refine pu_call (va_runV (As := [.int a1]) (rest := []) ⟨hx, hb, hml, hown, hts⟩ (c_X8_isPost l dC dI h0 q cI a1) (cwV 1 hts gX8_isDeal_X8_isPost rfl rfl rfl (by decide +kernel) ⟨Nat.le_of_ble_eq_true rfl, Nat.le_of_ble_eq_true rfl⟩) (pu_pre hP hK (ci := 7) (q0 := 0) rfl rfl) rfl rfl hl.1 rfl (lv_room (Nat.le_of_ble_eq_true rfl)) dX8_isDeal_2 ⟨Nat.zero_le _, Nat.zero_le _⟩) ?_
  refine lv_if_eq (tgt := 41) hx hb dX8_isDeal_5 (by decide) (fun h_1 => ?_) (fun h_1 => absurd (by decide) h_1)
  refine lv_iconst (v := 0) hx hb dX8_isDeal_41 (by decide) ?_
  exact W.zret (v := 0) hx hb hr rfl (fun t ht hW => ⟨rfl, ht⟩) (fun q h => by cases h) dX8_isDeal_42

set_option maxHeartbeats 4000000 in
set_option maxRecDepth 100000 in
theorem c_X8_canWrite (l : Launch) (dC : Nat → ClassId) (dI : Nat → Nat → Nat) (h0 : Nat) (q : Nat → Nat) (cI : ClassId) (a1 a2 : Int32) : Met l yX8_canWrite wsX8_canWrite ({ frames := 2, cells := 0, slots := 0, locals := 43 }) (va_Pc [.ref h0, .int a1, .int a2] (pu_P (dC, dI) vwCl (fm_T cI) (fm_W h0 q cI))) (pu_Q (.int 0)) 0 0 pu_F := by
  refine Met.ofW (cc := cX8_canWrite) (maxL := 3) (ret := (some .boolean)) (by decide) rfl ?_
  intro p e s m args below meth c s₁ B hml hv
  obtain ⟨rfl, hP, hK⟩ := hv
  have hx := B.exec
  have hb := B.bytes
  have hr := B.returns
  have hts := atoms_spec (ws := wsX8_canWrite) B.pre
  have hown : s.vm.findClass RX8 = some m.cls := findClass_of_methodNamed B.named
  have hlocks := B.notSynchronized
  have hl := lv_entry ([.ref h0, .int a1, .int a2]) (n := 3) (Nat.le_of_ble_eq_true rfl)
  rw [lg_entry_eq]
  generalize (lg_sl ([.ref h0, .int a1, .int a2]) ++ List.replicate (3 - (lg_sl ([.ref h0, .int a1, .int a2])).length) Slot.unset).toArray = ls at hl ⊢
  have hl : lv_has ls 3 [(0, .ref h0), (1, .int a1), (2, .int a2)] := hl
  refine lv_aload_n hx hb dX8_canWrite_0 rfl (lv_at hl 0 rfl) ?_
  refine lv_iload_n hx hb dX8_canWrite_1 rfl (lv_at hl 1 rfl) ?_
  refine pu_call (va_runV (As := [.int a1]) (rest := []) ⟨hx, hb, hml, hown, hts⟩ (c_X8_isPost l dC dI h0 q cI a1) (cwV 1 hts gX8_canWrite_X8_isPost rfl rfl rfl (by decide +kernel) ⟨Nat.le_of_ble_eq_true rfl, Nat.le_of_ble_eq_true rfl⟩) (pu_pre hP hK (ci := 7) (q0 := 0) rfl rfl) rfl rfl hl.1 rfl (lv_room (Nat.le_of_ble_eq_true rfl)) dX8_canWrite_2 ⟨Nat.zero_le _, Nat.zero_le _⟩) ?_
  refine lv_if_eq (tgt := 35) hx hb dX8_canWrite_5 (by decide) (fun h_1 => ?_) (fun h_1 => absurd (by decide) h_1)
  refine lv_iconst (v := 0) hx hb dX8_canWrite_35 (by decide) ?_
  exact W.zret (v := 0) hx hb hr rfl (fun t ht hW => ⟨rfl, ht⟩) (fun q h => by cases h) dX8_canWrite_36
