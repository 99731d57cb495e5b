set_option maxHeartbeats 8000000 in
set_option maxRecDepth 100000 in
theorem m_X7_store (l : Launch) (dC : Nat → ClassId) (dI : Nat → Nat → Nat) (h0 : Nat) (q : Nat → Nat) (cI : ClassId) (cy : Nat → ClassId) (A : Nat → Prop) (ad : Nat → Nat → Nat) (rl : Nat → Nat × Nat) (L : List Nat) (n : Nat → Nat) (G : Nat → Nat → Int32) (hN : nb_ n) (a1 : Int32) (a2 : Int32) (a3 : Int32) : Met l yX7_store wsX7_store ({ frames := 1, cells := 0, slots := 0, locals := 22 }) (va_Pc [.ref h0, .int a1, .int a2, .int a3] (ct_P (dC, dI) cI cy h0 q A ad rl L n G)) (va_Qi (fun r (u : Nat → Nat → Int32) => (r, u) = sX_store n G a1 a2 a3) (fun u s' => cp_ (dC, dI) cI cy h0 q A ad rl L n u s'.heap) A) 0 0 A := by
  refine Met.ofW (cc := cX7_store) (maxL := 5) (ret := (some .int)) (by decide) rfl ?_
  intro p e s m args below meth c s₁ B hml hv
  obtain ⟨rfl, hC, hK, hW0⟩ := hv
  have hx := B.exec
  have hb := B.bytes
  have hr := B.returns
  have hts := atoms_spec (ws := wsX7_store) B.pre
  have hown : s.vm.findClass RX7 = some m.cls := findClass_of_methodNamed B.named
  have hlocks := B.notSynchronized
  have hinX4 : ∀ w ∈ u_ws RX4 TX4 4, w ∈ wsX7_store := by decide +kernel
  have hinX7 : ∀ w ∈ u_ws RX7 TX7 14, w ∈ wsX7_store := by decide +kernel
  have hS : va_S A s.heap s.heap [] := va_S.rf
  have hl := lv_entry ([.ref h0, .int a1, .int a2, .int a3]) (n := 5) (Nat.le_of_ble_eq_true rfl)
  rw [lg_entry_eq]
  generalize (lg_sl ([.ref h0, .int a1, .int a2, .int a3]) ++ List.replicate (5 - (lg_sl ([.ref h0, .int a1, .int a2, .int a3])).length) Slot.unset).toArray = ls at hl ⊢
  have hl : lv_has ls 5 [(0, .ref h0), (1, .int a1), (2, .int a2), (3, .int a3)] := hl
  obtain ⟨H, hH, hC, hS⟩ : ∃ H, H = s.heap ∧ cp_ (dC, dI) cI cy h0 q A ad rl L n G H ∧ va_S A s.heap H [] := ⟨_, rfl, hC, hS⟩
  rw [← hH]
  generalize ([] : List Loc) = locs at hS ⊢
  refine lv_aload_n hx hb dX7_store_0 rfl (lv_at hl 0 rfl) ?_
  refine lv_iload_n hx hb dX7_store_1 rfl (lv_at hl 1 rfl) ?_
  refine pu_call (va_runV (As := [.int a1]) (rest := []) ⟨hx, hb, hml, hown, hts⟩ (k_X7_postAt l dC dI h0 q cI cy A ad rl L n G hN a1) (cwV 1 hts gX7_store_X7_postAt rfl rfl rfl (by decide +kernel) ⟨Nat.le_of_ble_eq_true rfl, Nat.le_of_ble_eq_true rfl⟩) (ct_pre hC hK hW0) rfl rfl hl.1 rfl (lv_room (Nat.le_of_ble_eq_true rfl)) dX7_store_2 ⟨Nat.le_of_ble_eq_true rfl, Nat.le_of_ble_eq_true rfl⟩) ?_
  by_cases h_1 : (sp_in a1 0 ((nI (n 1)) - 1)) = 0
  · rw [if_pos h_1]
    refine lv_astoreN (lv' := [(4, .null), (0, .ref h0), (1, .int a1), (2, .int a2), (3, .int a3)]) hx hb dX7_store_5 hl (by decide) rfl (fun ls hl => ?_)
    refine lv_aloadN hx hb dX7_store_7 (lv_at hl 0 rfl) ?_
    refine lv_ifnullN (tgt := 44) hx hb dX7_store_9 (by decide) ?_
    refine lv_iconst (v := (-1)) hx hb dX7_store_44 (by decide) ?_
    have hq2 : sX_store n G a1 a2 a3 = ((-1), G) := by exact (if_pos h_1)
    exact W.iret (v := (-1)) hx hb hr (fun t9 ht hW => ⟨⟨(-1), G, rfl, hq2.symm, by show cp_ (dC, dI) cI cy h0 q A ad rl L n G t9.heap; rw [ht]; exact hC⟩, hS.F ht⟩) hS.2.2 dX7_store_45
  · rw [if_neg h_1]
    have hv1 := sp_live h_1 (by omega)
    refine lv_astore (lv' := [(4, .ref (ad 1 a1.toNatClampNeg)), (0, .ref h0), (1, .int a1), (2, .int a2), (3, .int a3)]) hx hb dX7_store_5 hl (by decide) rfl (fun ls hl => ?_)
    refine lv_aload hx hb dX7_store_7 (lv_at hl 0 rfl) ?_
    refine lv_ifnull hx hb dX7_store_9 ?_
    refine lv_iload_n hx hb dX7_store_12 rfl (lv_at hl 3 rfl) ?_
    refine pu_call (va_runS (As := [.int a2]) (rest := []) ⟨hx, hb, hml, hown, hts⟩ (c_X7_isWare l a2) (va_cwS 1 hts gX7_store_X7_isWare rfl rfl rfl (by decide +kernel) ⟨Nat.le_of_ble_eq_true rfl, Nat.le_of_ble_eq_true rfl⟩) pu_preS rfl rfl hl.1 rfl (lv_room (Nat.le_of_ble_eq_true rfl)) dX7_store_13 ⟨Nat.le_of_ble_eq_true rfl, Nat.le_of_ble_eq_true rfl⟩) ?_
    refine lv_if_eq (tgt := 44) hx hb dX7_store_16 (by decide) (fun h_3 => ?_) (fun h_3 => ?_)
    · skip
      refine lv_iconst (v := (-1)) hx hb dX7_store_44 (by decide) ?_
      have hq4 : sX_store n G a1 a2 a3 = ((-1), G) := by exact (if_neg h_1).trans (if_pos h_3)
      exact W.iret (v := (-1)) hx hb hr (fun t9 ht hW => ⟨⟨(-1), G, rfl, hq4.symm, by show cp_ (dC, dI) cI cy h0 q A ad rl L n G t9.heap; rw [ht]; exact hC⟩, hS.F ht⟩) hS.2.2 dX7_store_45
    · skip
      refine lv_iload_n hx hb dX7_store_19 rfl (lv_at hl 4 rfl) ?_
      refine lv_iconst (v := 1) hx hb dX7_store_20 (by decide) ?_
      refine lv_sipush (v := 10000) hx hb dX7_store_21 (by decide) ?_
      refine pu_call (va_runS (As := [.int a3, .int 1, .int 10000]) (rest := []) ⟨hx, hb, hml, hown, hts⟩ (c_X7_isWithin l a3 1 10000) (va_cwS 3 hts gX7_store_X7_isWithin rfl rfl rfl (by decide +kernel) ⟨Nat.le_of_ble_eq_true rfl, Nat.le_of_ble_eq_true rfl⟩) pu_preS rfl rfl hl.1 rfl (lv_room (Nat.le_of_ble_eq_true rfl)) dX7_store_24 ⟨Nat.le_of_ble_eq_true rfl, Nat.le_of_ble_eq_true rfl⟩) ?_
      refine lv_if_eq (tgt := 44) hx hb dX7_store_27 (by decide) (fun h_5 => ?_) (fun h_5 => ?_)
      · skip
        refine lv_iconst (v := (-1)) hx hb dX7_store_44 (by decide) ?_
        have hq6 : sX_store n G a1 a2 a3 = ((-1), G) := by exact (if_neg h_1).trans ((if_neg h_3).trans (if_pos h_5))
        exact W.iret (v := (-1)) hx hb hr (fun t9 ht hW => ⟨⟨(-1), G, rfl, hq6.symm, by show cp_ (dC, dI) cI cy h0 q A ad rl L n G t9.heap; rw [ht]; exact hC⟩, hS.F ht⟩) hS.2.2 dX7_store_45
      · skip
        refine lv_aload hx hb dX7_store_30 (lv_at hl 0 rfl) ?_
        refine co_get 1 a1.toNatClampNeg (C := RX4) (T := TX4) (N := 4) (ci := 3) (v := .ref (ad 5 a1.toNatClampNeg)) hx hb hts hinX4 hown hK hC hv1 (fun _ h9 => h9) rfl 0 (by decide) (hts (.fieldLink RX7 92 "FurPosts$Post" "stock" "[I") (by decide +kernel)) (fun _ h9 => h9) rfl dX7_store_32 ?_
        refine lv_iload_n hx hb dX7_store_35 rfl (lv_at hl 3 rfl) ?_
        refine ci_ald 5 a1.toNatClampNeg hx hb hK hC hv1 (by decide) (w := a2) (sp_vp h_3 rfl) dX7_store_36 ?_
        refine lv_topi (fun v7 (e7 : v7 = G 2 (6 * a1.toNatClampNeg + a2.toNatClampNeg)) => ?_)
        refine lv_iload_n hx hb dX7_store_37 rfl (lv_at hl 4 rfl) ?_
        refine lv_iadd hx hb dX7_store_38 ?_
        refine lv_ldc (v := 100000) hx hb hown (hts (.constant RX7 95 (100000)) (by decide +kernel)) dX7_store_39 ?_
        refine lv_icmp_le (tgt := 46) hx hb dX7_store_41 (by decide) (fun h_8 => ?_) (fun h_8 => ?_)
        · skip
          refine lv_aload hx hb dX7_store_46 (lv_at hl 0 rfl) ?_
          refine co_get 1 a1.toNatClampNeg (C := RX4) (T := TX4) (N := 4) (ci := 3) (v := .ref (ad 5 a1.toNatClampNeg)) hx hb hts hinX4 hown hK hC hv1 (fun _ h9 => h9) rfl 0 (by decide) (hts (.fieldLink RX7 92 "FurPosts$Post" "stock" "[I") (by decide +kernel)) (fun _ h9 => h9) rfl dX7_store_48 ?_
          refine lv_iload_n hx hb dX7_store_51 rfl (lv_at hl 3 rfl) ?_
          refine lv_dup2_11 hx hb dX7_store_52 rfl rfl ?_
          refine ci_ald 5 a1.toNatClampNeg hx hb hK hC hv1 (by decide) (w := a2) (sp_vp h_3 rfl) dX7_store_53 ?_
          refine lv_topi (fun v9 (e9 : v9 = G 2 (6 * a1.toNatClampNeg + a2.toNatClampNeg)) => ?_)
          refine lv_iload_n hx hb dX7_store_54 rfl (lv_at hl 4 rfl) ?_
          refine lv_iadd hx hb dX7_store_55 ?_
          refine ci_ast 5 a1.toNatClampNeg hx hb hK hC hS hv1 (by decide) (w := a2) (x := (v9 + a3)) (sp_vp h_3 rfl) dX7_store_56 (fun H locs hC hS => ?_)
          obtain ⟨G10, e10, hC⟩ : ∃ G10 : Nat → Nat → Int32, G10 = up2 G 2 (6 * a1.toNatClampNeg + a2.toNatClampNeg) (v9 + a3) ∧ cp_ (dC, dI) cI cy h0 q A ad rl L n G10 H := ⟨_, rfl, hC⟩
          refine lv_aload_n hx hb dX7_store_57 rfl (lv_at hl 1 rfl) ?_
          refine cx_get hx hb hts hinX7 hown hK hC 6 (by decide) (v := .ref (q 7)) rfl (hts (.fieldLink RX7 41 "FurPosts" "tallies" "[[I") (by decide +kernel)) dX7_store_58 ?_
          refine lv_iload_n hx hb dX7_store_61 rfl (lv_at hl 3 rfl) ?_
          refine cr_ald27 hx hb hK hC (w := a2) (sp_vp h_3 rfl) dX7_store_62 ?_
          refine lv_iconst (v := 0) hx hb dX7_store_63 (by decide) ?_
          refine lv_dup2_11 hx hb dX7_store_64 rfl rfl ?_
          refine ci_ald 14 a2.toNatClampNeg hx hb hK hC (vp_lt (sp_vp h_3 rfl)) (by decide) (w := 0) (by unfold vp_in; decide) dX7_store_65 ?_
          refine lv_topi (fun v11 (e11 : v11 = G10 34 (6 * (0 : Int32).toNatClampNeg + a2.toNatClampNeg)) => ?_)
          rw [(show (0 : Int32).toNatClampNeg = 0 from by decide)] at e11
          refine lv_iload_n hx hb dX7_store_66 rfl (lv_at hl 4 rfl) ?_
          refine lv_iadd hx hb dX7_store_67 ?_
          refine ci_ast 14 a2.toNatClampNeg hx hb hK hC hS (vp_lt (sp_vp h_3 rfl)) (by decide) (w := 0) (x := (v11 + a3)) (by unfold vp_in; decide) dX7_store_68 (fun H locs hC hS => ?_)
          obtain ⟨G12, e12, hC⟩ : ∃ G12 : Nat → Nat → Int32, G12 = up2 G10 34 (6 * (0 : Int32).toNatClampNeg + a2.toNatClampNeg) (v11 + a3) ∧ cp_ (dC, dI) cI cy h0 q A ad rl L n G12 H := ⟨_, rfl, hC⟩
          rw [(show (0 : Int32).toNatClampNeg = 0 from by decide)] at e12
          refine lv_aload hx hb dX7_store_69 (lv_at hl 0 rfl) ?_
          refine co_get 1 a1.toNatClampNeg (C := RX4) (T := TX4) (N := 4) (ci := 3) (v := .ref (ad 5 a1.toNatClampNeg)) hx hb hts hinX4 hown hK hC hv1 (fun _ h9 => h9) rfl 0 (by decide) (hts (.fieldLink RX7 92 "FurPosts$Post" "stock" "[I") (by decide +kernel)) (fun _ h9 => h9) rfl dX7_store_71 ?_
          refine lv_iload_n hx hb dX7_store_74 rfl (lv_at hl 3 rfl) ?_
          refine ci_ald 5 a1.toNatClampNeg hx hb hK hC hv1 (by decide) (w := a2) (sp_vp h_3 rfl) dX7_store_75 ?_
          refine lv_topi (fun v13 (e13 : v13 = G12 2 (6 * a1.toNatClampNeg + a2.toNatClampNeg)) => ?_)
          have hq14 : sX_store n G a1 a2 a3 = (v13, G12) := by subst e13 e12 e11 e10 e9 e7; exact (if_neg h_1).trans ((if_neg h_3).trans ((if_neg h_5).trans (if_pos h_8)))
          exact W.iret (v := v13) hx hb hr (fun t9 ht hW => ⟨⟨v13, G12, rfl, hq14.symm, by show cp_ (dC, dI) cI cy h0 q A ad rl L n G12 t9.heap; rw [ht]; exact hC⟩, hS.F ht⟩) hS.2.2 dX7_store_76
        · skip
          refine lv_iconst (v := (-1)) hx hb dX7_store_44 (by decide) ?_
          have hq15 : sX_store n G a1 a2 a3 = ((-1), G) := by subst e7; exact (if_neg h_1).trans ((if_neg h_3).trans ((if_neg h_5).trans (if_neg h_8)))
          exact W.iret (v := (-1)) hx hb hr (fun t9 ht hW => ⟨⟨(-1), G, rfl, hq15.symm, by show cp_ (dC, dI) cI cy h0 q A ad rl L n G t9.heap; rw [ht]; exact hC⟩, hS.F ht⟩) hS.2.2 dX7_store_45

set_option maxHeartbeats 8000000 in
set_option maxRecDepth 100000 in
theorem m_X7_sell (l : Launch) (dC : Nat → ClassId) (dI : Nat → Nat → Nat) (h0 : Nat) (q : Nat → Nat) (cI : ClassId) (cy : Nat → ClassId) (A : Nat → Prop) (ad : Nat → Nat → Nat) (rl : Nat → Nat × Nat) (L : List Nat) (n : Nat → Nat) (G : Nat → Nat → Int32) (hN : nb_ n) (a1 : Int32) (a2 : Int32) (a3 : Int32) (a4 : Int32) : Met l yX7_sell wsX7_sell ({ frames := 2, cells := 0, slots := 0, locals := 44 }) (va_Pc [.ref h0, .int a1, .int a2, .int a3, .int a4] (ct_P (dC, dI) cI cy h0 q A ad rl L n G)) (va_Qi (fun r (u : Nat → Nat → Int32) => (r, u) = sX_sell n G a1 a2 a3 a4) (fun u s' => cp_ (dC, dI) cI cy h0 q A ad rl L n u s'.heap) A) 0 0 A := by
  refine Met.ofW (cc := cX7_sell) (maxL := 7) (ret := (some .int)) (by decide) rfl ?_
  intro p e s m args below meth c s₁ B hml hv
  obtain ⟨rfl, hC, hK, hW0⟩ := hv
  have hx := B.exec
  have hb := B.bytes
  have hr := B.returns
  have hts := atoms_spec (ws := wsX7_sell) B.pre
  have hown : s.vm.findClass RX7 = some m.cls := findClass_of_methodNamed B.named
  have hlocks := B.notSynchronized
  have hinX4 : ∀ w ∈ u_ws RX4 TX4 4, w ∈ wsX7_sell := by decide +kernel
  have hinX7 : ∀ w ∈ u_ws RX7 TX7 14, w ∈ wsX7_sell := by decide +kernel
  have hS : va_S A s.heap s.heap [] := va_S.rf
  have hl := lv_entry ([.ref h0, .int a1, .int a2, .int a3, .int a4]) (n := 7) (Nat.le_of_ble_eq_true rfl)
  rw [lg_entry_eq]
  generalize (lg_sl ([.ref h0, .int a1, .int a2, .int a3, .int a4]) ++ List.replicate (7 - (lg_sl ([.ref h0, .int a1, .int a2, .int a3, .int a4])).length) Slot.unset).toArray = ls at hl ⊢
  have hl : lv_has ls 7 [(0, .ref h0), (1, .int a1), (2, .int a2), (3, .int a3), (4, .int a4)] := hl
  obtain ⟨H, hH, hC, hS⟩ : ∃ H, H = s.heap ∧ cp_ (dC, dI) cI cy h0 q A ad rl L n G H ∧ va_S A s.heap H [] := ⟨_, rfl, hC, hS⟩
  rw [← hH]
  generalize ([] : List Loc) = locs at hS ⊢
  refine lv_aload_n hx hb dX7_sell_0 rfl (lv_at hl 0 rfl) ?_
  refine lv_iload_n hx hb dX7_sell_1 rfl (lv_at hl 1 rfl) ?_
  refine pu_call (va_runV (As := [.int a1]) (rest := []) ⟨hx, hb, hml, hown, hts⟩ (k_X7_postAt l dC dI h0 q cI cy A ad rl L n G hN a1) (cwV 1 hts gX7_sell_X7_postAt rfl rfl rfl (by decide +kernel) ⟨Nat.le_of_ble_eq_true rfl, Nat.le_of_ble_eq_true rfl⟩) (ct_pre hC hK hW0) rfl rfl hl.1 rfl (lv_room (Nat.le_of_ble_eq_true rfl)) dX7_sell_2 ⟨Nat.le_of_ble_eq_true rfl, Nat.le_of_ble_eq_true rfl⟩) ?_
  by_cases h_1 : (sp_in a1 0 ((nI (n 1)) - 1)) = 0
  · rw [if_pos h_1]
    refine lv_astoreN (lv' := [(5, .null), (0, .ref h0), (1, .int a1), (2, .int a2), (3, .int a3), (4, .int a4)]) hx hb dX7_sell_5 hl (by decide) rfl (fun ls hl => ?_)
    refine lv_aloadN hx hb dX7_sell_7 (lv_at hl 0 rfl) ?_
    refine lv_ifnullN (tgt := 34) hx hb dX7_sell_9 (by decide) ?_
    refine lv_iconst (v := (-1)) hx hb dX7_sell_34 (by decide) ?_
    have hq2 : sX_sell n G a1 a2 a3 a4 = ((-1), G) := by exact (if_pos h_1)
    exact W.iret (v := (-1)) hx hb hr (fun t9 ht hW => ⟨⟨(-1), G, rfl, hq2.symm, by show cp_ (dC, dI) cI cy h0 q A ad rl L n G t9.heap; rw [ht]; exact hC⟩, hS.F ht⟩) hS.2.2 dX7_sell_35
  · rw [if_neg h_1]
    have hv1 := sp_live h_1 (by omega)
    refine lv_astore (lv' := [(5, .ref (ad 1 a1.toNatClampNeg)), (0, .ref h0), (1, .int a1), (2, .int a2), (3, .int a3), (4, .int a4)]) hx hb dX7_sell_5 hl (by decide) rfl (fun ls hl => ?_)
    refine lv_aload hx hb dX7_sell_7 (lv_at hl 0 rfl) ?_
    refine lv_ifnull hx hb dX7_sell_9 ?_
    refine lv_iload_n hx hb dX7_sell_12 rfl (lv_at hl 3 rfl) ?_
    refine lv_iload_n hx hb dX7_sell_13 rfl (lv_at hl 4 rfl) ?_
    refine lv_iload hx hb dX7_sell_14 (lv_at hl 5 rfl) ?_
    refine pu_call (va_runS (As := [.int a2, .int a3, .int a4]) (rest := []) ⟨hx, hb, hml, hown, hts⟩ (k_X7_isTrade l a2 a3 a4) (va_cwS 3 hts gX7_sell_X7_isTrade rfl rfl rfl (by decide +kernel) ⟨Nat.le_of_ble_eq_true rfl, Nat.le_of_ble_eq_true rfl⟩) pu_preS rfl rfl hl.1 rfl (lv_room (Nat.le_of_ble_eq_true rfl)) dX7_sell_16 ⟨Nat.le_of_ble_eq_true rfl, Nat.le_of_ble_eq_true rfl⟩) ?_
    refine lv_topi (fun r3 (e3 : r3 = sX_isTrade a2 a3 a4) => ?_)
    have hg3 : ¬ r3 = 0 → vp_in a2 12 ∧ vp_in a3 6 := by rw [e3]; exact sX_isTrade_b
    refine lv_if_eq (tgt := 34) hx hb dX7_sell_19 (by decide) (fun h_4 => ?_) (fun h_4 => ?_)
    · skip
      refine lv_iconst (v := (-1)) hx hb dX7_sell_34 (by decide) ?_
      have hq5 : sX_sell n G a1 a2 a3 a4 = ((-1), G) := by subst e3; exact (if_neg h_1).trans (if_pos h_4)
      exact W.iret (v := (-1)) hx hb hr (fun t9 ht hW => ⟨⟨(-1), G, rfl, hq5.symm, by show cp_ (dC, dI) cI cy h0 q A ad rl L n G t9.heap; rw [ht]; exact hC⟩, hS.F ht⟩) hS.2.2 dX7_sell_35
    · skip
      refine lv_aload hx hb dX7_sell_22 (lv_at hl 0 rfl) ?_
      refine co_get 1 a1.toNatClampNeg (C := RX4) (T := TX4) (N := 4) (ci := 3) (v := .ref (ad 5 a1.toNatClampNeg)) hx hb hts hinX4 hown hK hC hv1 (fun _ h9 => h9) rfl 0 (by decide) (hts (.fieldLink RX7 92 "FurPosts$Post" "stock" "[I") (by decide +kernel)) (fun _ h9 => h9) rfl dX7_sell_24 ?_
      refine lv_iload_n hx hb dX7_sell_27 rfl (lv_at hl 4 rfl) ?_
      refine ci_ald 5 a1.toNatClampNeg hx hb hK hC hv1 (by decide) (w := a3) ((hg3 h_4).2) dX7_sell_28 ?_
      refine lv_topi (fun v6 (e6 : v6 = G 2 (6 * a1.toNatClampNeg + a3.toNatClampNeg)) => ?_)
      refine lv_iload hx hb dX7_sell_29 (lv_at hl 5 rfl) ?_
      refine lv_icmp_ge (tgt := 36) hx hb dX7_sell_31 (by decide) (fun h_7 => ?_) (fun h_7 => ?_)
      · skip
        refine lv_aload hx hb dX7_sell_36 (lv_at hl 0 rfl) ?_
        refine co_get 1 a1.toNatClampNeg (C := RX4) (T := TX4) (N := 4) (ci := 3) (v := .ref (ad 7 a1.toNatClampNeg)) hx hb hts hinX4 hown hK hC hv1 (fun _ h9 => h9) rfl 2 (by decide) (hts (.fieldLink RX7 214 "FurPosts$Post" "owed" "[I") (by decide +kernel)) (fun _ h9 => h9) rfl dX7_sell_38 ?_
        refine lv_iload_n hx hb dX7_sell_41 rfl (lv_at hl 3 rfl) ?_
        refine ci_ald 7 a1.toNatClampNeg hx hb hK hC hv1 (by decide) (w := a2) ((hg3 h_4).1) dX7_sell_42 ?_
        refine lv_topi (fun v8 (e8 : v8 = G 4 (12 * a1.toNatClampNeg + a2.toNatClampNeg)) => ?_)
        refine lv_aload hx hb dX7_sell_43 (lv_at hl 0 rfl) ?_
        refine co_get 1 a1.toNatClampNeg (C := RX4) (T := TX4) (N := 4) (ci := 3) (v := .ref (ad 6 a1.toNatClampNeg)) hx hb hts hinX4 hown hK hC hv1 (fun _ h9 => h9) rfl 1 (by decide) (hts (.fieldLink RX7 217 "FurPosts$Post" "prices" "[I") (by decide +kernel)) (fun _ h9 => h9) rfl dX7_sell_45 ?_
        refine lv_iload_n hx hb dX7_sell_48 rfl (lv_at hl 4 rfl) ?_
        refine ci_ald 6 a1.toNatClampNeg hx hb hK hC hv1 (by decide) (w := a3) ((hg3 h_4).2) dX7_sell_49 ?_
        refine lv_topi (fun v9 (e9 : v9 = G 3 (6 * a1.toNatClampNeg + a3.toNatClampNeg)) => ?_)
        refine lv_iload hx hb dX7_sell_50 (lv_at hl 5 rfl) ?_
        refine lv_imul hx hb dX7_sell_52 ?_
        refine lv_iadd hx hb dX7_sell_53 ?_
        refine lv_istore (lv' := [(6, .int (v8 + (v9 * a4))), (5, .ref (ad 1 a1.toNatClampNeg)), (0, .ref h0), (1, .int a1), (2, .int a2), (3, .int a3), (4, .int a4)]) hx hb dX7_sell_54 hl (by decide) rfl (fun ls hl => ?_)
        refine lv_iload hx hb dX7_sell_56 (lv_at hl 0 rfl) ?_
        refine lv_ldc (v := 100000) hx hb hown (hts (.constant RX7 95 (100000)) (by decide +kernel)) dX7_sell_58 ?_
        refine lv_icmp_le (tgt := 65) hx hb dX7_sell_60 (by decide) (fun h_10 => ?_) (fun h_10 => ?_)
        · skip
          refine lv_aload hx hb dX7_sell_65 (lv_at hl 1 rfl) ?_
          refine co_get 1 a1.toNatClampNeg (C := RX4) (T := TX4) (N := 4) (ci := 3) (v := .ref (ad 5 a1.toNatClampNeg)) hx hb hts hinX4 hown hK hC hv1 (fun _ h9 => h9) rfl 0 (by decide) (hts (.fieldLink RX7 92 "FurPosts$Post" "stock" "[I") (by decide +kernel)) (fun _ h9 => h9) rfl dX7_sell_67 ?_
          refine lv_iload_n hx hb dX7_sell_70 rfl (lv_at hl 5 rfl) ?_
          refine lv_dup2_11 hx hb dX7_sell_71 rfl rfl ?_
          refine ci_ald 5 a1.toNatClampNeg hx hb hK hC hv1 (by decide) (w := a3) ((hg3 h_4).2) dX7_sell_72 ?_
          refine lv_topi (fun v11 (e11 : v11 = G 2 (6 * a1.toNatClampNeg + a3.toNatClampNeg)) => ?_)
          refine lv_iload hx hb dX7_sell_73 (lv_at hl 6 rfl) ?_
          refine lv_isub hx hb dX7_sell_75 ?_
          refine ci_ast 5 a1.toNatClampNeg hx hb hK hC hS hv1 (by decide) (w := a3) (x := (v11 - a4)) ((hg3 h_4).2) dX7_sell_76 (fun H locs hC hS => ?_)
          obtain ⟨G12, e12, hC⟩ : ∃ G12 : Nat → Nat → Int32, G12 = up2 G 2 (6 * a1.toNatClampNeg + a3.toNatClampNeg) (v11 - a4) ∧ cp_ (dC, dI) cI cy h0 q A ad rl L n G12 H := ⟨_, rfl, hC⟩
          refine lv_aload hx hb dX7_sell_77 (lv_at hl 1 rfl) ?_
          refine co_get 1 a1.toNatClampNeg (C := RX4) (T := TX4) (N := 4) (ci := 3) (v := .ref (ad 7 a1.toNatClampNeg)) hx hb hts hinX4 hown hK hC hv1 (fun _ h9 => h9) rfl 2 (by decide) (hts (.fieldLink RX7 214 "FurPosts$Post" "owed" "[I") (by decide +kernel)) (fun _ h9 => h9) rfl dX7_sell_79 ?_
          refine lv_iload_n hx hb dX7_sell_82 rfl (lv_at hl 4 rfl) ?_
          refine lv_iload hx hb dX7_sell_83 (lv_at hl 0 rfl) ?_
          refine ci_ast 7 a1.toNatClampNeg hx hb hK hC hS hv1 (by decide) (w := a2) (x := (v8 + (v9 * a4))) ((hg3 h_4).1) dX7_sell_85 (fun H locs hC hS => ?_)
          obtain ⟨G13, e13, hC⟩ : ∃ G13 : Nat → Nat → Int32, G13 = up2 G12 4 (12 * a1.toNatClampNeg + a2.toNatClampNeg) (v8 + (v9 * a4)) ∧ cp_ (dC, dI) cI cy h0 q A ad rl L n G13 H := ⟨_, rfl, hC⟩
          refine lv_aload_n hx hb dX7_sell_86 rfl (lv_at hl 2 rfl) ?_
          refine cx_get hx hb hts hinX7 hown hK hC 6 (by decide) (v := .ref (q 7)) rfl (hts (.fieldLink RX7 41 "FurPosts" "tallies" "[[I") (by decide +kernel)) dX7_sell_87 ?_
          refine lv_iload_n hx hb dX7_sell_90 rfl (lv_at hl 5 rfl) ?_
          refine cr_ald27 hx hb hK hC (w := a3) ((hg3 h_4).2) dX7_sell_91 ?_
          refine lv_iconst (v := 1) hx hb dX7_sell_92 (by decide) ?_
          refine lv_dup2_11 hx hb dX7_sell_93 rfl rfl ?_
          refine ci_ald 14 a3.toNatClampNeg hx hb hK hC (vp_lt ((hg3 h_4).2)) (by decide) (w := 1) (by unfold vp_in; decide) dX7_sell_94 ?_
          refine lv_topi (fun v14 (e14 : v14 = G13 34 (6 * (1 : Int32).toNatClampNeg + a3.toNatClampNeg)) => ?_)
          rw [(show (1 : Int32).toNatClampNeg = 1 from by decide)] at e14
          refine lv_iload hx hb dX7_sell_95 (lv_at hl 6 rfl) ?_
          refine lv_iadd hx hb dX7_sell_97 ?_
          refine ci_ast 14 a3.toNatClampNeg hx hb hK hC hS (vp_lt ((hg3 h_4).2)) (by decide) (w := 1) (x := (v14 + a4)) (by unfold vp_in; decide) dX7_sell_98 (fun H locs hC hS => ?_)
          obtain ⟨G15, e15, hC⟩ : ∃ G15 : Nat → Nat → Int32, G15 = up2 G13 34 (6 * (1 : Int32).toNatClampNeg + a3.toNatClampNeg) (v14 + a4) ∧ cp_ (dC, dI) cI cy h0 q A ad rl L n G15 H := ⟨_, rfl, hC⟩
          rw [(show (1 : Int32).toNatClampNeg = 1 from by decide)] at e15
          refine lv_iload hx hb dX7_sell_99 (lv_at hl 0 rfl) ?_
          have hq16 : sX_sell n G a1 a2 a3 a4 = ((v8 + (v9 * a4)), G15) := by subst e15 e14 e13 e12 e11 e9 e8 e6 e3; exact (if_neg h_1).trans ((if_neg h_4).trans ((if_pos h_7).trans (if_pos h_10)))
          exact W.iret (v := (v8 + (v9 * a4))) hx hb hr (fun t9 ht hW => ⟨⟨(v8 + (v9 * a4)), G15, rfl, hq16.symm, by show cp_ (dC, dI) cI cy h0 q A ad rl L n G15 t9.heap; rw [ht]; exact hC⟩, hS.F ht⟩) hS.2.2 dX7_sell_101
        · skip
          refine lv_iconst (v := (-1)) hx hb dX7_sell_63 (by decide) ?_
          have hq17 : sX_sell n G a1 a2 a3 a4 = ((-1), G) := by subst e9 e8 e6 e3; exact (if_neg h_1).trans ((if_neg h_4).trans ((if_pos h_7).trans (if_neg h_10)))
          exact W.iret (v := (-1)) hx hb hr (fun t9 ht hW => ⟨⟨(-1), G, rfl, hq17.symm, by show cp_ (dC, dI) cI cy h0 q A ad rl L n G t9.heap; rw [ht]; exact hC⟩, hS.F ht⟩) hS.2.2 dX7_sell_64
      · skip
        refine lv_iconst (v := (-1)) hx hb dX7_sell_34 (by decide) ?_
        have hq18 : sX_sell n G a1 a2 a3 a4 = ((-1), G) := by subst e6 e3; exact (if_neg h_1).trans ((if_neg h_4).trans (if_neg h_7))
        exact W.iret (v := (-1)) hx hb hr (fun t9 ht hW => ⟨⟨(-1), G, rfl, hq18.symm, by show cp_ (dC, dI) cI cy h0 q A ad rl L n G t9.heap; rw [ht]; exact hC⟩, hS.F ht⟩) hS.2.2 dX7_sell_35

set_option maxHeartbeats 8000000 in
set_option maxRecDepth 100000 in
theorem m_X7_buy (l : Launch) (dC : Nat → ClassId) (dI : Nat → Nat → Nat) (h0 : Nat) (q : Nat → Nat) (cI : ClassId) (cy : Nat → ClassId) (A : Nat → Prop) (ad : Nat → Nat → Nat) (rl : Nat → Nat × Nat) (L : List Nat) (n : Nat → Nat) (G : Nat → Nat → Int32) (hN : nb_ n) (a1 : Int32) (a2 : Int32) (a3 : Int32) (a4 : Int32) : Met l yX7_buy wsX7_buy ({ frames := 2, cells := 0, slots := 0, locals := 44 }) (va_Pc [.ref h0, .int a1, .int a2, .int a3, .int a4] (ct_P (dC, dI) cI cy h0 q A ad rl L n G)) (va_Qi (fun r (u : Nat → Nat → Int32) => (r, u) = sX_buy n G a1 a2 a3 a4) (fun u s' => cp_ (dC, dI) cI cy h0 q A ad rl L n u s'.heap) A) 0 0 A := by
  refine Met.ofW (cc := cX7_buy) (maxL := 7) (ret := (some .int)) (by decide) rfl ?_
  intro p e s m args below meth c s₁ B hml hv
  obtain ⟨rfl, hC, hK, hW0⟩ := hv
  have hx := B.exec
  have hb := B.bytes
  have hr := B.returns
  have hts := atoms_spec (ws := wsX7_buy) B.pre
  have hown : s.vm.findClass RX7 = some m.cls := findClass_of_methodNamed B.named
  have hlocks := B.notSynchronized
  have hinX4 : ∀ w ∈ u_ws RX4 TX4 4, w ∈ wsX7_buy := by decide +kernel
  have hinX7 : ∀ w ∈ u_ws RX7 TX7 14, w ∈ wsX7_buy := by decide +kernel
  have hS : va_S A s.heap s.heap [] := va_S.rf
  have hl := lv_entry ([.ref h0, .int a1, .int a2, .int a3, .int a4]) (n := 7) (Nat.le_of_ble_eq_true rfl)
  rw [lg_entry_eq]
  generalize (lg_sl ([.ref h0, .int a1, .int a2, .int a3, .int a4]) ++ List.replicate (7 - (lg_sl ([.ref h0, .int a1, .int a2, .int a3, .int a4])).length) Slot.unset).toArray = ls at hl ⊢
  have hl : lv_has ls 7 [(0, .ref h0), (1, .int a1), (2, .int a2), (3, .int a3), (4, .int a4)] := hl
  obtain ⟨H, hH, hC, hS⟩ : ∃ H, H = s.heap ∧ cp_ (dC, dI) cI cy h0 q A ad rl L n G H ∧ va_S A s.heap H [] := ⟨_, rfl, hC, hS⟩
  rw [← hH]
  generalize ([] : List Loc) = locs at hS ⊢
  refine lv_aload_n hx hb dX7_buy_0 rfl (lv_at hl 0 rfl) ?_
  refine lv_iload_n hx hb dX7_buy_1 rfl (lv_at hl 1 rfl) ?_
  refine pu_call (va_runV (As := [.int a1]) (rest := []) ⟨hx, hb, hml, hown, hts⟩ (k_X7_postAt l dC dI h0 q cI cy A ad rl L n G hN a1) (cwV 1 hts gX7_buy_X7_postAt rfl rfl rfl (by decide +kernel) ⟨Nat.le_of_ble_eq_true rfl, Nat.le_of_ble_eq_true rfl⟩) (ct_pre hC hK hW0) rfl rfl hl.1 rfl (lv_room (Nat.le_of_ble_eq_true rfl)) dX7_buy_2 ⟨Nat.le_of_ble_eq_true rfl, Nat.le_of_ble_eq_true rfl⟩) ?_
  by_cases h_1 : (sp_in a1 0 ((nI (n 1)) - 1)) = 0
  · rw [if_pos h_1]
    refine lv_astoreN (lv' := [(5, .null), (0, .ref h0), (1, .int a1), (2, .int a2), (3, .int a3), (4, .int a4)]) hx hb dX7_buy_5 hl (by decide) rfl (fun ls hl => ?_)
    refine lv_aloadN hx hb dX7_buy_7 (lv_at hl 0 rfl) ?_
    refine lv_ifnullN (tgt := 37) hx hb dX7_buy_9 (by decide) ?_
    refine lv_iconst (v := (-1)) hx hb dX7_buy_37 (by decide) ?_
    have hq2 : sX_buy n G a1 a2 a3 a4 = ((-1), G) := by exact (if_pos h_1)
    exact W.iret (v := (-1)) hx hb hr (fun t9 ht hW => ⟨⟨(-1), G, rfl, hq2.symm, by show cp_ (dC, dI) cI cy h0 q A ad rl L n G t9.heap; rw [ht]; exact hC⟩, hS.F ht⟩) hS.2.2 dX7_buy_38
  · rw [if_neg h_1]
    have hv1 := sp_live h_1 (by omega)
    refine lv_astore (lv' := [(5, .ref (ad 1 a1.toNatClampNeg)), (0, .ref h0), (1, .int a1), (2, .int a2), (3, .int a3), (4, .int a4)]) hx hb dX7_buy_5 hl (by decide) rfl (fun ls hl => ?_)
    refine lv_aload hx hb dX7_buy_7 (lv_at hl 0 rfl) ?_
    refine lv_ifnull hx hb dX7_buy_9 ?_
    refine lv_iload_n hx hb dX7_buy_12 rfl (lv_at hl 3 rfl) ?_
    refine lv_iload_n hx hb dX7_buy_13 rfl (lv_at hl 4 rfl) ?_
    refine lv_iload hx hb dX7_buy_14 (lv_at hl 5 rfl) ?_
    refine pu_call (va_runS (As := [.int a2, .int a3, .int a4]) (rest := []) ⟨hx, hb, hml, hown, hts⟩ (k_X7_isTrade l a2 a3 a4) (va_cwS 3 hts gX7_buy_X7_isTrade rfl rfl rfl (by decide +kernel) ⟨Nat.le_of_ble_eq_true rfl, Nat.le_of_ble_eq_true rfl⟩) pu_preS rfl rfl hl.1 rfl (lv_room (Nat.le_of_ble_eq_true rfl)) dX7_buy_16 ⟨Nat.le_of_ble_eq_true rfl, Nat.le_of_ble_eq_true rfl⟩) ?_
    refine lv_topi (fun r3 (e3 : r3 = sX_isTrade a2 a3 a4) => ?_)
    have hg3 : ¬ r3 = 0 → vp_in a2 12 ∧ vp_in a3 6 := by rw [e3]; exact sX_isTrade_b
    refine lv_if_eq (tgt := 37) hx hb dX7_buy_19 (by decide) (fun h_4 => ?_) (fun h_4 => ?_)
    · skip
      refine lv_iconst (v := (-1)) hx hb dX7_buy_37 (by decide) ?_
      have hq5 : sX_buy n G a1 a2 a3 a4 = ((-1), G) := by subst e3; exact (if_neg h_1).trans (if_pos h_4)
      exact W.iret (v := (-1)) hx hb hr (fun t9 ht hW => ⟨⟨(-1), G, rfl, hq5.symm, by show cp_ (dC, dI) cI cy h0 q A ad rl L n G t9.heap; rw [ht]; exact hC⟩, hS.F ht⟩) hS.2.2 dX7_buy_38
    · skip
      refine lv_aload hx hb dX7_buy_22 (lv_at hl 0 rfl) ?_
      refine co_get 1 a1.toNatClampNeg (C := RX4) (T := TX4) (N := 4) (ci := 3) (v := .ref (ad 5 a1.toNatClampNeg)) hx hb hts hinX4 hown hK hC hv1 (fun _ h9 => h9) rfl 0 (by decide) (hts (.fieldLink RX7 92 "FurPosts$Post" "stock" "[I") (by decide +kernel)) (fun _ h9 => h9) rfl dX7_buy_24 ?_
      refine lv_iload_n hx hb dX7_buy_27 rfl (lv_at hl 4 rfl) ?_
      refine ci_ald 5 a1.toNatClampNeg hx hb hK hC hv1 (by decide) (w := a3) ((hg3 h_4).2) dX7_buy_28 ?_
      refine lv_topi (fun v6 (e6 : v6 = G 2 (6 * a1.toNatClampNeg + a3.toNatClampNeg)) => ?_)
      refine lv_iload hx hb dX7_buy_29 (lv_at hl 5 rfl) ?_
      refine lv_iadd hx hb dX7_buy_31 ?_
      refine lv_ldc (v := 100000) hx hb hown (hts (.constant RX7 95 (100000)) (by decide +kernel)) dX7_buy_32 ?_
      refine lv_icmp_le (tgt := 39) hx hb dX7_buy_34 (by decide) (fun h_7 => ?_) (fun h_7 => ?_)
      · skip
        refine lv_aload hx hb dX7_buy_39 (lv_at hl 0 rfl) ?_
        refine co_get 1 a1.toNatClampNeg (C := RX4) (T := TX4) (N := 4) (ci := 3) (v := .ref (ad 7 a1.toNatClampNeg)) hx hb hts hinX4 hown hK hC hv1 (fun _ h9 => h9) rfl 2 (by decide) (hts (.fieldLink RX7 214 "FurPosts$Post" "owed" "[I") (by decide +kernel)) (fun _ h9 => h9) rfl dX7_buy_41 ?_
        refine lv_iload_n hx hb dX7_buy_44 rfl (lv_at hl 3 rfl) ?_
        refine ci_ald 7 a1.toNatClampNeg hx hb hK hC hv1 (by decide) (w := a2) ((hg3 h_4).1) dX7_buy_45 ?_
        refine lv_topi (fun v8 (e8 : v8 = G 4 (12 * a1.toNatClampNeg + a2.toNatClampNeg)) => ?_)
        refine lv_aload hx hb dX7_buy_46 (lv_at hl 0 rfl) ?_
        refine co_get 1 a1.toNatClampNeg (C := RX4) (T := TX4) (N := 4) (ci := 3) (v := .ref (ad 6 a1.toNatClampNeg)) hx hb hts hinX4 hown hK hC hv1 (fun _ h9 => h9) rfl 1 (by decide) (hts (.fieldLink RX7 217 "FurPosts$Post" "prices" "[I") (by decide +kernel)) (fun _ h9 => h9) rfl dX7_buy_48 ?_
        refine lv_iload_n hx hb dX7_buy_51 rfl (lv_at hl 4 rfl) ?_
        refine ci_ald 6 a1.toNatClampNeg hx hb hK hC hv1 (by decide) (w := a3) ((hg3 h_4).2) dX7_buy_52 ?_
        refine lv_topi (fun v9 (e9 : v9 = G 3 (6 * a1.toNatClampNeg + a3.toNatClampNeg)) => ?_)
        refine lv_iload hx hb dX7_buy_53 (lv_at hl 5 rfl) ?_
        refine lv_imul hx hb dX7_buy_55 ?_
        refine lv_isub hx hb dX7_buy_56 ?_
        refine lv_istore (lv' := [(6, .int (v8 - (v9 * a4))), (5, .ref (ad 1 a1.toNatClampNeg)), (0, .ref h0), (1, .int a1), (2, .int a2), (3, .int a3), (4, .int a4)]) hx hb dX7_buy_57 hl (by decide) rfl (fun ls hl => ?_)
        refine lv_iload hx hb dX7_buy_59 (lv_at hl 0 rfl) ?_
        refine lv_ldc (v := (-100000)) hx hb hown (hts (.constant RX7 220 (-100000)) (by decide +kernel)) dX7_buy_61 ?_
        refine lv_icmp_ge (tgt := 68) hx hb dX7_buy_63 (by decide) (fun h_10 => ?_) (fun h_10 => ?_)
        · skip
          refine lv_aload hx hb dX7_buy_68 (lv_at hl 1 rfl) ?_
          refine co_get 1 a1.toNatClampNeg (C := RX4) (T := TX4) (N := 4) (ci := 3) (v := .ref (ad 5 a1.toNatClampNeg)) hx hb hts hinX4 hown hK hC hv1 (fun _ h9 => h9) rfl 0 (by decide) (hts (.fieldLink RX7 92 "FurPosts$Post" "stock" "[I") (by decide +kernel)) (fun _ h9 => h9) rfl dX7_buy_70 ?_
          refine lv_iload_n hx hb dX7_buy_73 rfl (lv_at hl 5 rfl) ?_
          refine lv_dup2_11 hx hb dX7_buy_74 rfl rfl ?_
          refine ci_ald 5 a1.toNatClampNeg hx hb hK hC hv1 (by decide) (w := a3) ((hg3 h_4).2) dX7_buy_75 ?_
          refine lv_topi (fun v11 (e11 : v11 = G 2 (6 * a1.toNatClampNeg + a3.toNatClampNeg)) => ?_)
          refine lv_iload hx hb dX7_buy_76 (lv_at hl 6 rfl) ?_
          refine lv_iadd hx hb dX7_buy_78 ?_
          refine ci_ast 5 a1.toNatClampNeg hx hb hK hC hS hv1 (by decide) (w := a3) (x := (v11 + a4)) ((hg3 h_4).2) dX7_buy_79 (fun H locs hC hS => ?_)
          obtain ⟨G12, e12, hC⟩ : ∃ G12 : Nat → Nat → Int32, G12 = up2 G 2 (6 * a1.toNatClampNeg + a3.toNatClampNeg) (v11 + a4) ∧ cp_ (dC, dI) cI cy h0 q A ad rl L n G12 H := ⟨_, rfl, hC⟩
          refine lv_aload hx hb dX7_buy_80 (lv_at hl 1 rfl) ?_
          refine co_get 1 a1.toNatClampNeg (C := RX4) (T := TX4) (N := 4) (ci := 3) (v := .ref (ad 7 a1.toNatClampNeg)) hx hb hts hinX4 hown hK hC hv1 (fun _ h9 => h9) rfl 2 (by decide) (hts (.fieldLink RX7 214 "FurPosts$Post" "owed" "[I") (by decide +kernel)) (fun _ h9 => h9) rfl dX7_buy_82 ?_
          refine lv_iload_n hx hb dX7_buy_85 rfl (lv_at hl 4 rfl) ?_
          refine lv_iload hx hb dX7_buy_86 (lv_at hl 0 rfl) ?_
          refine ci_ast 7 a1.toNatClampNeg hx hb hK hC hS hv1 (by decide) (w := a2) (x := (v8 - (v9 * a4))) ((hg3 h_4).1) dX7_buy_88 (fun H locs hC hS => ?_)
          obtain ⟨G13, e13, hC⟩ : ∃ G13 : Nat → Nat → Int32, G13 = up2 G12 4 (12 * a1.toNatClampNeg + a2.toNatClampNeg) (v8 - (v9 * a4)) ∧ cp_ (dC, dI) cI cy h0 q A ad rl L n G13 H := ⟨_, rfl, hC⟩
          refine lv_aload_n hx hb dX7_buy_89 rfl (lv_at hl 2 rfl) ?_
          refine cx_get hx hb hts hinX7 hown hK hC 6 (by decide) (v := .ref (q 7)) rfl (hts (.fieldLink RX7 41 "FurPosts" "tallies" "[[I") (by decide +kernel)) dX7_buy_90 ?_
          refine lv_iload_n hx hb dX7_buy_93 rfl (lv_at hl 5 rfl) ?_
          refine cr_ald27 hx hb hK hC (w := a3) ((hg3 h_4).2) dX7_buy_94 ?_
          refine lv_iconst (v := 2) hx hb dX7_buy_95 (by decide) ?_
          refine lv_dup2_11 hx hb dX7_buy_96 rfl rfl ?_
          refine ci_ald 14 a3.toNatClampNeg hx hb hK hC (vp_lt ((hg3 h_4).2)) (by decide) (w := 2) (by unfold vp_in; decide) dX7_buy_97 ?_
          refine lv_topi (fun v14 (e14 : v14 = G13 34 (6 * (2 : Int32).toNatClampNeg + a3.toNatClampNeg)) => ?_)
          rw [(show (2 : Int32).toNatClampNeg = 2 from by decide)] at e14
          refine lv_iload hx hb dX7_buy_98 (lv_at hl 6 rfl) ?_
          refine lv_iadd hx hb dX7_buy_100 ?_
          refine ci_ast 14 a3.toNatClampNeg hx hb hK hC hS (vp_lt ((hg3 h_4).2)) (by decide) (w := 2) (x := (v14 + a4)) (by unfold vp_in; decide) dX7_buy_101 (fun H locs hC hS => ?_)
          obtain ⟨G15, e15, hC⟩ : ∃ G15 : Nat → Nat → Int32, G15 = up2 G13 34 (6 * (2 : Int32).toNatClampNeg + a3.toNatClampNeg) (v14 + a4) ∧ cp_ (dC, dI) cI cy h0 q A ad rl L n G15 H := ⟨_, rfl, hC⟩
          rw [(show (2 : Int32).toNatClampNeg = 2 from by decide)] at e15
          refine lv_iload hx hb dX7_buy_102 (lv_at hl 0 rfl) ?_
          have hq16 : sX_buy n G a1 a2 a3 a4 = ((v8 - (v9 * a4)), G15) := by subst e15 e14 e13 e12 e11 e9 e8 e6 e3; exact (if_neg h_1).trans ((if_neg h_4).trans ((if_pos h_7).trans (if_pos h_10)))
          exact W.iret (v := (v8 - (v9 * a4))) hx hb hr (fun t9 ht hW => ⟨⟨(v8 - (v9 * a4)), G15, rfl, hq16.symm, by show cp_ (dC, dI) cI cy h0 q A ad rl L n G15 t9.heap; rw [ht]; exact hC⟩, hS.F ht⟩) hS.2.2 dX7_buy_104
        · skip
          refine lv_iconst (v := (-1)) hx hb dX7_buy_66 (by decide) ?_
          have hq17 : sX_buy n G a1 a2 a3 a4 = ((-1), G) := by subst e9 e8 e6 e3; exact (if_neg h_1).trans ((if_neg h_4).trans ((if_pos h_7).trans (if_neg h_10)))
          exact W.iret (v := (-1)) hx hb hr (fun t9 ht hW => ⟨⟨(-1), G, rfl, hq17.symm, by show cp_ (dC, dI) cI cy h0 q A ad rl L n G t9.heap; rw [ht]; exact hC⟩, hS.F ht⟩) hS.2.2 dX7_buy_67
      · skip
        refine lv_iconst (v := (-1)) hx hb dX7_buy_37 (by decide) ?_
        have hq18 : sX_buy n G a1 a2 a3 a4 = ((-1), G) := by subst e6 e3; exact (if_neg h_1).trans ((if_neg h_4).trans (if_neg h_7))
        exact W.iret (v := (-1)) hx hb hr (fun t9 ht hW => ⟨⟨(-1), G, rfl, hq18.symm, by show cp_ (dC, dI) cI cy h0 q A ad rl L n G t9.heap; rw [ht]; exact hC⟩, hS.F ht⟩) hS.2.2 dX7_buy_38

set_option maxHeartbeats 8000000 in
set_option maxRecDepth 100000 in
theorem m_X7_give (l : Launch) (dC : Nat → ClassId) (dI : Nat → Nat → Nat) (h0 : Nat) (q : Nat → Nat) (cI : ClassId) (cy : Nat → ClassId) (A : Nat → Prop) (ad : Nat → Nat → Nat) (rl : Nat → Nat × Nat) (L : List Nat) (n : Nat → Nat) (G : Nat → Nat → Int32) (hN : nb_ n) (a1 : Int32) (a2 : Int32) (a3 : Int32) (a4 : Int32) : Met l yX7_give wsX7_give ({ frames := 2, cells := 0, slots := 0, locals := 44 }) (va_Pc [.ref h0, .int a1, .int a2, .int a3, .int a4] (ct_P (dC, dI) cI cy h0 q A ad rl L n G)) (va_Qi (fun r (u : Nat → Nat → Int32) => (r, u) = sX_give n G a1 a2 a3 a4) (fun u s' => cp_ (dC, dI) cI cy h0 q A ad rl L n u s'.heap) A) 0 0 A := by
  refine Met.ofW (cc := cX7_give) (maxL := 6) (ret := (some .int)) (by decide) rfl ?_
  intro p e s m args below meth c s₁ B hml hv
  obtain ⟨rfl, hC, hK, hW0⟩ := hv
  have hx := B.exec
  have hb := B.bytes
  have hr := B.returns
  have hts := atoms_spec (ws := wsX7_give) B.pre
  have hown : s.vm.findClass RX7 = some m.cls := findClass_of_methodNamed B.named
  have hlocks := B.notSynchronized
  have hinX4 : ∀ w ∈ u_ws RX4 TX4 4, w ∈ wsX7_give := by decide +kernel
  have hinX7 : ∀ w ∈ u_ws RX7 TX7 14, w ∈ wsX7_give := by decide +kernel
  have hS : va_S A s.heap s.heap [] := va_S.rf
  have hl := lv_entry ([.ref h0, .int a1, .int a2, .int a3, .int a4]) (n := 6) (Nat.le_of_ble_eq_true rfl)
  rw [lg_entry_eq]
  generalize (lg_sl ([.ref h0, .int a1, .int a2, .int a3, .int a4]) ++ List.replicate (6 - (lg_sl ([.ref h0, .int a1, .int a2, .int a3, .int a4])).length) Slot.unset).toArray = ls at hl ⊢
  have hl : lv_has ls 6 [(0, .ref h0), (1, .int a1), (2, .int a2), (3, .int a3), (4, .int a4)] := hl
  obtain ⟨H, hH, hC, hS⟩ : ∃ H, H = s.heap ∧ cp_ (dC, dI) cI cy h0 q A ad rl L n G H ∧ va_S A s.heap H [] := ⟨_, rfl, hC, hS⟩
  rw [← hH]
  generalize ([] : List Loc) = locs at hS ⊢
  refine lv_aload_n hx hb dX7_give_0 rfl (lv_at hl 0 rfl) ?_
  refine lv_iload_n hx hb dX7_give_1 rfl (lv_at hl 1 rfl) ?_
  refine pu_call (va_runV (As := [.int a1]) (rest := []) ⟨hx, hb, hml, hown, hts⟩ (k_X7_postAt l dC dI h0 q cI cy A ad rl L n G hN a1) (cwV 1 hts gX7_give_X7_postAt rfl rfl rfl (by decide +kernel) ⟨Nat.le_of_ble_eq_true rfl, Nat.le_of_ble_eq_true rfl⟩) (ct_pre hC hK hW0) rfl rfl hl.1 rfl (lv_room (Nat.le_of_ble_eq_true rfl)) dX7_give_2 ⟨Nat.le_of_ble_eq_true rfl, Nat.le_of_ble_eq_true rfl⟩) ?_
  by_cases h_1 : (sp_in a1 0 ((nI (n 1)) - 1)) = 0
  · rw [if_pos h_1]
    refine lv_astoreN (lv' := [(5, .null), (0, .ref h0), (1, .int a1), (2, .int a2), (3, .int a3), (4, .int a4)]) hx hb dX7_give_5 hl (by decide) rfl (fun ls hl => ?_)
    refine lv_aloadN hx hb dX7_give_7 (lv_at hl 0 rfl) ?_
    refine lv_ifnullN (tgt := 34) hx hb dX7_give_9 (by decide) ?_
    refine lv_iconst (v := (-1)) hx hb dX7_give_34 (by decide) ?_
    have hq2 : sX_give n G a1 a2 a3 a4 = ((-1), G) := by exact (if_pos h_1)
    exact W.iret (v := (-1)) hx hb hr (fun t9 ht hW => ⟨⟨(-1), G, rfl, hq2.symm, by show cp_ (dC, dI) cI cy h0 q A ad rl L n G t9.heap; rw [ht]; exact hC⟩, hS.F ht⟩) hS.2.2 dX7_give_35
  · rw [if_neg h_1]
    have hv1 := sp_live h_1 (by omega)
    refine lv_astore (lv' := [(5, .ref (ad 1 a1.toNatClampNeg)), (0, .ref h0), (1, .int a1), (2, .int a2), (3, .int a3), (4, .int a4)]) hx hb dX7_give_5 hl (by decide) rfl (fun ls hl => ?_)
    refine lv_aload hx hb dX7_give_7 (lv_at hl 0 rfl) ?_
    refine lv_ifnull hx hb dX7_give_9 ?_
    refine lv_iload_n hx hb dX7_give_12 rfl (lv_at hl 3 rfl) ?_
    refine lv_iload_n hx hb dX7_give_13 rfl (lv_at hl 4 rfl) ?_
    refine lv_iload hx hb dX7_give_14 (lv_at hl 5 rfl) ?_
    refine pu_call (va_runS (As := [.int a2, .int a3, .int a4]) (rest := []) ⟨hx, hb, hml, hown, hts⟩ (k_X7_isTrade l a2 a3 a4) (va_cwS 3 hts gX7_give_X7_isTrade rfl rfl rfl (by decide +kernel) ⟨Nat.le_of_ble_eq_true rfl, Nat.le_of_ble_eq_true rfl⟩) pu_preS rfl rfl hl.1 rfl (lv_room (Nat.le_of_ble_eq_true rfl)) dX7_give_16 ⟨Nat.le_of_ble_eq_true rfl, Nat.le_of_ble_eq_true rfl⟩) ?_
    refine lv_topi (fun r3 (e3 : r3 = sX_isTrade a2 a3 a4) => ?_)
    have hg3 : ¬ r3 = 0 → vp_in a2 12 ∧ vp_in a3 6 := by rw [e3]; exact sX_isTrade_b
    refine lv_if_eq (tgt := 34) hx hb dX7_give_19 (by decide) (fun h_4 => ?_) (fun h_4 => ?_)
    · skip
      refine lv_iconst (v := (-1)) hx hb dX7_give_34 (by decide) ?_
      have hq5 : sX_give n G a1 a2 a3 a4 = ((-1), G) := by subst e3; exact (if_neg h_1).trans (if_pos h_4)
      exact W.iret (v := (-1)) hx hb hr (fun t9 ht hW => ⟨⟨(-1), G, rfl, hq5.symm, by show cp_ (dC, dI) cI cy h0 q A ad rl L n G t9.heap; rw [ht]; exact hC⟩, hS.F ht⟩) hS.2.2 dX7_give_35
    · skip
      refine lv_aload hx hb dX7_give_22 (lv_at hl 0 rfl) ?_
      refine co_get 1 a1.toNatClampNeg (C := RX4) (T := TX4) (N := 4) (ci := 3) (v := .ref (ad 5 a1.toNatClampNeg)) hx hb hts hinX4 hown hK hC hv1 (fun _ h9 => h9) rfl 0 (by decide) (hts (.fieldLink RX7 92 "FurPosts$Post" "stock" "[I") (by decide +kernel)) (fun _ h9 => h9) rfl dX7_give_24 ?_
      refine lv_iload_n hx hb dX7_give_27 rfl (lv_at hl 4 rfl) ?_
      refine ci_ald 5 a1.toNatClampNeg hx hb hK hC hv1 (by decide) (w := a3) ((hg3 h_4).2) dX7_give_28 ?_
      refine lv_topi (fun v6 (e6 : v6 = G 2 (6 * a1.toNatClampNeg + a3.toNatClampNeg)) => ?_)
      refine lv_iload hx hb dX7_give_29 (lv_at hl 5 rfl) ?_
      refine lv_icmp_ge (tgt := 36) hx hb dX7_give_31 (by decide) (fun h_7 => ?_) (fun h_7 => ?_)
      · skip
        refine lv_aload hx hb dX7_give_36 (lv_at hl 0 rfl) ?_
        refine co_get 1 a1.toNatClampNeg (C := RX4) (T := TX4) (N := 4) (ci := 3) (v := .ref (ad 5 a1.toNatClampNeg)) hx hb hts hinX4 hown hK hC hv1 (fun _ h9 => h9) rfl 0 (by decide) (hts (.fieldLink RX7 92 "FurPosts$Post" "stock" "[I") (by decide +kernel)) (fun _ h9 => h9) rfl dX7_give_38 ?_
        refine lv_iload_n hx hb dX7_give_41 rfl (lv_at hl 4 rfl) ?_
        refine lv_dup2_11 hx hb dX7_give_42 rfl rfl ?_
        refine ci_ald 5 a1.toNatClampNeg hx hb hK hC hv1 (by decide) (w := a3) ((hg3 h_4).2) dX7_give_43 ?_
        refine lv_topi (fun v8 (e8 : v8 = G 2 (6 * a1.toNatClampNeg + a3.toNatClampNeg)) => ?_)
        refine lv_iload hx hb dX7_give_44 (lv_at hl 5 rfl) ?_
        refine lv_isub hx hb dX7_give_46 ?_
        refine ci_ast 5 a1.toNatClampNeg hx hb hK hC hS hv1 (by decide) (w := a3) (x := (v8 - a4)) ((hg3 h_4).2) dX7_give_47 (fun H locs hC hS => ?_)
        obtain ⟨G9, e9, hC⟩ : ∃ G9 : Nat → Nat → Int32, G9 = up2 G 2 (6 * a1.toNatClampNeg + a3.toNatClampNeg) (v8 - a4) ∧ cp_ (dC, dI) cI cy h0 q A ad rl L n G9 H := ⟨_, rfl, hC⟩
        refine lv_aload_n hx hb dX7_give_48 rfl (lv_at hl 1 rfl) ?_
        refine cx_get hx hb hts hinX7 hown hK hC 6 (by decide) (v := .ref (q 7)) rfl (hts (.fieldLink RX7 41 "FurPosts" "tallies" "[[I") (by decide +kernel)) dX7_give_49 ?_
        refine lv_iload_n hx hb dX7_give_52 rfl (lv_at hl 4 rfl) ?_
        refine cr_ald27 hx hb hK hC (w := a3) ((hg3 h_4).2) dX7_give_53 ?_
        refine lv_iconst (v := 3) hx hb dX7_give_54 (by decide) ?_
        refine lv_dup2_11 hx hb dX7_give_55 rfl rfl ?_
        refine ci_ald 14 a3.toNatClampNeg hx hb hK hC (vp_lt ((hg3 h_4).2)) (by decide) (w := 3) (by unfold vp_in; decide) dX7_give_56 ?_
        refine lv_topi (fun v10 (e10 : v10 = G9 34 (6 * (3 : Int32).toNatClampNeg + a3.toNatClampNeg)) => ?_)
        rw [(show (3 : Int32).toNatClampNeg = 3 from by decide)] at e10
        refine lv_iload hx hb dX7_give_57 (lv_at hl 5 rfl) ?_
        refine lv_iadd hx hb dX7_give_59 ?_
        refine ci_ast 14 a3.toNatClampNeg hx hb hK hC hS (vp_lt ((hg3 h_4).2)) (by decide) (w := 3) (x := (v10 + a4)) (by unfold vp_in; decide) dX7_give_60 (fun H locs hC hS => ?_)
        obtain ⟨G11, e11, hC⟩ : ∃ G11 : Nat → Nat → Int32, G11 = up2 G9 34 (6 * (3 : Int32).toNatClampNeg + a3.toNatClampNeg) (v10 + a4) ∧ cp_ (dC, dI) cI cy h0 q A ad rl L n G11 H := ⟨_, rfl, hC⟩
        rw [(show (3 : Int32).toNatClampNeg = 3 from by decide)] at e11
        refine lv_aload hx hb dX7_give_61 (lv_at hl 0 rfl) ?_
        refine co_get 1 a1.toNatClampNeg (C := RX4) (T := TX4) (N := 4) (ci := 3) (v := .ref (ad 5 a1.toNatClampNeg)) hx hb hts hinX4 hown hK hC hv1 (fun _ h9 => h9) rfl 0 (by decide) (hts (.fieldLink RX7 92 "FurPosts$Post" "stock" "[I") (by decide +kernel)) (fun _ h9 => h9) rfl dX7_give_63 ?_
        refine lv_iload_n hx hb dX7_give_66 rfl (lv_at hl 4 rfl) ?_
        refine ci_ald 5 a1.toNatClampNeg hx hb hK hC hv1 (by decide) (w := a3) ((hg3 h_4).2) dX7_give_67 ?_
        refine lv_topi (fun v12 (e12 : v12 = G11 2 (6 * a1.toNatClampNeg + a3.toNatClampNeg)) => ?_)
        have hq13 : sX_give n G a1 a2 a3 a4 = (v12, G11) := by subst e12 e11 e10 e9 e8 e6 e3; exact (if_neg h_1).trans ((if_neg h_4).trans (if_pos h_7))
        exact W.iret (v := v12) hx hb hr (fun t9 ht hW => ⟨⟨v12, G11, rfl, hq13.symm, by show cp_ (dC, dI) cI cy h0 q A ad rl L n G11 t9.heap; rw [ht]; exact hC⟩, hS.F ht⟩) hS.2.2 dX7_give_68
      · skip
        refine lv_iconst (v := (-1)) hx hb dX7_give_34 (by decide) ?_
        have hq14 : sX_give n G a1 a2 a3 a4 = ((-1), G) := by subst e6 e3; exact (if_neg h_1).trans ((if_neg h_4).trans (if_neg h_7))
        exact W.iret (v := (-1)) hx hb hr (fun t9 ht hW => ⟨⟨(-1), G, rfl, hq14.symm, by show cp_ (dC, dI) cI cy h0 q A ad rl L n G t9.heap; rw [ht]; exact hC⟩, hS.F ht⟩) hS.2.2 dX7_give_35

set_option maxHeartbeats 8000000 in
set_option maxRecDepth 100000 in
theorem m_X7_spoil (l : Launch) (dC : Nat → ClassId) (dI : Nat → Nat → Nat) (h0 : Nat) (q : Nat → Nat) (cI : ClassId) (cy : Nat → ClassId) (A : Nat → Prop) (ad : Nat → Nat → Nat) (rl : Nat → Nat × Nat) (L : List Nat) (n : Nat → Nat) (G : Nat → Nat → Int32) (hN : nb_ n) (a1 : Int32) (a2 : Int32) (a3 : Int32) : Met l yX7_spoil wsX7_spoil ({ frames := 1, cells := 0, slots := 0, locals := 22 }) (va_Pc [.ref h0, .int a1, .int a2, .int a3] (ct_P (dC, dI) cI cy h0 q A ad rl L n G)) (va_Qi (fun r (u : Nat → Nat → Int32) => (r, u) = sX_spoil n G a1 a2 a3) (fun u s' => cp_ (dC, dI) cI cy h0 q A ad rl L n u s'.heap) A) 0 0 A := by
  refine Met.ofW (cc := cX7_spoil) (maxL := 5) (ret := (some .boolean)) (by decide) rfl ?_
  intro p e s m args below meth c s₁ B hml hv
  obtain ⟨rfl, hC, hK, hW0⟩ := hv
  have hx := B.exec
  have hb := B.bytes
  have hr := B.returns
  have hts := atoms_spec (ws := wsX7_spoil) B.pre
  have hown : s.vm.findClass RX7 = some m.cls := findClass_of_methodNamed B.named
  have hlocks := B.notSynchronized
  have hinX0 : ∀ w ∈ u_ws RX0 TX0 11, w ∈ wsX7_spoil := by decide +kernel
  have hinX7 : ∀ w ∈ u_ws RX7 TX7 14, w ∈ wsX7_spoil := by decide +kernel
  have hS : va_S A s.heap s.heap [] := va_S.rf
  have hl := lv_entry ([.ref h0, .int a1, .int a2, .int a3]) (n := 5) (Nat.le_of_ble_eq_true rfl)
  rw [lg_entry_eq]
  generalize (lg_sl ([.ref h0, .int a1, .int a2, .int a3]) ++ List.replicate (5 - (lg_sl ([.ref h0, .int a1, .int a2, .int a3])).length) Slot.unset).toArray = ls at hl ⊢
  have hl : lv_has ls 5 [(0, .ref h0), (1, .int a1), (2, .int a2), (3, .int a3)] := hl
  obtain ⟨H, hH, hC, hS⟩ : ∃ H, H = s.heap ∧ cp_ (dC, dI) cI cy h0 q A ad rl L n G H ∧ va_S A s.heap H [] := ⟨_, rfl, hC, hS⟩
  rw [← hH]
  generalize ([] : List Loc) = locs at hS ⊢
  refine lv_aload_n hx hb dX7_spoil_0 rfl (lv_at hl 0 rfl) ?_
  refine lv_iload_n hx hb dX7_spoil_1 rfl (lv_at hl 1 rfl) ?_
  refine pu_call (va_runV (As := [.int a1]) (rest := []) ⟨hx, hb, hml, hown, hts⟩ (k_X7_canoeAt l dC dI h0 q cI cy A ad rl L n G hN a1) (cwV 1 hts gX7_spoil_X7_canoeAt rfl rfl rfl (by decide +kernel) ⟨Nat.le_of_ble_eq_true rfl, Nat.le_of_ble_eq_true rfl⟩) (ct_pre hC hK hW0) rfl rfl hl.1 rfl (lv_room (Nat.le_of_ble_eq_true rfl)) dX7_spoil_2 ⟨Nat.le_of_ble_eq_true rfl, Nat.le_of_ble_eq_true rfl⟩) ?_
  by_cases h_1 : (sp_in a1 0 ((nI (n 3)) - 1)) = 0
  · rw [if_pos h_1]
    refine lv_astoreN (lv' := [(4, .null), (0, .ref h0), (1, .int a1), (2, .int a2), (3, .int a3)]) hx hb dX7_spoil_5 hl (by decide) rfl (fun ls hl => ?_)
    refine lv_aloadN hx hb dX7_spoil_7 (lv_at hl 0 rfl) ?_
    refine lv_ifnullN (tgt := 42) hx hb dX7_spoil_9 (by decide) ?_
    refine lv_iconst (v := 0) hx hb dX7_spoil_42 (by decide) ?_
    have hq2 : sX_spoil n G a1 a2 a3 = (0, G) := by exact (if_pos h_1)
    exact W.zret (v := 0) hx hb hr rfl (fun t9 ht hW => ⟨⟨0, G, rfl, hq2.symm, by show cp_ (dC, dI) cI cy h0 q A ad rl L n G t9.heap; rw [ht]; exact hC⟩, hS.F ht⟩) hS.2.2 dX7_spoil_43
  · rw [if_neg h_1]
    have hv1 := sp_live h_1 (by omega)
    refine lv_astore (lv' := [(4, .ref (ad 3 a1.toNatClampNeg)), (0, .ref h0), (1, .int a1), (2, .int a2), (3, .int a3)]) hx hb dX7_spoil_5 hl (by decide) rfl (fun ls hl => ?_)
    refine lv_aload hx hb dX7_spoil_7 (lv_at hl 0 rfl) ?_
    refine lv_ifnull hx hb dX7_spoil_9 ?_
    refine lv_aload hx hb dX7_spoil_12 (lv_at hl 0 rfl) ?_
    refine co_get 3 a1.toNatClampNeg (C := RX0) (T := TX0) (N := 11) (ci := 0) (v := .int (G 18 a1.toNatClampNeg)) hx hb hts hinX0 hown hK hC hv1 (fun _ h9 => h9) rfl 9 (by decide) (hts (.fieldLink RX7 142 "FurPosts$Canoe" "state" "I") (by decide +kernel)) (fun _ h9 => h9) rfl dX7_spoil_14 ?_
    refine lv_topi (fun v3 (e3 : v3 = G 18 a1.toNatClampNeg) => ?_)
    refine lv_if_ne (tgt := 42) hx hb dX7_spoil_17 (by decide) (fun h_4 => ?_) (fun h_4 => ?_)
    · skip
      refine lv_iconst (v := 0) hx hb dX7_spoil_42 (by decide) ?_
      have hq5 : sX_spoil n G a1 a2 a3 = (0, G) := by subst e3; exact (if_neg h_1).trans (if_neg h_4)
      exact W.zret (v := 0) hx hb hr rfl (fun t9 ht hW => ⟨⟨0, G, rfl, hq5.symm, by show cp_ (dC, dI) cI cy h0 q A ad rl L n G t9.heap; rw [ht]; exact hC⟩, hS.F ht⟩) hS.2.2 dX7_spoil_43
    · skip
      refine lv_iload_n hx hb dX7_spoil_20 rfl (lv_at hl 3 rfl) ?_
      refine pu_call (va_runS (As := [.int a2]) (rest := []) ⟨hx, hb, hml, hown, hts⟩ (c_X7_isWare l a2) (va_cwS 1 hts gX7_spoil_X7_isWare rfl rfl rfl (by decide +kernel) ⟨Nat.le_of_ble_eq_true rfl, Nat.le_of_ble_eq_true rfl⟩) pu_preS rfl rfl hl.1 rfl (lv_room (Nat.le_of_ble_eq_true rfl)) dX7_spoil_21 ⟨Nat.le_of_ble_eq_true rfl, Nat.le_of_ble_eq_true rfl⟩) ?_
      refine lv_if_eq (tgt := 42) hx hb dX7_spoil_24 (by decide) (fun h_6 => ?_) (fun h_6 => ?_)
      · skip
        refine lv_iconst (v := 0) hx hb dX7_spoil_42 (by decide) ?_
        have hq7 : sX_spoil n G a1 a2 a3 = (0, G) := by subst e3; exact (if_neg h_1).trans ((if_pos h_4).trans (if_pos h_6))
        exact W.zret (v := 0) hx hb hr rfl (fun t9 ht hW => ⟨⟨0, G, rfl, hq7.symm, by show cp_ (dC, dI) cI cy h0 q A ad rl L n G t9.heap; rw [ht]; exact hC⟩, hS.F ht⟩) hS.2.2 dX7_spoil_43
      · skip
        refine lv_iload_n hx hb dX7_spoil_27 rfl (lv_at hl 4 rfl) ?_
        refine lv_iconst (v := 1) hx hb dX7_spoil_28 (by decide) ?_
        refine lv_aload hx hb dX7_spoil_29 (lv_at hl 0 rfl) ?_
        refine co_get 3 a1.toNatClampNeg (C := RX0) (T := TX0) (N := 11) (ci := 0) (v := .ref (ad 10 a1.toNatClampNeg)) hx hb hts hinX0 hown hK hC hv1 (fun _ h9 => h9) rfl 5 (by decide) (hts (.fieldLink RX7 148 "FurPosts$Canoe" "wares" "[I") (by decide +kernel)) (fun _ h9 => h9) rfl dX7_spoil_31 ?_
        refine lv_iload_n hx hb dX7_spoil_34 rfl (lv_at hl 3 rfl) ?_
        refine ci_ald 10 a1.toNatClampNeg hx hb hK hC hv1 (by decide) (w := a2) (sp_vp h_6 rfl) dX7_spoil_35 ?_
        refine lv_topi (fun v8 (e8 : v8 = G 22 (6 * a1.toNatClampNeg + a2.toNatClampNeg)) => ?_)
        refine pu_call (va_runS (As := [.int a3, .int 1, .int v8]) (rest := []) ⟨hx, hb, hml, hown, hts⟩ (c_X7_isWithin l a3 1 v8) (va_cwS 3 hts gX7_spoil_X7_isWithin rfl rfl rfl (by decide +kernel) ⟨Nat.le_of_ble_eq_true rfl, Nat.le_of_ble_eq_true rfl⟩) pu_preS rfl rfl hl.1 rfl (lv_room (Nat.le_of_ble_eq_true rfl)) dX7_spoil_36 ⟨Nat.le_of_ble_eq_true rfl, Nat.le_of_ble_eq_true rfl⟩) ?_
        refine lv_if_ne (tgt := 44) hx hb dX7_spoil_39 (by decide) (fun h_9 => ?_) (fun h_9 => ?_)
        · skip
          refine lv_aload hx hb dX7_spoil_44 (lv_at hl 0 rfl) ?_
          refine co_get 3 a1.toNatClampNeg (C := RX0) (T := TX0) (N := 11) (ci := 0) (v := .ref (ad 10 a1.toNatClampNeg)) hx hb hts hinX0 hown hK hC hv1 (fun _ h9 => h9) rfl 5 (by decide) (hts (.fieldLink RX7 148 "FurPosts$Canoe" "wares" "[I") (by decide +kernel)) (fun _ h9 => h9) rfl dX7_spoil_46 ?_
          refine lv_iload_n hx hb dX7_spoil_49 rfl (lv_at hl 3 rfl) ?_
          refine lv_dup2_11 hx hb dX7_spoil_50 rfl rfl ?_
          refine ci_ald 10 a1.toNatClampNeg hx hb hK hC hv1 (by decide) (w := a2) (sp_vp h_6 rfl) dX7_spoil_51 ?_
          refine lv_topi (fun v10 (e10 : v10 = G 22 (6 * a1.toNatClampNeg + a2.toNatClampNeg)) => ?_)
          refine lv_iload_n hx hb dX7_spoil_52 rfl (lv_at hl 4 rfl) ?_
          refine lv_isub hx hb dX7_spoil_53 ?_
          refine ci_ast 10 a1.toNatClampNeg hx hb hK hC hS hv1 (by decide) (w := a2) (x := (v10 - a3)) (sp_vp h_6 rfl) dX7_spoil_54 (fun H locs hC hS => ?_)
          obtain ⟨G11, e11, hC⟩ : ∃ G11 : Nat → Nat → Int32, G11 = up2 G 22 (6 * a1.toNatClampNeg + a2.toNatClampNeg) (v10 - a3) ∧ cp_ (dC, dI) cI cy h0 q A ad rl L n G11 H := ⟨_, rfl, hC⟩
          refine lv_aload hx hb dX7_spoil_55 (lv_at hl 0 rfl) ?_
          refine lv_iconst (v := 1) hx hb dX7_spoil_57 (by decide) ?_
          refine cc_put24 a1.toNatClampNeg hx hb hts hinX0 hown hK hC hS hv1 (v := 1) rfl rfl (hts (.fieldLink RX7 155 "FurPosts$Canoe" "spoilt" "Z") (by decide +kernel)) dX7_spoil_58 (fun H locs hC hS => ?_)
          obtain ⟨G12, e12, hC⟩ : ∃ G12 : Nat → Nat → Int32, G12 = up2 G11 24 a1.toNatClampNeg 1 ∧ cp_ (dC, dI) cI cy h0 q A ad rl L n G12 H := ⟨_, rfl, hC⟩
          refine lv_aload_n hx hb dX7_spoil_61 rfl (lv_at hl 1 rfl) ?_
          refine cx_get hx hb hts hinX7 hown hK hC 6 (by decide) (v := .ref (q 7)) rfl (hts (.fieldLink RX7 41 "FurPosts" "tallies" "[[I") (by decide +kernel)) dX7_spoil_62 ?_
          refine lv_iload_n hx hb dX7_spoil_65 rfl (lv_at hl 3 rfl) ?_
          refine cr_ald27 hx hb hK hC (w := a2) (sp_vp h_6 rfl) dX7_spoil_66 ?_
          refine lv_iconst (v := 5) hx hb dX7_spoil_67 (by decide) ?_
          refine lv_dup2_11 hx hb dX7_spoil_68 rfl rfl ?_
          refine ci_ald 14 a2.toNatClampNeg hx hb hK hC (vp_lt (sp_vp h_6 rfl)) (by decide) (w := 5) (by unfold vp_in; decide) dX7_spoil_69 ?_
          refine lv_topi (fun v13 (e13 : v13 = G12 34 (6 * (5 : Int32).toNatClampNeg + a2.toNatClampNeg)) => ?_)
          rw [(show (5 : Int32).toNatClampNeg = 5 from by decide)] at e13
          refine lv_iload_n hx hb dX7_spoil_70 rfl (lv_at hl 4 rfl) ?_
          refine lv_iadd hx hb dX7_spoil_71 ?_
          refine ci_ast 14 a2.toNatClampNeg hx hb hK hC hS (vp_lt (sp_vp h_6 rfl)) (by decide) (w := 5) (x := (v13 + a3)) (by unfold vp_in; decide) dX7_spoil_72 (fun H locs hC hS => ?_)
          obtain ⟨G14, e14, hC⟩ : ∃ G14 : Nat → Nat → Int32, G14 = up2 G12 34 (6 * (5 : Int32).toNatClampNeg + a2.toNatClampNeg) (v13 + a3) ∧ cp_ (dC, dI) cI cy h0 q A ad rl L n G14 H := ⟨_, rfl, hC⟩
          rw [(show (5 : Int32).toNatClampNeg = 5 from by decide)] at e14
          refine lv_iconst (v := 1) hx hb dX7_spoil_73 (by decide) ?_
          have hq15 : sX_spoil n G a1 a2 a3 = (1, G14) := by subst e14 e13 e12 e11 e10 e8 e3; exact (if_neg h_1).trans ((if_pos h_4).trans ((if_neg h_6).trans (if_neg h_9)))
          exact W.zret (v := 1) hx hb hr rfl (fun t9 ht hW => ⟨⟨1, G14, rfl, hq15.symm, by show cp_ (dC, dI) cI cy h0 q A ad rl L n G14 t9.heap; rw [ht]; exact hC⟩, hS.F ht⟩) hS.2.2 dX7_spoil_74
        · skip
          refine lv_iconst (v := 0) hx hb dX7_spoil_42 (by decide) ?_
          have hq16 : sX_spoil n G a1 a2 a3 = (0, G) := by subst e8 e3; exact (if_neg h_1).trans ((if_pos h_4).trans ((if_neg h_6).trans (if_pos h_9)))
          exact W.zret (v := 0) hx hb hr rfl (fun t9 ht hW => ⟨⟨0, G, rfl, hq16.symm, by show cp_ (dC, dI) cI cy h0 q A ad rl L n G t9.heap; rw [ht]; exact hC⟩, hS.F ht⟩) hS.2.2 dX7_spoil_43

set_option maxHeartbeats 8000000 in
set_option maxRecDepth 100000 in
theorem m_X7_load (l : Launch) (dC : Nat → ClassId) (dI : Nat → Nat → Nat) (h0 : Nat) (q : Nat → Nat) (cI : ClassId) (cy : Nat → ClassId) (A : Nat → Prop) (ad : Nat → Nat → Nat) (rl : Nat → Nat × Nat) (L : List Nat) (n : Nat → Nat) (G : Nat → Nat → Int32) (hN : nb_ n) (a1 : Int32) (a2 : Int32) : Met l yX7_load wsX7_load ({ frames := 1, cells := 0, slots := 0, locals := 22 }) (va_Pc [.ref h0, .int a1, .int a2] (ct_P (dC, dI) cI cy h0 q A ad rl L n G)) (va_Qi (fun r (u : Nat → Nat → Int32) => (r, u) = sX_load n G a1 a2) (fun u s' => cp_ (dC, dI) cI cy h0 q A ad rl L n u s'.heap) A) 0 0 A := by
  refine Met.ofW (cc := cX7_load) (maxL := 3) (ret := (some .boolean)) (by decide) rfl ?_
  intro p e s m args below meth c s₁ B hml hv
  obtain ⟨rfl, hC, hK, hW0⟩ := hv
  have hx := B.exec
  have hb := B.bytes
  have hr := B.returns
  have hts := atoms_spec (ws := wsX7_load) B.pre
  have hown : s.vm.findClass RX7 = some m.cls := findClass_of_methodNamed B.named
  have hlocks := B.notSynchronized
  have hinX7 : ∀ w ∈ u_ws RX7 TX7 14, w ∈ wsX7_load := by decide +kernel
  have hS : va_S A s.heap s.heap [] := va_S.rf
  have hl := lv_entry ([.ref h0, .int a1, .int a2]) (n := 3) (Nat.le_of_ble_eq_true rfl)
  rw [lg_entry_eq]
  generalize (lg_sl ([.ref h0, .int a1, .int a2]) ++ List.replicate (3 - (lg_sl ([.ref h0, .int a1, .int a2])).length) Slot.unset).toArray = ls at hl ⊢
  have hl : lv_has ls 3 [(0, .ref h0), (1, .int a1), (2, .int a2)] := hl
  obtain ⟨H, hH, hC, hS⟩ : ∃ H, H = s.heap ∧ cp_ (dC, dI) cI cy h0 q A ad rl L n G H ∧ va_S A s.heap H [] := ⟨_, rfl, hC, hS⟩
  rw [← hH]
  generalize ([] : List Loc) = locs at hS ⊢
  refine lv_iload_n hx hb dX7_load_0 rfl (lv_at hl 1 rfl) ?_
  refine pu_call (va_runS (As := [.int a1]) (rest := []) ⟨hx, hb, hml, hown, hts⟩ (c_X7_isWare l a1) (va_cwS 1 hts gX7_load_X7_isWare rfl rfl rfl (by decide +kernel) ⟨Nat.le_of_ble_eq_true rfl, Nat.le_of_ble_eq_true rfl⟩) pu_preS rfl rfl hl.1 rfl (lv_room (Nat.le_of_ble_eq_true rfl)) dX7_load_1 ⟨Nat.le_of_ble_eq_true rfl, Nat.le_of_ble_eq_true rfl⟩) ?_
  refine lv_if_eq (tgt := 18) hx hb dX7_load_4 (by decide) (fun h_1 => ?_) (fun h_1 => ?_)
  · skip
    refine lv_iconst (v := 0) hx hb dX7_load_18 (by decide) ?_
    have hq2 : sX_load n G a1 a2 = (0, G) := by exact (if_pos h_1)
    exact W.zret (v := 0) hx hb hr rfl (fun t9 ht hW => ⟨⟨0, G, rfl, hq2.symm, by show cp_ (dC, dI) cI cy h0 q A ad rl L n G t9.heap; rw [ht]; exact hC⟩, hS.F ht⟩) hS.2.2 dX7_load_19
  · skip
    refine lv_iload_n hx hb dX7_load_7 rfl (lv_at hl 2 rfl) ?_
    refine lv_iconst (v := 0) hx hb dX7_load_8 (by decide) ?_
    refine lv_sipush (v := 500) hx hb dX7_load_9 (by decide) ?_
    refine pu_call (va_runS (As := [.int a2, .int 0, .int 500]) (rest := []) ⟨hx, hb, hml, hown, hts⟩ (c_X7_isWithin l a2 0 500) (va_cwS 3 hts gX7_load_X7_isWithin rfl rfl rfl (by decide +kernel) ⟨Nat.le_of_ble_eq_true rfl, Nat.le_of_ble_eq_true rfl⟩) pu_preS rfl rfl hl.1 rfl (lv_room (Nat.le_of_ble_eq_true rfl)) dX7_load_12 ⟨Nat.le_of_ble_eq_true rfl, Nat.le_of_ble_eq_true rfl⟩) ?_
    refine lv_if_ne (tgt := 20) hx hb dX7_load_15 (by decide) (fun h_3 => ?_) (fun h_3 => ?_)
    · skip
      refine lv_aload_n hx hb dX7_load_20 rfl (lv_at hl 0 rfl) ?_
      refine cx_get hx hb hts hinX7 hown hK hC 7 (by decide) (v := .ref (q 8)) rfl (hts (.fieldLink RX7 44 "FurPosts" "loaded" "[I") (by decide +kernel)) dX7_load_21 ?_
      refine lv_iload_n hx hb dX7_load_24 rfl (lv_at hl 1 rfl) ?_
      refine lv_iload_n hx hb dX7_load_25 rfl (lv_at hl 2 rfl) ?_
      rw [show q 8 = ad 28 0 from cp_q8 hC]
      refine ci_ast 28 0 hx hb hK hC hS rfl (by decide) (w := a1) (x := a2) (sp_vp h_1 rfl) dX7_load_26 (fun H locs hC hS => ?_)
      obtain ⟨G4, e4, hC⟩ : ∃ G4 : Nat → Nat → Int32, G4 = up2 G 12 (a1.toNatClampNeg) a2 ∧ cp_ (dC, dI) cI cy h0 q A ad rl L n G4 H := ⟨_, rfl, hC⟩
      refine lv_iconst (v := 1) hx hb dX7_load_27 (by decide) ?_
      have hq5 : sX_load n G a1 a2 = (1, G4) := by subst e4; exact (if_neg h_1).trans (if_neg h_3)
      exact W.zret (v := 1) hx hb hr rfl (fun t9 ht hW => ⟨⟨1, G4, rfl, hq5.symm, by show cp_ (dC, dI) cI cy h0 q A ad rl L n G4 t9.heap; rw [ht]; exact hC⟩, hS.F ht⟩) hS.2.2 dX7_load_28
    · skip
      refine lv_iconst (v := 0) hx hb dX7_load_18 (by decide) ?_
      have hq6 : sX_load n G a1 a2 = (0, G) := by exact (if_neg h_1).trans (if_pos h_3)
      exact W.zret (v := 0) hx hb hr rfl (fun t9 ht hW => ⟨⟨0, G, rfl, hq6.symm, by show cp_ (dC, dI) cI cy h0 q A ad rl L n G t9.heap; rw [ht]; exact hC⟩, hS.F ht⟩) hS.2.2 dX7_load_19

set_option maxHeartbeats 8000000 in
set_option maxRecDepth 100000 in
theorem m_X7_want (l : Launch) (dC : Nat → ClassId) (dI : Nat → Nat → Nat) (h0 : Nat) (q : Nat → Nat) (cI : ClassId) (cy : Nat → ClassId) (A : Nat → Prop) (ad : Nat → Nat → Nat) (rl : Nat → Nat × Nat) (L : List Nat) (n : Nat → Nat) (G : Nat → Nat → Int32) (hN : nb_ n) (a1 : Int32) (a2 : Int32) (a3 : Int32) : Met l yX7_want wsX7_want ({ frames := 1, cells := 0, slots := 0, locals := 22 }) (va_Pc [.ref h0, .int a1, .int a2, .int a3] (ct_P (dC, dI) cI cy h0 q A ad rl L n G)) (va_Qi (fun r (u : Nat → Nat → Int32) => (r, u) = sX_want n G a1 a2 a3) (fun u s' => cp_ (dC, dI) cI cy h0 q A ad rl L n u s'.heap) A) 0 0 A := by
  refine Met.ofW (cc := cX7_want) (maxL := 4) (ret := (some .boolean)) (by decide) rfl ?_
  intro p e s m args below meth c s₁ B hml hv
  obtain ⟨rfl, hC, hK, hW0⟩ := hv
  have hx := B.exec
  have hb := B.bytes
  have hr := B.returns
  have hts := atoms_spec (ws := wsX7_want) B.pre
  have hown : s.vm.findClass RX7 = some m.cls := findClass_of_methodNamed B.named
  have hlocks := B.notSynchronized
  have hinX7 : ∀ w ∈ u_ws RX7 TX7 14, w ∈ wsX7_want := by decide +kernel
  have hS : va_S A s.heap s.heap [] := va_S.rf
  have hl := lv_entry ([.ref h0, .int a1, .int a2, .int a3]) (n := 4) (Nat.le_of_ble_eq_true rfl)
  rw [lg_entry_eq]
  generalize (lg_sl ([.ref h0, .int a1, .int a2, .int a3]) ++ List.replicate (4 - (lg_sl ([.ref h0, .int a1, .int a2, .int a3])).length) Slot.unset).toArray = ls at hl ⊢
  have hl : lv_has ls 4 [(0, .ref h0), (1, .int a1), (2, .int a2), (3, .int a3)] := hl
  obtain ⟨H, hH, hC, hS⟩ : ∃ H, H = s.heap ∧ cp_ (dC, dI) cI cy h0 q A ad rl L n G H ∧ va_S A s.heap H [] := ⟨_, rfl, hC, hS⟩
  rw [← hH]
  generalize ([] : List Loc) = locs at hS ⊢
  refine lv_iload_n hx hb dX7_want_0 rfl (lv_at hl 1 rfl) ?_
  refine pu_call (va_runS (As := [.int a1]) (rest := []) ⟨hx, hb, hml, hown, hts⟩ (c_X7_isWare l a1) (va_cwS 1 hts gX7_want_X7_isWare rfl rfl rfl (by decide +kernel) ⟨Nat.le_of_ble_eq_true rfl, Nat.le_of_ble_eq_true rfl⟩) pu_preS rfl rfl hl.1 rfl (lv_room (Nat.le_of_ble_eq_true rfl)) dX7_want_1 ⟨Nat.le_of_ble_eq_true rfl, Nat.le_of_ble_eq_true rfl⟩) ?_
  refine lv_if_eq (tgt := 28) hx hb dX7_want_4 (by decide) (fun h_1 => ?_) (fun h_1 => ?_)
  · skip
    refine lv_iconst (v := 0) hx hb dX7_want_28 (by decide) ?_
    have hq2 : sX_want n G a1 a2 a3 = (0, G) := by exact (if_pos h_1)
    exact W.zret (v := 0) hx hb hr rfl (fun t9 ht hW => ⟨⟨0, G, rfl, hq2.symm, by show cp_ (dC, dI) cI cy h0 q A ad rl L n G t9.heap; rw [ht]; exact hC⟩, hS.F ht⟩) hS.2.2 dX7_want_29
  · skip
    refine lv_iload_n hx hb dX7_want_7 rfl (lv_at hl 2 rfl) ?_
    refine lv_iconst (v := 0) hx hb dX7_want_8 (by decide) ?_
    refine lv_bipush (v := 20) hx hb dX7_want_9 (by decide) ?_
    refine pu_call (va_runS (As := [.int a2, .int 0, .int 20]) (rest := []) ⟨hx, hb, hml, hown, hts⟩ (c_X7_isWithin l a2 0 20) (va_cwS 3 hts gX7_want_X7_isWithin rfl rfl rfl (by decide +kernel) ⟨Nat.le_of_ble_eq_true rfl, Nat.le_of_ble_eq_true rfl⟩) pu_preS rfl rfl hl.1 rfl (lv_room (Nat.le_of_ble_eq_true rfl)) dX7_want_11 ⟨Nat.le_of_ble_eq_true rfl, Nat.le_of_ble_eq_true rfl⟩) ?_
    refine lv_if_eq (tgt := 28) hx hb dX7_want_14 (by decide) (fun h_3 => ?_) (fun h_3 => ?_)
    · skip
      refine lv_iconst (v := 0) hx hb dX7_want_28 (by decide) ?_
      have hq4 : sX_want n G a1 a2 a3 = (0, G) := by exact (if_neg h_1).trans (if_pos h_3)
      exact W.zret (v := 0) hx hb hr rfl (fun t9 ht hW => ⟨⟨0, G, rfl, hq4.symm, by show cp_ (dC, dI) cI cy h0 q A ad rl L n G t9.heap; rw [ht]; exact hC⟩, hS.F ht⟩) hS.2.2 dX7_want_29
    · skip
      refine lv_iload_n hx hb dX7_want_17 rfl (lv_at hl 3 rfl) ?_
      refine lv_iconst (v := 0) hx hb dX7_want_18 (by decide) ?_
      refine lv_sipush (v := 1000) hx hb dX7_want_19 (by decide) ?_
      refine pu_call (va_runS (As := [.int a3, .int 0, .int 1000]) (rest := []) ⟨hx, hb, hml, hown, hts⟩ (c_X7_isWithin l a3 0 1000) (va_cwS 3 hts gX7_want_X7_isWithin rfl rfl rfl (by decide +kernel) ⟨Nat.le_of_ble_eq_true rfl, Nat.le_of_ble_eq_true rfl⟩) pu_preS rfl rfl hl.1 rfl (lv_room (Nat.le_of_ble_eq_true rfl)) dX7_want_22 ⟨Nat.le_of_ble_eq_true rfl, Nat.le_of_ble_eq_true rfl⟩) ?_
      refine lv_if_ne (tgt := 30) hx hb dX7_want_25 (by decide) (fun h_5 => ?_) (fun h_5 => ?_)
      · skip
        refine lv_aload_n hx hb dX7_want_30 rfl (lv_at hl 0 rfl) ?_
        refine cx_get hx hb hts hinX7 hown hK hC 5 (by decide) (v := .ref (q 6)) rfl (hts (.fieldLink RX7 38 "FurPosts" "wants" "[[I") (by decide +kernel)) dX7_want_31 ?_
        refine lv_iload_n hx hb dX7_want_34 rfl (lv_at hl 1 rfl) ?_
        refine cr_ald26 hx hb hK hC (w := a1) (sp_vp h_1 rfl) dX7_want_35 ?_
        refine lv_iload_n hx hb dX7_want_36 rfl (lv_at hl 2 rfl) ?_
        refine lv_iload_n hx hb dX7_want_37 rfl (lv_at hl 3 rfl) ?_
        refine ci_ast 13 a1.toNatClampNeg hx hb hK hC hS (vp_lt (sp_vp h_1 rfl)) (by decide) (w := a2) (x := a3) (sp_vp h_3 rfl) dX7_want_38 (fun H locs hC hS => ?_)
        obtain ⟨G6, e6, hC⟩ : ∃ G6 : Nat → Nat → Int32, G6 = up2 G 33 (21 * a1.toNatClampNeg + a2.toNatClampNeg) a3 ∧ cp_ (dC, dI) cI cy h0 q A ad rl L n G6 H := ⟨_, rfl, hC⟩
        refine lv_iconst (v := 1) hx hb dX7_want_39 (by decide) ?_
        have hq7 : sX_want n G a1 a2 a3 = (1, G6) := by subst e6; exact (if_neg h_1).trans ((if_neg h_3).trans (if_neg h_5))
        exact W.zret (v := 1) hx hb hr rfl (fun t9 ht hW => ⟨⟨1, G6, rfl, hq7.symm, by show cp_ (dC, dI) cI cy h0 q A ad rl L n G6 t9.heap; rw [ht]; exact hC⟩, hS.F ht⟩) hS.2.2 dX7_want_40
      · skip
        refine lv_iconst (v := 0) hx hb dX7_want_28 (by decide) ?_
        have hq8 : sX_want n G a1 a2 a3 = (0, G) := by exact (if_neg h_1).trans ((if_neg h_3).trans (if_pos h_5))
        exact W.zret (v := 0) hx hb hr rfl (fun t9 ht hW => ⟨⟨0, G, rfl, hq8.symm, by show cp_ (dC, dI) cI cy h0 q A ad rl L n G t9.heap; rw [ht]; exact hC⟩, hS.F ht⟩) hS.2.2 dX7_want_29

set_option maxHeartbeats 8000000 in
set_option maxRecDepth 100000 in
theorem m_X7_shortenDistances (l : Launch) (dC : Nat → ClassId) (dI : Nat → Nat → Nat) (h0 : Nat) (q : Nat → Nat) (cI : ClassId) (cy : Nat → ClassId) (A : Nat → Prop) (ad : Nat → Nat → Nat) (rl : Nat → Nat × Nat) (L : List Nat) (n : Nat → Nat) (G : Nat → Nat → Int32) (hN : nb_ n) (a1 : Int32) (a2 : Int32) (hb0 : vp_in a1 8) (hb1 : vp_in a2 8) : Met l yX7_shortenDistances wsX7_shortenDistances ({ frames := 1, cells := 0, slots := 0, locals := 21 }) (va_Pc [.ref h0, .int a1, .int a2] (ct_P (dC, dI) cI cy h0 q A ad rl L n G)) (va_Qv (fun u : Nat → Nat → Int32 => u = sX_shortenDistances n G a1 a2) (fun u s' => cp_ (dC, dI) cI cy h0 q A ad rl L n u s'.heap) A) 0 0 A := by
  refine Met.ofW (cc := cX7_shortenDistances) (maxL := 7) (ret := none) (by decide) rfl ?_
  intro p e s m args below meth c s₁ B hml hv
  obtain ⟨rfl, hC, hK, hW0⟩ := hv
  have hx := B.exec
  have hb := B.bytes
  have hr := B.returns
  have hts := atoms_spec (ws := wsX7_shortenDistances) B.pre
  have hown : s.vm.findClass RX7 = some m.cls := findClass_of_methodNamed B.named
  have hlocks := B.notSynchronized
  have hinX7 : ∀ w ∈ u_ws RX7 TX7 14, w ∈ wsX7_shortenDistances := by decide +kernel
  have hS : va_S A s.heap s.heap [] := va_S.rf
  have hl := lv_entry ([.ref h0, .int a1, .int a2]) (n := 7) (Nat.le_of_ble_eq_true rfl)
  rw [lg_entry_eq]
  generalize (lg_sl ([.ref h0, .int a1, .int a2]) ++ List.replicate (7 - (lg_sl ([.ref h0, .int a1, .int a2])).length) Slot.unset).toArray = ls at hl ⊢
  have hl : lv_has ls 7 [(0, .ref h0), (1, .int a1), (2, .int a2)] := hl
  obtain ⟨H, hH, hC, hS⟩ : ∃ H, H = s.heap ∧ cp_ (dC, dI) cI cy h0 q A ad rl L n G H ∧ va_S A s.heap H [] := ⟨_, rfl, hC, hS⟩
  rw [← hH]
  generalize ([] : List Loc) = locs at hS ⊢
  refine lv_iconst (v := 0) hx hb dX7_shortenDistances_0 (by decide) ?_
  refine lv_istore_n (lv' := [(3, .int 0), (0, .ref h0), (1, .int a1), (2, .int a2)]) hx hb dX7_shortenDistances_1 rfl hl (by decide) rfl (fun ls hl => ?_)
  have key2 : ∀ (k jL2 : Nat) (GL2 : Nat → Nat → Int32) (H : Heap) (locs : List Loc) (ls : Array Slot), jL2 + k = 8 → cp_ (dC, dI) cI cy h0 q A ad rl L n GL2 H → va_S A s.heap H locs → lv_has ls 7 [(3, .int (nI jL2)), (0, .ref h0), (1, .int a1), (2, .int a2)] → (∀ (H : Heap) (locs : List Loc) (ls : Array Slot), cp_ (dC, dI) cI cy h0 q A ad rl L n ((sX_shortenDistances_L2 a2 a1 k jL2 GL2)) H → va_S A s.heap H locs → lv_has ls 7 [(3, .int (nI 8)), (0, .ref h0), (1, .int a1), (2, .int a2)] → W p l e (headSpec wsX7_shortenDistances ({ frames := 1, cells := 0, slots := 0, locals := 21 })).room s m [.ref h0, .int a1, .int a2].toArray below meth c H locs 0 0 (MQ below (va_Qv (fun u : Nat → Nat → Int32 => u = sX_shortenDistances n G a1 a2) (fun u s' => cp_ (dC, dI) cI cy h0 q A ad rl L n u s'.heap) A) [.ref h0, .int a1, .int a2].toArray s 0 0 A) (F0 m 102 ls [])) → 
      W p l e (headSpec wsX7_shortenDistances ({ frames := 1, cells := 0, slots := 0, locals := 21 })).room s m [.ref h0, .int a1, .int a2].toArray below meth c H locs 0 0 (MQ below (va_Qv (fun u : Nat → Nat → Int32 => u = sX_shortenDistances n G a1 a2) (fun u s' => cp_ (dC, dI) cI cy h0 q A ad rl L n u s'.heap) A) [.ref h0, .int a1, .int a2].toArray s 0 0 A) (F0 m 2 ls []) := by
    intro k
    induction k with
    | zero =>
      intro jL2 GL2 H locs ls hj hC hS hl hex
      have hj : jL2 = 8 := by omega
      subst jL2
      refine lv_iload_n hx hb dX7_shortenDistances_2 rfl (lv_at hl 0 rfl) ?_
      refine lv_bipush (v := 8) hx hb dX7_shortenDistances_3 (by decide) ?_
      refine lv_icmp_ge (tgt := 102) hx hb dX7_shortenDistances_5 (by decide) (fun h_1 => ?_) (fun h_1 => absurd (lp_ge0 (B := 8) rfl) h_1)
      exact hex H locs ls hC hS (lv_sub hl [0, 1, 2, 3] rfl)
    | succ k ih2 =>
      intro jL2 GL2 H locs ls hj hC hS hl hex
      have hj2 : jL2 < 8 := by omega
      refine lv_iload_n hx hb dX7_shortenDistances_2 rfl (lv_at hl 0 rfl) ?_
      refine lv_bipush (v := 8) hx hb dX7_shortenDistances_3 (by decide) ?_
      refine lv_icmp_ge (tgt := 102) hx hb dX7_shortenDistances_5 (by decide) (fun h_2 => absurd h_2 (lp_ge (B := 8) (by omega) (by omega) rfl)) (fun h_2 => ?_)
      refine lv_iconst (v := 0) hx hb dX7_shortenDistances_8 (by decide) ?_
      refine lv_istore (lv' := [(4, .int 0), (3, .int (nI jL2)), (0, .ref h0), (1, .int a1), (2, .int a2)]) hx hb dX7_shortenDistances_9 hl (by decide) rfl (fun ls hl => ?_)
      have key11 : ∀ (k jL11 : Nat) (GL11 : Nat → Nat → Int32) (H : Heap) (locs : List Loc) (ls : Array Slot), jL11 + k = 8 → cp_ (dC, dI) cI cy h0 q A ad rl L n GL11 H → va_S A s.heap H locs → lv_has ls 7 [(4, .int (nI jL11)), (3, .int (nI jL2)), (0, .ref h0), (1, .int a1), (2, .int a2)] → (∀ (H : Heap) (locs : List Loc) (ls : Array Slot), cp_ (dC, dI) cI cy h0 q A ad rl L n ((sX_shortenDistances_L11 jL2 a2 a1 k jL11 GL11)) H → va_S A s.heap H locs → lv_has ls 7 [(4, .int (nI 8)), (3, .int (nI jL2)), (0, .ref h0), (1, .int a1), (2, .int a2)] → W p l e (headSpec wsX7_shortenDistances ({ frames := 1, cells := 0, slots := 0, locals := 21 })).room s m [.ref h0, .int a1, .int a2].toArray below meth c H locs 0 0 (MQ below (va_Qv (fun u : Nat → Nat → Int32 => u = sX_shortenDistances n G a1 a2) (fun u s' => cp_ (dC, dI) cI cy h0 q A ad rl L n u s'.heap) A) [.ref h0, .int a1, .int a2].toArray s 0 0 A) (F0 m 96 ls [])) → 
          W p l e (headSpec wsX7_shortenDistances ({ frames := 1, cells := 0, slots := 0, locals := 21 })).room s m [.ref h0, .int a1, .int a2].toArray below meth c H locs 0 0 (MQ below (va_Qv (fun u : Nat → Nat → Int32 => u = sX_shortenDistances n G a1 a2) (fun u s' => cp_ (dC, dI) cI cy h0 q A ad rl L n u s'.heap) A) [.ref h0, .int a1, .int a2].toArray s 0 0 A) (F0 m 11 ls []) := by
        intro k
        induction k with
        | zero =>
          intro jL11 GL11 H locs ls hj hC hS hl hex
          have hj : jL11 = 8 := by omega
          subst jL11
          refine lv_iload hx hb dX7_shortenDistances_11 (lv_at hl 0 rfl) ?_
          refine lv_bipush (v := 8) hx hb dX7_shortenDistances_13 (by decide) ?_
          refine lv_icmp_ge (tgt := 96) hx hb dX7_shortenDistances_15 (by decide) (fun h_3 => ?_) (fun h_3 => absurd (lp_ge0 (B := 8) rfl) h_3)
          exact hex H locs ls hC hS (lv_sub hl [0, 1, 2, 3, 4] rfl)
        | succ k ih11 =>
          intro jL11 GL11 H locs ls hj hC hS hl hex
          have hj11 : jL11 < 8 := by omega
          refine lv_iload hx hb dX7_shortenDistances_11 (lv_at hl 0 rfl) ?_
          refine lv_bipush (v := 8) hx hb dX7_shortenDistances_13 (by decide) ?_
          refine lv_icmp_ge (tgt := 96) hx hb dX7_shortenDistances_15 (by decide) (fun h_4 => absurd h_4 (lp_ge (B := 8) (by omega) (by omega) rfl)) (fun h_4 => ?_)
          refine lv_aload_n hx hb dX7_shortenDistances_18 rfl (lv_at hl 2 rfl) ?_
          refine cx_get hx hb hts hinX7 hown hK hC 4 (by decide) (v := .ref (q 5)) rfl (hts (.fieldLink RX7 35 "FurPosts" "distances" "[[I") (by decide +kernel)) dX7_shortenDistances_19 ?_
          refine lv_iload_n hx hb dX7_shortenDistances_22 rfl (lv_at hl 1 rfl) ?_
          refine cr_ald25 hx hb hK hC (w := (nI jL2)) (vp_in_nI (show jL2 < 8 by omega) (by decide)) dX7_shortenDistances_23 ?_
          rw [(show (nI jL2).toNatClampNeg = jL2 from nI_clamp (by omega))]
          refine lv_iload_n hx hb dX7_shortenDistances_24 rfl (lv_at hl 3 rfl) ?_
          refine ci_ald 12 jL2 hx hb hK hC (show jL2 < 8 by omega) (by decide) (w := a1) hb0 dX7_shortenDistances_25 ?_
          refine lv_topi (fun v5 (e5 : v5 = GL11 43 (8 * jL2 + a1.toNatClampNeg)) => ?_)
          refine lv_iconst (v := 1) hx hb dX7_shortenDistances_26 (by decide) ?_
          refine lv_iadd hx hb dX7_shortenDistances_27 ?_
          refine lv_aload_n hx hb dX7_shortenDistances_28 rfl (lv_at hl 2 rfl) ?_
          refine cx_get hx hb hts hinX7 hown hK hC 4 (by decide) (v := .ref (q 5)) rfl (hts (.fieldLink RX7 35 "FurPosts" "distances" "[[I") (by decide +kernel)) dX7_shortenDistances_29 ?_
          refine lv_iload_n hx hb dX7_shortenDistances_32 rfl (lv_at hl 4 rfl) ?_
          refine cr_ald25 hx hb hK hC (w := a2) hb1 dX7_shortenDistances_33 ?_
          refine lv_iload hx hb dX7_shortenDistances_34 (lv_at hl 0 rfl) ?_
          refine ci_ald 12 a2.toNatClampNeg hx hb hK hC (vp_lt hb1) (by decide) (w := (nI jL11)) (vp_in_nI (show jL11 < 8 by omega) (by decide)) dX7_shortenDistances_36 ?_
          refine lv_topi (fun v6 (e6 : v6 = GL11 43 (8 * a2.toNatClampNeg + (nI jL11).toNatClampNeg)) => ?_)
          rw [(show (nI jL11).toNatClampNeg = jL11 from nI_clamp (by omega))] at e6
          refine lv_iadd hx hb dX7_shortenDistances_37 ?_
          refine lv_istore (lv' := [(5, .int ((v5 + 1) + v6)), (4, .int (nI jL11)), (3, .int (nI jL2)), (0, .ref h0), (1, .int a1), (2, .int a2)]) hx hb dX7_shortenDistances_38 hl (by decide) rfl (fun ls hl => ?_)
          refine lv_aload_n hx hb dX7_shortenDistances_40 rfl (lv_at hl 3 rfl) ?_
          refine cx_get hx hb hts hinX7 hown hK hC 4 (by decide) (v := .ref (q 5)) rfl (hts (.fieldLink RX7 35 "FurPosts" "distances" "[[I") (by decide +kernel)) dX7_shortenDistances_41 ?_
          refine lv_iload_n hx hb dX7_shortenDistances_44 rfl (lv_at hl 2 rfl) ?_
          refine cr_ald25 hx hb hK hC (w := (nI jL2)) (vp_in_nI (show jL2 < 8 by omega) (by decide)) dX7_shortenDistances_45 ?_
          rw [(show (nI jL2).toNatClampNeg = jL2 from nI_clamp (by omega))]
          refine lv_iload_n hx hb dX7_shortenDistances_46 rfl (lv_at hl 5 rfl) ?_
          refine ci_ald 12 jL2 hx hb hK hC (show jL2 < 8 by omega) (by decide) (w := a2) hb1 dX7_shortenDistances_47 ?_
          refine lv_topi (fun v7 (e7 : v7 = GL11 43 (8 * jL2 + a2.toNatClampNeg)) => ?_)
          refine lv_iconst (v := 1) hx hb dX7_shortenDistances_48 (by decide) ?_
          refine lv_iadd hx hb dX7_shortenDistances_49 ?_
          refine lv_aload_n hx hb dX7_shortenDistances_50 rfl (lv_at hl 3 rfl) ?_
          refine cx_get hx hb hts hinX7 hown hK hC 4 (by decide) (v := .ref (q 5)) rfl (hts (.fieldLink RX7 35 "FurPosts" "distances" "[[I") (by decide +kernel)) dX7_shortenDistances_51 ?_
          refine lv_iload_n hx hb dX7_shortenDistances_54 rfl (lv_at hl 4 rfl) ?_
          refine cr_ald25 hx hb hK hC (w := a1) hb0 dX7_shortenDistances_55 ?_
          refine lv_iload hx hb dX7_shortenDistances_56 (lv_at hl 1 rfl) ?_
          refine ci_ald 12 a1.toNatClampNeg hx hb hK hC (vp_lt hb0) (by decide) (w := (nI jL11)) (vp_in_nI (show jL11 < 8 by omega) (by decide)) dX7_shortenDistances_58 ?_
          refine lv_topi (fun v8 (e8 : v8 = GL11 43 (8 * a1.toNatClampNeg + (nI jL11).toNatClampNeg)) => ?_)
          rw [(show (nI jL11).toNatClampNeg = jL11 from nI_clamp (by omega))] at e8
          refine lv_iadd hx hb dX7_shortenDistances_59 ?_
          refine lv_istore (lv' := [(6, .int ((v7 + 1) + v8)), (5, .int ((v5 + 1) + v6)), (4, .int (nI jL11)), (3, .int (nI jL2)), (0, .ref h0), (1, .int a1), (2, .int a2)]) hx hb dX7_shortenDistances_60 hl (by decide) rfl (fun ls hl => ?_)
          refine lv_aload_n hx hb dX7_shortenDistances_62 rfl (lv_at hl 4 rfl) ?_
          refine cx_get hx hb hts hinX7 hown hK hC 4 (by decide) (v := .ref (q 5)) rfl (hts (.fieldLink RX7 35 "FurPosts" "distances" "[[I") (by decide +kernel)) dX7_shortenDistances_63 ?_
          refine lv_iload_n hx hb dX7_shortenDistances_66 rfl (lv_at hl 3 rfl) ?_
          refine cr_ald25 hx hb hK hC (w := (nI jL2)) (vp_in_nI (show jL2 < 8 by omega) (by decide)) dX7_shortenDistances_67 ?_
          rw [(show (nI jL2).toNatClampNeg = jL2 from nI_clamp (by omega))]
          refine lv_iload hx hb dX7_shortenDistances_68 (lv_at hl 2 rfl) ?_
          refine lv_aload_n hx hb dX7_shortenDistances_70 rfl (lv_at hl 4 rfl) ?_
          refine cx_get hx hb hts hinX7 hown hK hC 4 (by decide) (v := .ref (q 5)) rfl (hts (.fieldLink RX7 35 "FurPosts" "distances" "[[I") (by decide +kernel)) dX7_shortenDistances_71 ?_
          refine lv_iload_n hx hb dX7_shortenDistances_74 rfl (lv_at hl 3 rfl) ?_
          refine cr_ald25 hx hb hK hC (w := (nI jL2)) (vp_in_nI (show jL2 < 8 by omega) (by decide)) dX7_shortenDistances_75 ?_
          rw [(show (nI jL2).toNatClampNeg = jL2 from nI_clamp (by omega))]
          refine lv_iload hx hb dX7_shortenDistances_76 (lv_at hl 2 rfl) ?_
          refine ci_ald 12 jL2 hx hb hK hC (show jL2 < 8 by omega) (by decide) (w := (nI jL11)) (vp_in_nI (show jL11 < 8 by omega) (by decide)) dX7_shortenDistances_78 ?_
          refine lv_topi (fun v9 (e9 : v9 = GL11 43 (8 * jL2 + (nI jL11).toNatClampNeg)) => ?_)
          rw [(show (nI jL11).toNatClampNeg = jL11 from nI_clamp (by omega))] at e9
          refine lv_iload hx hb dX7_shortenDistances_79 (lv_at hl 1 rfl) ?_
          refine lv_iload hx hb dX7_shortenDistances_81 (lv_at hl 0 rfl) ?_
          refine va_mmin hx hb (hml.trans hl.1.symm) hown (hts (.methodLink RX7 78 Lib.Math.min.name) (by decide +kernel)) (hts (.static Lib.Math.min.name) (by decide +kernel)) (hts (.initialized "java/lang/Math") (by decide +kernel)) (hts (.code Lib.Math.min.name Lib.Math.min.code 2 (some .int)) (by decide +kernel)) (Nat.le_of_ble_eq_true rfl) (Nat.le_of_ble_eq_true rfl) (Nat.le_of_ble_eq_true rfl) (Nat.le_of_ble_eq_true rfl) dX7_shortenDistances_83 ?_
          refine lv_topi (fun v10 (e10 : v10 = if ((v7 + 1) + v8) < ((v5 + 1) + v6) then ((v7 + 1) + v8) else ((v5 + 1) + v6)) => ?_)
          refine va_mmin hx hb (hml.trans hl.1.symm) hown (hts (.methodLink RX7 78 Lib.Math.min.name) (by decide +kernel)) (hts (.static Lib.Math.min.name) (by decide +kernel)) (hts (.initialized "java/lang/Math") (by decide +kernel)) (hts (.code Lib.Math.min.name Lib.Math.min.code 2 (some .int)) (by decide +kernel)) (Nat.le_of_ble_eq_true rfl) (Nat.le_of_ble_eq_true rfl) (Nat.le_of_ble_eq_true rfl) (Nat.le_of_ble_eq_true rfl) dX7_shortenDistances_86 ?_
          refine lv_topi (fun v11 (e11 : v11 = if v10 < v9 then v10 else v9) => ?_)
          refine ci_ast 12 jL2 hx hb hK hC hS (show jL2 < 8 by omega) (by decide) (w := (nI jL11)) (x := v11) (vp_in_nI (show jL11 < 8 by omega) (by decide)) dX7_shortenDistances_89 (fun H locs hC hS => ?_)
          obtain ⟨G12, e12, hC⟩ : ∃ G12 : Nat → Nat → Int32, G12 = up2 GL11 43 (8 * jL2 + (nI jL11).toNatClampNeg) v11 ∧ cp_ (dC, dI) cI cy h0 q A ad rl L n G12 H := ⟨_, rfl, hC⟩
          rw [(show (nI jL11).toNatClampNeg = jL11 from nI_clamp (by omega))] at e12
          refine lv_iinc (v := (nI (jL11 + 1))) (lv' := [(4, .int (nI (jL11 + 1))), (6, .int ((v7 + 1) + v8)), (5, .int ((v5 + 1) + v6)), (3, .int (nI jL2)), (0, .ref h0), (1, .int a1), (2, .int a2)]) hx hb dX7_shortenDistances_90 hl (k := 2) rfl (show nI jL11 + 1 = nI (jL11 + 1) from nI_1 jL11) (by decide) rfl (fun ls hl => ?_)
          refine lv_goto (tgt := 11) hx hb dX7_shortenDistances_93 (by decide) ?_
          have hI11 : (sX_shortenDistances_L11 jL2 a2 a1 (k + 1) jL11 GL11) = (sX_shortenDistances_L11 jL2 a2 a1 k (jL11 + 1) G12) := by subst e12 e11 e10 e9 e8 e7 e6 e5; exact rfl
          exact ih11 (jL11 + 1) G12 H locs ls (by omega) hC hS (lv_sub hl [0, 3, 4, 5, 6] rfl) (by rw [← hI11]; exact hex)
      refine key11 8 0 GL2 H locs ls (by omega) hC hS (lv_sub hl [0, 1, 2, 3, 4] rfl) (fun H locs ls hC hS hl => ?_)
      obtain ⟨G13, e13, hC⟩ : ∃ G13 : Nat → Nat → Int32, G13 = (sX_shortenDistances_L11 jL2 a2 a1 8 0 GL2) ∧ cp_ (dC, dI) cI cy h0 q A ad rl L n G13 H := ⟨_, rfl, hC⟩
      refine lv_iinc (v := (nI (jL2 + 1))) (lv' := [(3, .int (nI (jL2 + 1))), (4, .int (nI 8)), (0, .ref h0), (1, .int a1), (2, .int a2)]) hx hb dX7_shortenDistances_96 hl (k := 1) rfl (show nI jL2 + 1 = nI (jL2 + 1) from nI_1 jL2) (by decide) rfl (fun ls hl => ?_)
      refine lv_goto (tgt := 2) hx hb dX7_shortenDistances_99 (by decide) ?_
      have hI2 : (sX_shortenDistances_L2 a2 a1 (k + 1) jL2 GL2) = (sX_shortenDistances_L2 a2 a1 k (jL2 + 1) G13) := by subst e13; exact rfl
      exact ih2 (jL2 + 1) G13 H locs ls (by omega) hC hS (lv_sub hl [0, 2, 3, 4] rfl) (by rw [← hI2]; exact hex)
  refine key2 8 0 G H locs ls (by omega) hC hS (lv_sub hl [0, 1, 2, 3] rfl) (fun H locs ls hC hS hl => ?_)
  obtain ⟨G14, e14, hC⟩ : ∃ G14 : Nat → Nat → Int32, G14 = (sX_shortenDistances_L2 a2 a1 8 0 G) ∧ cp_ (dC, dI) cI cy h0 q A ad rl L n G14 H := ⟨_, rfl, hC⟩
  have hq15 : sX_shortenDistances n G a1 a2 = G14 := by subst e14; exact rfl
  exact W.vret hx hb hr (fun t9 ht hW => ⟨⟨G14, rfl, hq15.symm, by show cp_ (dC, dI) cI cy h0 q A ad rl L n G14 t9.heap; rw [ht]; exact hC⟩, hS.F ht⟩) hS.2.2 dX7_shortenDistances_102

set_option maxHeartbeats 8000000 in
set_option maxRecDepth 100000 in
theorem m_X7_landCanoe (l : Launch) (dC : Nat → ClassId) (dI : Nat → Nat → Nat) (h0 : Nat) (q : Nat → Nat) (cI : ClassId) (cy : Nat → ClassId) (A : Nat → Prop) (ad : Nat → Nat → Nat) (rl : Nat → Nat × Nat) (L : List Nat) (n : Nat → Nat) (G : Nat → Nat → Int32) (hN : nb_ n) (i1 : Nat) (hi1 : i1 < n 3) (i2 : Nat) (hi2 : i2 < n 1) : Met l yX7_landCanoe wsX7_landCanoe ({ frames := 0, cells := 0, slots := 0, locals := 0 }) (va_Pc [.ref h0, .ref (ad 3 i1), .ref (ad 1 i2)] (ct_P (dC, dI) cI cy h0 q A ad rl L n G)) (va_Qv (fun u : Nat → Nat → Int32 => u = sX_landCanoe n G i1 i2) (fun u s' => cp_ (dC, dI) cI cy h0 q A ad rl L n u s'.heap) A) 0 0 A := by
  refine Met.ofW (cc := cX7_landCanoe) (maxL := 4) (ret := none) (by decide) rfl ?_
  intro p e s m args below meth c s₁ B hml hv
  obtain ⟨rfl, hC, hK, hW0⟩ := hv
  have hx := B.exec
  have hb := B.bytes
  have hr := B.returns
  have hts := atoms_spec (ws := wsX7_landCanoe) B.pre
  have hown : s.vm.findClass RX7 = some m.cls := findClass_of_methodNamed B.named
  have hlocks := B.notSynchronized
  have hinX0 : ∀ w ∈ u_ws RX0 TX0 11, w ∈ wsX7_landCanoe := by decide +kernel
  have hinX4 : ∀ w ∈ u_ws RX4 TX4 4, w ∈ wsX7_landCanoe := by decide +kernel
  have hinX7 : ∀ w ∈ u_ws RX7 TX7 14, w ∈ wsX7_landCanoe := by decide +kernel
  have hS : va_S A s.heap s.heap [] := va_S.rf
  have hl := lv_entry ([.ref h0, .ref (ad 3 i1), .ref (ad 1 i2)]) (n := 4) (Nat.le_of_ble_eq_true rfl)
  rw [lg_entry_eq]
  generalize (lg_sl ([.ref h0, .ref (ad 3 i1), .ref (ad 1 i2)]) ++ List.replicate (4 - (lg_sl ([.ref h0, .ref (ad 3 i1), .ref (ad 1 i2)])).length) Slot.unset).toArray = ls at hl ⊢
  have hl : lv_has ls 4 [(0, .ref h0), (1, .ref (ad 3 i1)), (2, .ref (ad 1 i2))] := hl
  obtain ⟨H, hH, hC, hS⟩ : ∃ H, H = s.heap ∧ cp_ (dC, dI) cI cy h0 q A ad rl L n G H ∧ va_S A s.heap H [] := ⟨_, rfl, hC, hS⟩
  rw [← hH]
  generalize ([] : List Loc) = locs at hS ⊢
  refine lv_aload_n hx hb dX7_landCanoe_0 rfl (lv_at hl 1 rfl) ?_
  refine lv_iconst (v := 1) hx hb dX7_landCanoe_1 (by decide) ?_
  refine cc_put18 i1 hx hb hts hinX0 hown hK hC hS hi1 (v := 1) (hts (.fieldLink RX7 142 "FurPosts$Canoe" "state" "I") (by decide +kernel)) dX7_landCanoe_2 (fun H locs hC hS => ?_)
  obtain ⟨G1, e1, hC⟩ : ∃ G1 : Nat → Nat → Int32, G1 = up2 G 18 i1 1 ∧ cp_ (dC, dI) cI cy h0 q A ad rl L n G1 H := ⟨_, rfl, hC⟩
  refine lv_aload_n hx hb dX7_landCanoe_5 rfl (lv_at hl 1 rfl) ?_
  refine lv_aload_n hx hb dX7_landCanoe_6 rfl (lv_at hl 0 rfl) ?_
  refine cx_get hx hb hts hinX7 hown hK hC 8 (by decide) (v := .int (nI (n 0))) rfl (hts (.fieldLink RX7 103 "FurPosts" "now" "I") (by decide +kernel)) dX7_landCanoe_7 ?_
  refine cc_put20 i1 hx hb hts hinX0 hown hK hC hS hi1 (v := (nI (n 0))) (hts (.fieldLink RX7 204 "FurPosts$Canoe" "dayCame" "I") (by decide +kernel)) dX7_landCanoe_10 (fun H locs hC hS => ?_)
  obtain ⟨G2, e2, hC⟩ : ∃ G2 : Nat → Nat → Int32, G2 = up2 G1 20 i1 (nI (n 0)) ∧ cp_ (dC, dI) cI cy h0 q A ad rl L n G2 H := ⟨_, rfl, hC⟩
  refine lv_iconst (v := 0) hx hb dX7_landCanoe_13 (by decide) ?_
  refine lv_istore_n (lv' := [(3, .int 0), (0, .ref h0), (1, .ref (ad 3 i1)), (2, .ref (ad 1 i2))]) hx hb dX7_landCanoe_14 rfl hl (by decide) rfl (fun ls hl => ?_)
  have key15 : ∀ (k jL15 : Nat) (GL15 : Nat → Nat → Int32) (H : Heap) (locs : List Loc) (ls : Array Slot), jL15 + k = 6 → cp_ (dC, dI) cI cy h0 q A ad rl L n GL15 H → va_S A s.heap H locs → lv_has ls 4 [(3, .int (nI jL15)), (0, .ref h0), (1, .ref (ad 3 i1)), (2, .ref (ad 1 i2))] → (∀ (H : Heap) (locs : List Loc) (ls : Array Slot), cp_ (dC, dI) cI cy h0 q A ad rl L n ((sX_landCanoe_L15 i2 i1 k jL15 GL15)) H → va_S A s.heap H locs → lv_has ls 4 [(3, .int (nI 6)), (0, .ref h0), (1, .ref (ad 3 i1)), (2, .ref (ad 1 i2))] → W p l e (headSpec wsX7_landCanoe ({ frames := 0, cells := 0, slots := 0, locals := 0 })).room s m [.ref h0, .ref (ad 3 i1), .ref (ad 1 i2)].toArray below meth c H locs 0 0 (MQ below (va_Qv (fun u : Nat → Nat → Int32 => u = sX_landCanoe n G i1 i2) (fun u s' => cp_ (dC, dI) cI cy h0 q A ad rl L n u s'.heap) A) [.ref h0, .ref (ad 3 i1), .ref (ad 1 i2)].toArray s 0 0 A) (F0 m 49 ls [])) → 
      W p l e (headSpec wsX7_landCanoe ({ frames := 0, cells := 0, slots := 0, locals := 0 })).room s m [.ref h0, .ref (ad 3 i1), .ref (ad 1 i2)].toArray below meth c H locs 0 0 (MQ below (va_Qv (fun u : Nat → Nat → Int32 => u = sX_landCanoe n G i1 i2) (fun u s' => cp_ (dC, dI) cI cy h0 q A ad rl L n u s'.heap) A) [.ref h0, .ref (ad 3 i1), .ref (ad 1 i2)].toArray s 0 0 A) (F0 m 15 ls []) := by
    intro k
    induction k with
    | zero =>
      intro jL15 GL15 H locs ls hj hC hS hl hex
      have hj : jL15 = 6 := by omega
      subst jL15
      refine lv_iload_n hx hb dX7_landCanoe_15 rfl (lv_at hl 0 rfl) ?_
      refine lv_bipush (v := 6) hx hb dX7_landCanoe_16 (by decide) ?_
      refine lv_icmp_ge (tgt := 49) hx hb dX7_landCanoe_18 (by decide) (fun h_3 => ?_) (fun h_3 => absurd (lp_ge0 (B := 6) rfl) h_3)
      exact hex H locs ls hC hS (lv_sub hl [0, 1, 2, 3] rfl)
    | succ k ih15 =>
      intro jL15 GL15 H locs ls hj hC hS hl hex
      have hj15 : jL15 < 6 := by omega
      refine lv_iload_n hx hb dX7_landCanoe_15 rfl (lv_at hl 0 rfl) ?_
      refine lv_bipush (v := 6) hx hb dX7_landCanoe_16 (by decide) ?_
      refine lv_icmp_ge (tgt := 49) hx hb dX7_landCanoe_18 (by decide) (fun h_4 => absurd h_4 (lp_ge (B := 6) (by omega) (by omega) rfl)) (fun h_4 => ?_)
      refine lv_aload_n hx hb dX7_landCanoe_21 rfl (lv_at hl 3 rfl) ?_
      refine co_get 1 i2 (C := RX4) (T := TX4) (N := 4) (ci := 3) (v := .ref (ad 5 i2)) hx hb hts hinX4 hown hK hC hi2 (fun _ h9 => h9) rfl 0 (by decide) (hts (.fieldLink RX7 92 "FurPosts$Post" "stock" "[I") (by decide +kernel)) (fun _ h9 => h9) rfl dX7_landCanoe_22 ?_
      refine lv_iload_n hx hb dX7_landCanoe_25 rfl (lv_at hl 0 rfl) ?_
      refine lv_dup2_11 hx hb dX7_landCanoe_26 rfl rfl ?_
      refine ci_ald 5 i2 hx hb hK hC hi2 (by decide) (w := (nI jL15)) (vp_in_nI (show jL15 < 6 by omega) (by decide)) dX7_landCanoe_27 ?_
      refine lv_topi (fun v5 (e5 : v5 = GL15 2 (6 * i2 + (nI jL15).toNatClampNeg)) => ?_)
      rw [(show (nI jL15).toNatClampNeg = jL15 from nI_clamp (by omega))] at e5
      refine lv_aload_n hx hb dX7_landCanoe_28 rfl (lv_at hl 2 rfl) ?_
      refine co_get 3 i1 (C := RX0) (T := TX0) (N := 11) (ci := 0) (v := .ref (ad 10 i1)) hx hb hts hinX0 hown hK hC hi1 (fun _ h9 => h9) rfl 5 (by decide) (hts (.fieldLink RX7 148 "FurPosts$Canoe" "wares" "[I") (by decide +kernel)) (fun _ h9 => h9) rfl dX7_landCanoe_29 ?_
      refine lv_iload_n hx hb dX7_landCanoe_32 rfl (lv_at hl 0 rfl) ?_
      refine ci_ald 10 i1 hx hb hK hC hi1 (by decide) (w := (nI jL15)) (vp_in_nI (show jL15 < 6 by omega) (by decide)) dX7_landCanoe_33 ?_
      refine lv_topi (fun v6 (e6 : v6 = GL15 22 (6 * i1 + (nI jL15).toNatClampNeg)) => ?_)
      rw [(show (nI jL15).toNatClampNeg = jL15 from nI_clamp (by omega))] at e6
      refine lv_iadd hx hb dX7_landCanoe_34 ?_
      refine ci_ast 5 i2 hx hb hK hC hS hi2 (by decide) (w := (nI jL15)) (x := (v5 + v6)) (vp_in_nI (show jL15 < 6 by omega) (by decide)) dX7_landCanoe_35 (fun H locs hC hS => ?_)
      obtain ⟨G7, e7, hC⟩ : ∃ G7 : Nat → Nat → Int32, G7 = up2 GL15 2 (6 * i2 + (nI jL15).toNatClampNeg) (v5 + v6) ∧ cp_ (dC, dI) cI cy h0 q A ad rl L n G7 H := ⟨_, rfl, hC⟩
      rw [(show (nI jL15).toNatClampNeg = jL15 from nI_clamp (by omega))] at e7
      refine lv_aload_n hx hb dX7_landCanoe_36 rfl (lv_at hl 2 rfl) ?_
      refine co_get 3 i1 (C := RX0) (T := TX0) (N := 11) (ci := 0) (v := .ref (ad 10 i1)) hx hb hts hinX0 hown hK hC hi1 (fun _ h9 => h9) rfl 5 (by decide) (hts (.fieldLink RX7 148 "FurPosts$Canoe" "wares" "[I") (by decide +kernel)) (fun _ h9 => h9) rfl dX7_landCanoe_37 ?_
      refine lv_iload_n hx hb dX7_landCanoe_40 rfl (lv_at hl 0 rfl) ?_
      refine lv_iconst (v := 0) hx hb dX7_landCanoe_41 (by decide) ?_
      refine ci_ast 10 i1 hx hb hK hC hS hi1 (by decide) (w := (nI jL15)) (x := 0) (vp_in_nI (show jL15 < 6 by omega) (by decide)) dX7_landCanoe_42 (fun H locs hC hS => ?_)
      obtain ⟨G8, e8, hC⟩ : ∃ G8 : Nat → Nat → Int32, G8 = up2 G7 22 (6 * i1 + (nI jL15).toNatClampNeg) 0 ∧ cp_ (dC, dI) cI cy h0 q A ad rl L n G8 H := ⟨_, rfl, hC⟩
      rw [(show (nI jL15).toNatClampNeg = jL15 from nI_clamp (by omega))] at e8
      refine lv_iinc (v := (nI (jL15 + 1))) (lv' := [(3, .int (nI (jL15 + 1))), (0, .ref h0), (1, .ref (ad 3 i1)), (2, .ref (ad 1 i2))]) hx hb dX7_landCanoe_43 hl (k := 0) rfl (show nI jL15 + 1 = nI (jL15 + 1) from nI_1 jL15) (by decide) rfl (fun ls hl => ?_)
      refine lv_goto (tgt := 15) hx hb dX7_landCanoe_46 (by decide) ?_
      have hI15 : (sX_landCanoe_L15 i2 i1 (k + 1) jL15 GL15) = (sX_landCanoe_L15 i2 i1 k (jL15 + 1) G8) := by subst e8 e7 e6 e5 e2 e1; exact rfl
      exact ih15 (jL15 + 1) G8 H locs ls (by omega) hC hS (lv_sub hl [0, 1, 2, 3] rfl) (by rw [← hI15]; exact hex)
  refine key15 6 0 G2 H locs ls (by omega) hC hS (lv_sub hl [0, 1, 2, 3] rfl) (fun H locs ls hC hS hl => ?_)
  obtain ⟨G9, e9, hC⟩ : ∃ G9 : Nat → Nat → Int32, G9 = (sX_landCanoe_L15 i2 i1 6 0 G2) ∧ cp_ (dC, dI) cI cy h0 q A ad rl L n G9 H := ⟨_, rfl, hC⟩
  have hq10 : sX_landCanoe n G i1 i2 = G9 := by subst e9 e2 e1; exact rfl
  exact W.vret hx hb hr (fun t9 ht hW => ⟨⟨G9, rfl, hq10.symm, by show cp_ (dC, dI) cI cy h0 q A ad rl L n G9 t9.heap; rw [ht]; exact hC⟩, hS.F ht⟩) hS.2.2 dX7_landCanoe_49

set_option maxHeartbeats 8000000 in
set_option maxRecDepth 100000 in
theorem m_X3_readAt (l : Launch) (dC : Nat → ClassId) (dI : Nat → Nat → Nat) (h0 : Nat) (q : Nat → Nat) (cI : ClassId) (cy : Nat → ClassId) (A : Nat → Prop) (ad : Nat → Nat → Nat) (rl : Nat → Nat × Nat) (L : List Nat) (n : Nat → Nat) (G : Nat → Nat → Int32) (hN : nb_ n) (i0 : Nat) (hi0 : i0 < n 4) (hk : G 26 i0 = 0) (i1 : Nat) (hi1 : i1 < n 1) : Met l yX3_readAt wsX3_readAt ({ frames := 1, cells := 0, slots := 0, locals := 20 }) (va_Pc [.ref (ad 4 i0), .ref (ad 1 i1)] (ct_P (dC, dI) cI cy h0 q A ad rl L n G)) (va_Qv (fun u : Nat → Nat → Int32 => u = sX_Order_readAt n G i0 i1) (fun u s' => cp_ (dC, dI) cI cy h0 q A ad rl L n u s'.heap) A) 0 0 A := by
  refine Met.ofW (cc := cX3_readAt) (maxL := 2) (ret := none) (by decide) rfl ?_
  intro p e s m args below meth c s₁ B hml hv
  obtain ⟨rfl, hC, hK, hW0⟩ := hv
  have hx := B.exec
  have hb := B.bytes
  have hr := B.returns
  have hts := atoms_spec (ws := wsX3_readAt) B.pre
  have hown : s.vm.findClass RX3 = some m.cls := findClass_of_methodNamed B.named
  have hlocks := B.notSynchronized
  have hinX3 : ∀ w ∈ u_ws RX3 TX3 6, w ∈ wsX3_readAt := by decide +kernel
  have hinX4 : ∀ w ∈ u_ws RX4 TX4 4, w ∈ wsX3_readAt := by decide +kernel
  have hS : va_S A s.heap s.heap [] := va_S.rf
  have hl := lv_entry ([.ref (ad 4 i0), .ref (ad 1 i1)]) (n := 2) (Nat.le_of_ble_eq_true rfl)
  rw [lg_entry_eq]
  generalize (lg_sl ([.ref (ad 4 i0), .ref (ad 1 i1)]) ++ List.replicate (2 - (lg_sl ([.ref (ad 4 i0), .ref (ad 1 i1)])).length) Slot.unset).toArray = ls at hl ⊢
  have hl : lv_has ls 2 [(0, .ref (ad 4 i0)), (1, .ref (ad 1 i1))] := hl
  obtain ⟨H, hH, hC, hS⟩ : ∃ H, H = s.heap ∧ cp_ (dC, dI) cI cy h0 q A ad rl L n G H ∧ va_S A s.heap H [] := ⟨_, rfl, hC, hS⟩
  rw [← hH]
  generalize ([] : List Loc) = locs at hS ⊢
  refine lv_aload_n hx hb dX3_readAt_0 rfl (lv_at hl 0 rfl) ?_
  refine co_get 4 i0 (C := RX3) (T := TX3) (N := 6) (ci := 2) (v := .int (G 29 i0)) hx hb hts hinX3 hown hK hC hi0 (fun z9 h9 => (show z9 = lq_ ad G i0 from h9).trans (lq_0 hk)) rfl 4 (by decide) (hts (.fieldLink RX3 7 "FurPosts$Order" "ware" "I") (by decide +kernel)) (fun _ h9 => h9) rfl dX3_readAt_1 ?_
  refine lv_topi (fun v1 (e1 : v1 = G 29 i0) => ?_)
  refine pu_call (va_runSN (As := [.int v1]) (rest := []) ⟨hx, hb, hml, hown, hts⟩ (c_X7_isWare l v1) ⟨va_cnB 1 hts gX3_readAt_X7_isWare_n16 rfl rfl rfl (nw_w3 hW0) (hts (.initialized RX7) (by decide +kernel)) (by decide +kernel) ⟨Nat.le_of_ble_eq_true rfl, Nat.le_of_ble_eq_true rfl⟩, hts (.static yX7_isWare) (by decide +kernel), trivial⟩ pu_preS rfl rfl hl.1 rfl (lv_room (Nat.le_of_ble_eq_true rfl)) dX3_readAt_4 ⟨Nat.le_of_ble_eq_true rfl, Nat.le_of_ble_eq_true rfl⟩) ?_
  refine lv_if_eq (tgt := 23) hx hb dX3_readAt_7 (by decide) (fun h_2 => ?_) (fun h_2 => ?_)
  · skip
    have hq3 : sX_Order_readAt n G i0 i1 = G := by subst e1; exact (if_pos h_2)
    exact W.vret hx hb hr (fun t9 ht hW => ⟨⟨G, rfl, hq3.symm, by show cp_ (dC, dI) cI cy h0 q A ad rl L n G t9.heap; rw [ht]; exact hC⟩, hS.F ht⟩) hS.2.2 dX3_readAt_23
  · skip
    refine lv_aload_n hx hb dX3_readAt_10 rfl (lv_at hl 1 rfl) ?_
    refine co_get 1 i1 (C := RX4) (T := TX4) (N := 4) (ci := 3) (v := .ref (ad 6 i1)) hx hb hts hinX4 hown hK hC hi1 (fun _ h9 => h9) rfl 1 (by decide) (hts (.fieldLink RX3 22 "FurPosts$Post" "prices" "[I") (by decide +kernel)) (fun _ h9 => h9) rfl dX3_readAt_11 ?_
    refine lv_aload_n hx hb dX3_readAt_14 rfl (lv_at hl 0 rfl) ?_
    refine co_get 4 i0 (C := RX3) (T := TX3) (N := 6) (ci := 2) (v := .int (G 29 i0)) hx hb hts hinX3 hown hK hC hi0 (fun z9 h9 => (show z9 = lq_ ad G i0 from h9).trans (lq_0 hk)) rfl 4 (by decide) (hts (.fieldLink RX3 7 "FurPosts$Order" "ware" "I") (by decide +kernel)) (fun _ h9 => h9) rfl dX3_readAt_15 ?_
    refine lv_topi (fun v4 (e4 : v4 = G 29 i0) => ?_)
    refine lv_aload_n hx hb dX3_readAt_18 rfl (lv_at hl 0 rfl) ?_
    refine co_get 4 i0 (C := RX3) (T := TX3) (N := 6) (ci := 2) (v := .int (G 30 i0)) hx hb hts hinX3 hown hK hC hi0 (fun z9 h9 => (show z9 = lq_ ad G i0 from h9).trans (lq_0 hk)) rfl 5 (by decide) (hts (.fieldLink RX3 13 "FurPosts$Order" "asked" "I") (by decide +kernel)) (fun _ h9 => h9) rfl dX3_readAt_19 ?_
    refine lv_topi (fun v5 (e5 : v5 = G 30 i0) => ?_)
    refine ci_ast 6 i1 hx hb hK hC hS hi1 (by decide) (w := v4) (x := v5) (by rw [e4, ← e1]; exact (sp_vp h_2 rfl)) dX3_readAt_22 (fun H locs hC hS => ?_)
    obtain ⟨G6, e6, hC⟩ : ∃ G6 : Nat → Nat → Int32, G6 = up2 G 3 (6 * i1 + v4.toNatClampNeg) v5 ∧ cp_ (dC, dI) cI cy h0 q A ad rl L n G6 H := ⟨_, rfl, hC⟩
    have hq7 : sX_Order_readAt n G i0 i1 = G6 := by subst e6 e5 e4 e1; exact (if_neg h_2)
    exact W.vret hx hb hr (fun t9 ht hW => ⟨⟨G6, rfl, hq7.symm, by show cp_ (dC, dI) cI cy h0 q A ad rl L n G6 t9.heap; rw [ht]; exact hC⟩, hS.F ht⟩) hS.2.2 dX3_readAt_23

set_option maxHeartbeats 8000000 in
set_option maxRecDepth 100000 in
theorem m_X1_readAt (l : Launch) (dC : Nat → ClassId) (dI : Nat → Nat → Nat) (h0 : Nat) (q : Nat → Nat) (cI : ClassId) (cy : Nat → ClassId) (A : Nat → Prop) (ad : Nat → Nat → Nat) (rl : Nat → Nat × Nat) (L : List Nat) (n : Nat → Nat) (G : Nat → Nat → Int32) (hN : nb_ n) (i0 : Nat) (hi0 : i0 < n 4) (hk : G 26 i0 = 1) (i1 : Nat) (hi1 : i1 < n 1) : Met l yX1_readAt wsX1_readAt ({ frames := 1, cells := 0, slots := 0, locals := 20 }) (va_Pc [.ref (ad 4 i0), .ref (ad 1 i1)] (ct_P (dC, dI) cI cy h0 q A ad rl L n G)) (va_Qv (fun u : Nat → Nat → Int32 => u = sX_Debt_readAt n G i0 i1) (fun u s' => cp_ (dC, dI) cI cy h0 q A ad rl L n u s'.heap) A) 0 0 A := by
  refine Met.ofW (cc := cX1_readAt) (maxL := 2) (ret := none) (by decide) rfl ?_
  intro p e s m args below meth c s₁ B hml hv
  obtain ⟨rfl, hC, hK, hW0⟩ := hv
  have hx := B.exec
  have hb := B.bytes
  have hr := B.returns
  have hts := atoms_spec (ws := wsX1_readAt) B.pre
  have hown : s.vm.findClass RX1 = some m.cls := findClass_of_methodNamed B.named
  have hlocks := B.notSynchronized
  have hinX1 : ∀ w ∈ u_ws RX1 TX1 6, w ∈ wsX1_readAt := by decide +kernel
  have hinX4 : ∀ w ∈ u_ws RX4 TX4 4, w ∈ wsX1_readAt := by decide +kernel
  have hS : va_S A s.heap s.heap [] := va_S.rf
  have hl := lv_entry ([.ref (ad 4 i0), .ref (ad 1 i1)]) (n := 2) (Nat.le_of_ble_eq_true rfl)
  rw [lg_entry_eq]
  generalize (lg_sl ([.ref (ad 4 i0), .ref (ad 1 i1)]) ++ List.replicate (2 - (lg_sl ([.ref (ad 4 i0), .ref (ad 1 i1)])).length) Slot.unset).toArray = ls at hl ⊢
  have hl : lv_has ls 2 [(0, .ref (ad 4 i0)), (1, .ref (ad 1 i1))] := hl
  obtain ⟨H, hH, hC, hS⟩ : ∃ H, H = s.heap ∧ cp_ (dC, dI) cI cy h0 q A ad rl L n G H ∧ va_S A s.heap H [] := ⟨_, rfl, hC, hS⟩
  rw [← hH]
  generalize ([] : List Loc) = locs at hS ⊢
  refine lv_aload_n hx hb dX1_readAt_0 rfl (lv_at hl 0 rfl) ?_
  refine co_get 4 i0 (C := RX1) (T := TX1) (N := 6) (ci := 1) (v := .int (G 29 i0)) hx hb hts hinX1 hown hK hC hi0 (fun z9 h9 => (show z9 = lq_ ad G i0 from h9).trans (lq_1 hk)) rfl 4 (by decide) (hts (.fieldLink RX1 7 "FurPosts$Debt" "hunter" "I") (by decide +kernel)) (fun _ h9 => h9) rfl dX1_readAt_1 ?_
  refine lv_topi (fun v1 (e1 : v1 = G 29 i0) => ?_)
  refine pu_call (va_runSN (As := [.int v1]) (rest := []) ⟨hx, hb, hml, hown, hts⟩ (c_X7_isHunter l v1) ⟨va_cnB 1 hts gX1_readAt_X7_isHunter_n16 rfl rfl rfl (nw_w1 hW0) (hts (.initialized RX7) (by decide +kernel)) (by decide +kernel) ⟨Nat.le_of_ble_eq_true rfl, Nat.le_of_ble_eq_true rfl⟩, hts (.static yX7_isHunter) (by decide +kernel), trivial⟩ pu_preS rfl rfl hl.1 rfl (lv_room (Nat.le_of_ble_eq_true rfl)) dX1_readAt_4 ⟨Nat.le_of_ble_eq_true rfl, Nat.le_of_ble_eq_true rfl⟩) ?_
  refine lv_if_eq (tgt := 26) hx hb dX1_readAt_7 (by decide) (fun h_2 => ?_) (fun h_2 => ?_)
  · skip
    have hq3 : sX_Debt_readAt n G i0 i1 = G := by subst e1; exact (if_pos h_2)
    exact W.vret hx hb hr (fun t9 ht hW => ⟨⟨G, rfl, hq3.symm, by show cp_ (dC, dI) cI cy h0 q A ad rl L n G t9.heap; rw [ht]; exact hC⟩, hS.F ht⟩) hS.2.2 dX1_readAt_26
  · skip
    refine lv_aload_n hx hb dX1_readAt_10 rfl (lv_at hl 1 rfl) ?_
    refine co_get 1 i1 (C := RX4) (T := TX4) (N := 4) (ci := 3) (v := .ref (ad 7 i1)) hx hb hts hinX4 hown hK hC hi1 (fun _ h9 => h9) rfl 2 (by decide) (hts (.fieldLink RX1 22 "FurPosts$Post" "owed" "[I") (by decide +kernel)) (fun _ h9 => h9) rfl dX1_readAt_11 ?_
    refine lv_aload_n hx hb dX1_readAt_14 rfl (lv_at hl 0 rfl) ?_
    refine co_get 4 i0 (C := RX1) (T := TX1) (N := 6) (ci := 1) (v := .int (G 29 i0)) hx hb hts hinX1 hown hK hC hi0 (fun z9 h9 => (show z9 = lq_ ad G i0 from h9).trans (lq_1 hk)) rfl 4 (by decide) (hts (.fieldLink RX1 7 "FurPosts$Debt" "hunter" "I") (by decide +kernel)) (fun _ h9 => h9) rfl dX1_readAt_15 ?_
    refine lv_topi (fun v4 (e4 : v4 = G 29 i0) => ?_)
    refine lv_dup2_11 hx hb dX1_readAt_18 rfl rfl ?_
    refine ci_ald 7 i1 hx hb hK hC hi1 (by decide) (w := v4) (by rw [e4, ← e1]; exact (sp_vp h_2 rfl)) dX1_readAt_19 ?_
    refine lv_topi (fun v5 (e5 : v5 = G 4 (12 * i1 + v4.toNatClampNeg)) => ?_)
    refine lv_aload_n hx hb dX1_readAt_20 rfl (lv_at hl 0 rfl) ?_
    refine co_get 4 i0 (C := RX1) (T := TX1) (N := 6) (ci := 1) (v := .int (G 30 i0)) hx hb hts hinX1 hown hK hC hi0 (fun z9 h9 => (show z9 = lq_ ad G i0 from h9).trans (lq_1 hk)) rfl 5 (by decide) (hts (.fieldLink RX1 13 "FurPosts$Debt" "coins" "I") (by decide +kernel)) (fun _ h9 => h9) rfl dX1_readAt_21 ?_
    refine lv_topi (fun v6 (e6 : v6 = G 30 i0) => ?_)
    refine lv_iadd hx hb dX1_readAt_24 ?_
    refine ci_ast 7 i1 hx hb hK hC hS hi1 (by decide) (w := v4) (x := (v5 + v6)) (by rw [e4, ← e1]; exact (sp_vp h_2 rfl)) dX1_readAt_25 (fun H locs hC hS => ?_)
    obtain ⟨G7, e7, hC⟩ : ∃ G7 : Nat → Nat → Int32, G7 = up2 G 4 (12 * i1 + v4.toNatClampNeg) (v5 + v6) ∧ cp_ (dC, dI) cI cy h0 q A ad rl L n G7 H := ⟨_, rfl, hC⟩
    have hq8 : sX_Debt_readAt n G i0 i1 = G7 := by subst e7 e6 e5 e4 e1; exact (if_neg h_2)
    exact W.vret hx hb hr (fun t9 ht hW => ⟨⟨G7, rfl, hq8.symm, by show cp_ (dC, dI) cI cy h0 q A ad rl L n G7 t9.heap; rw [ht]; exact hC⟩, hS.F ht⟩) hS.2.2 dX1_readAt_26

set_option maxHeartbeats 8000000 in
set_option maxRecDepth 100000 in
theorem m_X5_readAt (l : Launch) (dC : Nat → ClassId) (dI : Nat → Nat → Nat) (h0 : Nat) (q : Nat → Nat) (cI : ClassId) (cy : Nat → ClassId) (A : Nat → Prop) (ad : Nat → Nat → Nat) (rl : Nat → Nat × Nat) (L : List Nat) (n : Nat → Nat) (G : Nat → Nat → Int32) (hN : nb_ n) (i0 : Nat) (hi0 : i0 < n 4) (hk0 : ¬ G 26 i0 = 0) (hk1 : ¬ G 26 i0 = 1) (i1 : Nat) (hi1 : i1 < n 1) : Met l yX5_readAt wsX5_readAt ({ frames := 1, cells := 0, slots := 0, locals := 21 }) (va_Pc [.ref (ad 4 i0), .ref (ad 1 i1)] (ct_P (dC, dI) cI cy h0 q A ad rl L n G)) (va_Qv (fun u : Nat → Nat → Int32 => u = sX_Report_readAt n G i0 i1) (fun u s' => cp_ (dC, dI) cI cy h0 q A ad rl L n u s'.heap) A) 0 0 A := by
  refine Met.ofW (cc := cX5_readAt) (maxL := 3) (ret := none) (by decide) rfl ?_
  intro p e s m args below meth c s₁ B hml hv
  obtain ⟨rfl, hC, hK, hW0⟩ := hv
  have hx := B.exec
  have hb := B.bytes
  have hr := B.returns
  have hts := atoms_spec (ws := wsX5_readAt) B.pre
  have hown : s.vm.findClass RX5 = some m.cls := findClass_of_methodNamed B.named
  have hlocks := B.notSynchronized
  have hinX4 : ∀ w ∈ u_ws RX4 TX4 4, w ∈ wsX5_readAt := by decide +kernel
  have hinX5 : ∀ w ∈ u_ws RX5 TX5 6, w ∈ wsX5_readAt := by decide +kernel
  have hS : va_S A s.heap s.heap [] := va_S.rf
  have hl := lv_entry ([.ref (ad 4 i0), .ref (ad 1 i1)]) (n := 3) (Nat.le_of_ble_eq_true rfl)
  rw [lg_entry_eq]
  generalize (lg_sl ([.ref (ad 4 i0), .ref (ad 1 i1)]) ++ List.replicate (3 - (lg_sl ([.ref (ad 4 i0), .ref (ad 1 i1)])).length) Slot.unset).toArray = ls at hl ⊢
  have hl : lv_has ls 3 [(0, .ref (ad 4 i0)), (1, .ref (ad 1 i1))] := hl
  obtain ⟨H, hH, hC, hS⟩ : ∃ H, H = s.heap ∧ cp_ (dC, dI) cI cy h0 q A ad rl L n G H ∧ va_S A s.heap H [] := ⟨_, rfl, hC, hS⟩
  rw [← hH]
  generalize ([] : List Loc) = locs at hS ⊢
  refine lv_aload_n hx hb dX5_readAt_0 rfl (lv_at hl 1 rfl) ?_
  refine lv_aload_n hx hb dX5_readAt_1 rfl (lv_at hl 0 rfl) ?_
  refine co_get 4 i0 (C := RX5) (T := TX5) (N := 6) (ci := 4) (v := .int (G 40 i0)) hx hb hts hinX5 hown hK hC hi0 (fun z9 h9 => (show z9 = lq_ ad G i0 from h9).trans (lq_2 hk0 hk1)) rfl 0 (by decide) (hts (.fieldLink RX5 19 "FurPosts$Report" "from" "I") (by decide +kernel)) (fun x h9 => u_same (hts (.sameField "FurPosts$Report" "FurPosts$Letter" "from" "I") (by decide +kernel)) x h9) rfl dX5_readAt_2 ?_
  refine lv_topi (fun v1 (e1 : v1 = G 40 i0) => ?_)
  refine pu_call (va_runV (As := [.int v1]) (rest := []) ⟨hx, hb, hml, hown, hts⟩ (k_X4_reportOf l dC dI h0 q cI cy A ad rl L n G hN i1 hi1 v1) (cwV 1 hts gX5_readAt_X4_reportOf rfl rfl rfl (by decide +kernel) ⟨Nat.le_of_ble_eq_true rfl, Nat.le_of_ble_eq_true rfl⟩) (ct_preO 1 i1 (r := (RX4, TX4, 4)) (ci := 3) hC hK hW0 hi1 (fun _ h9 => h9) rfl) rfl rfl hl.1 rfl (lv_room (Nat.le_of_ble_eq_true rfl)) dX5_readAt_5 ⟨Nat.le_of_ble_eq_true rfl, Nat.le_of_ble_eq_true rfl⟩) ?_
  by_cases h_2 : (sp_in v1 0 7) = 0
  · rw [if_pos h_2]
    refine lv_astore_nN (lv' := [(2, .null), (0, .ref (ad 4 i0)), (1, .ref (ad 1 i1))]) hx hb dX5_readAt_8 rfl hl (by decide) rfl (fun ls hl => ?_)
    refine lv_aload_n hx hb dX5_readAt_9 rfl (lv_at hl 1 rfl) ?_
    refine co_get 4 i0 (C := RX5) (T := TX5) (N := 6) (ci := 4) (v := .int (G 40 i0)) hx hb hts hinX5 hown hK hC hi0 (fun z9 h9 => (show z9 = lq_ ad G i0 from h9).trans (lq_2 hk0 hk1)) rfl 0 (by decide) (hts (.fieldLink RX5 19 "FurPosts$Report" "from" "I") (by decide +kernel)) (fun x h9 => u_same (hts (.sameField "FurPosts$Report" "FurPosts$Letter" "from" "I") (by decide +kernel)) x h9) rfl dX5_readAt_10 ?_
    refine lv_topi (fun v3 (e3 : v3 = G 40 i0) => ?_)
    refine lv_if_lt (tgt := 50) hx hb dX5_readAt_13 (by decide) (fun h_4 => ?_) (fun h_4 => ?_)
    · skip
      have hq5 : sX_Report_readAt n G i0 i1 = G := by subst e3 e1; exact (if_pos h_2).trans (if_pos h_4)
      exact W.vret hx hb hr (fun t9 ht hW => ⟨⟨G, rfl, hq5.symm, by show cp_ (dC, dI) cI cy h0 q A ad rl L n G t9.heap; rw [ht]; exact hC⟩, hS.F ht⟩) hS.2.2 dX5_readAt_50
    · skip
      refine lv_aload_n hx hb dX5_readAt_16 rfl (lv_at hl 1 rfl) ?_
      refine co_get 4 i0 (C := RX5) (T := TX5) (N := 6) (ci := 4) (v := .int (G 40 i0)) hx hb hts hinX5 hown hK hC hi0 (fun z9 h9 => (show z9 = lq_ ad G i0 from h9).trans (lq_2 hk0 hk1)) rfl 0 (by decide) (hts (.fieldLink RX5 19 "FurPosts$Report" "from" "I") (by decide +kernel)) (fun x h9 => u_same (hts (.sameField "FurPosts$Report" "FurPosts$Letter" "from" "I") (by decide +kernel)) x h9) rfl dX5_readAt_17 ?_
      refine lv_topi (fun v6 (e6 : v6 = G 40 i0) => ?_)
      refine lv_bipush (v := 8) hx hb dX5_readAt_20 (by decide) ?_
      refine lv_icmp_ge (tgt := 50) hx hb dX5_readAt_22 (by decide) (fun h_7 => ?_) (fun h_7 => ?_)
      · skip
        have hq8 : sX_Report_readAt n G i0 i1 = G := by subst e6 e3 e1; exact (if_pos h_2).trans ((if_neg h_4).trans (if_pos h_7))
        exact W.vret hx hb hr (fun t9 ht hW => ⟨⟨G, rfl, hq8.symm, by show cp_ (dC, dI) cI cy h0 q A ad rl L n G t9.heap; rw [ht]; exact hC⟩, hS.F ht⟩) hS.2.2 dX5_readAt_50
      · skip
        refine lv_aload_nN hx hb dX5_readAt_25 rfl (lv_at hl 0 rfl) ?_
        refine lv_ifnullN (tgt := 40) hx hb dX5_readAt_26 (by decide) ?_
        refine lv_aload_n hx hb dX5_readAt_40 rfl (lv_at hl 2 rfl) ?_
        refine co_get 1 i1 (C := RX4) (T := TX4) (N := 4) (ci := 3) (v := .ref (ad 8 i1)) hx hb hts hinX4 hown hK hC hi1 (fun _ h9 => h9) rfl 3 (by decide) (hts (.fieldLink RX5 28 "FurPosts$Post" "reports" "[LFurPosts$Report;") (by decide +kernel)) (fun _ h9 => h9) rfl dX5_readAt_41 ?_
        refine lv_aload_n hx hb dX5_readAt_44 rfl (lv_at hl 1 rfl) ?_
        refine co_get 4 i0 (C := RX5) (T := TX5) (N := 6) (ci := 4) (v := .int (G 40 i0)) hx hb hts hinX5 hown hK hC hi0 (fun z9 h9 => (show z9 = lq_ ad G i0 from h9).trans (lq_2 hk0 hk1)) rfl 0 (by decide) (hts (.fieldLink RX5 19 "FurPosts$Report" "from" "I") (by decide +kernel)) (fun x h9 => u_same (hts (.sameField "FurPosts$Report" "FurPosts$Letter" "from" "I") (by decide +kernel)) x h9) rfl dX5_readAt_45 ?_
        refine lv_topi (fun v9 (e9 : v9 = G 40 i0) => ?_)
        refine lv_aload_n hx hb dX5_readAt_48 rfl (lv_at hl 1 rfl) ?_
        refine cr_reps i1 i0 hx hb hK hC hS hi1 hi0 hN.2.2.2.2 hk0 hk1 (w := v9) (vb_in (by have z9 := h_4; rw [e3, ← e9] at z9; exact z9) (by have z9 := h_7; rw [e6, ← e9] at z9; exact z9) rfl) dX5_readAt_49 (fun H locs hC hS => ?_)
        obtain ⟨G10, e10, hC⟩ : ∃ G10 : Nat → Nat → Int32, G10 = up2 G 32 (8 * i1 + v9.toNatClampNeg) (nI i0) ∧ cp_ (dC, dI) cI cy h0 q A ad rl L n G10 H := ⟨_, rfl, hC⟩
        have hq11 : sX_Report_readAt n G i0 i1 = G10 := by subst e10 e9 e6 e3 e1; exact (if_pos h_2).trans ((if_neg h_4).trans (if_neg h_7))
        exact W.vret hx hb hr (fun t9 ht hW => ⟨⟨G10, rfl, hq11.symm, by show cp_ (dC, dI) cI cy h0 q A ad rl L n G10 t9.heap; rw [ht]; exact hC⟩, hS.F ht⟩) hS.2.2 dX5_readAt_50
  · rw [if_neg h_2]
    by_cases h_12 : (G 32 (8 * i1 + v1.toNatClampNeg)) = -1
    · rw [show ro_ ad (G 32 (8 * i1 + v1.toNatClampNeg)) = none from if_pos h_12]
      refine lv_astore_nN (lv' := [(2, .null), (0, .ref (ad 4 i0)), (1, .ref (ad 1 i1))]) hx hb dX5_readAt_8 rfl hl (by decide) rfl (fun ls hl => ?_)
      refine lv_aload_n hx hb dX5_readAt_9 rfl (lv_at hl 1 rfl) ?_
      refine co_get 4 i0 (C := RX5) (T := TX5) (N := 6) (ci := 4) (v := .int (G 40 i0)) hx hb hts hinX5 hown hK hC hi0 (fun z9 h9 => (show z9 = lq_ ad G i0 from h9).trans (lq_2 hk0 hk1)) rfl 0 (by decide) (hts (.fieldLink RX5 19 "FurPosts$Report" "from" "I") (by decide +kernel)) (fun x h9 => u_same (hts (.sameField "FurPosts$Report" "FurPosts$Letter" "from" "I") (by decide +kernel)) x h9) rfl dX5_readAt_10 ?_
      refine lv_topi (fun v13 (e13 : v13 = G 40 i0) => ?_)
      refine lv_if_lt (tgt := 50) hx hb dX5_readAt_13 (by decide) (fun h_14 => ?_) (fun h_14 => ?_)
      · skip
        have hq15 : sX_Report_readAt n G i0 i1 = G := by subst e13 e1; exact (if_neg h_2).trans ((if_pos h_12).trans (if_pos h_14))
        exact W.vret hx hb hr (fun t9 ht hW => ⟨⟨G, rfl, hq15.symm, by show cp_ (dC, dI) cI cy h0 q A ad rl L n G t9.heap; rw [ht]; exact hC⟩, hS.F ht⟩) hS.2.2 dX5_readAt_50
      · skip
        refine lv_aload_n hx hb dX5_readAt_16 rfl (lv_at hl 1 rfl) ?_
        refine co_get 4 i0 (C := RX5) (T := TX5) (N := 6) (ci := 4) (v := .int (G 40 i0)) hx hb hts hinX5 hown hK hC hi0 (fun z9 h9 => (show z9 = lq_ ad G i0 from h9).trans (lq_2 hk0 hk1)) rfl 0 (by decide) (hts (.fieldLink RX5 19 "FurPosts$Report" "from" "I") (by decide +kernel)) (fun x h9 => u_same (hts (.sameField "FurPosts$Report" "FurPosts$Letter" "from" "I") (by decide +kernel)) x h9) rfl dX5_readAt_17 ?_
        refine lv_topi (fun v16 (e16 : v16 = G 40 i0) => ?_)
        refine lv_bipush (v := 8) hx hb dX5_readAt_20 (by decide) ?_
        refine lv_icmp_ge (tgt := 50) hx hb dX5_readAt_22 (by decide) (fun h_17 => ?_) (fun h_17 => ?_)
        · skip
          have hq18 : sX_Report_readAt n G i0 i1 = G := by subst e16 e13 e1; exact (if_neg h_2).trans ((if_pos h_12).trans ((if_neg h_14).trans (if_pos h_17)))
          exact W.vret hx hb hr (fun t9 ht hW => ⟨⟨G, rfl, hq18.symm, by show cp_ (dC, dI) cI cy h0 q A ad rl L n G t9.heap; rw [ht]; exact hC⟩, hS.F ht⟩) hS.2.2 dX5_readAt_50
        · skip
          refine lv_aload_nN hx hb dX5_readAt_25 rfl (lv_at hl 0 rfl) ?_
          refine lv_ifnullN (tgt := 40) hx hb dX5_readAt_26 (by decide) ?_
          refine lv_aload_n hx hb dX5_readAt_40 rfl (lv_at hl 2 rfl) ?_
          refine co_get 1 i1 (C := RX4) (T := TX4) (N := 4) (ci := 3) (v := .ref (ad 8 i1)) hx hb hts hinX4 hown hK hC hi1 (fun _ h9 => h9) rfl 3 (by decide) (hts (.fieldLink RX5 28 "FurPosts$Post" "reports" "[LFurPosts$Report;") (by decide +kernel)) (fun _ h9 => h9) rfl dX5_readAt_41 ?_
          refine lv_aload_n hx hb dX5_readAt_44 rfl (lv_at hl 1 rfl) ?_
          refine co_get 4 i0 (C := RX5) (T := TX5) (N := 6) (ci := 4) (v := .int (G 40 i0)) hx hb hts hinX5 hown hK hC hi0 (fun z9 h9 => (show z9 = lq_ ad G i0 from h9).trans (lq_2 hk0 hk1)) rfl 0 (by decide) (hts (.fieldLink RX5 19 "FurPosts$Report" "from" "I") (by decide +kernel)) (fun x h9 => u_same (hts (.sameField "FurPosts$Report" "FurPosts$Letter" "from" "I") (by decide +kernel)) x h9) rfl dX5_readAt_45 ?_
          refine lv_topi (fun v19 (e19 : v19 = G 40 i0) => ?_)
          refine lv_aload_n hx hb dX5_readAt_48 rfl (lv_at hl 1 rfl) ?_
          refine cr_reps i1 i0 hx hb hK hC hS hi1 hi0 hN.2.2.2.2 hk0 hk1 (w := v19) (vb_in (by have z9 := h_14; rw [e13, ← e19] at z9; exact z9) (by have z9 := h_17; rw [e16, ← e19] at z9; exact z9) rfl) dX5_readAt_49 (fun H locs hC hS => ?_)
          obtain ⟨G20, e20, hC⟩ : ∃ G20 : Nat → Nat → Int32, G20 = up2 G 32 (8 * i1 + v19.toNatClampNeg) (nI i0) ∧ cp_ (dC, dI) cI cy h0 q A ad rl L n G20 H := ⟨_, rfl, hC⟩
          have hq21 : sX_Report_readAt n G i0 i1 = G20 := by subst e20 e19 e16 e13 e1; exact (if_neg h_2).trans ((if_pos h_12).trans ((if_neg h_14).trans (if_neg h_17)))
          exact W.vret hx hb hr (fun t9 ht hW => ⟨⟨G20, rfl, hq21.symm, by show cp_ (dC, dI) cI cy h0 q A ad rl L n G20 t9.heap; rw [ht]; exact hC⟩, hS.F ht⟩) hS.2.2 dX5_readAt_50
    · rw [show ro_ ad (G 32 (8 * i1 + v1.toNatClampNeg)) = some (ad 4 (G 32 (8 * i1 + v1.toNatClampNeg)).toNatClampNeg) from if_neg h_12]
      obtain ⟨hv12, hk012, hk112, hk212⟩ := cp_rv hC hi1 (vp_lt (sp_vp h_2 (n := 8) rfl)) hN h_12
      refine lv_astore_n (lv' := [(2, .ref (ad 4 ((G 32 (8 * i1 + v1.toNatClampNeg)).toNatClampNeg))), (0, .ref (ad 4 i0)), (1, .ref (ad 1 i1))]) hx hb dX5_readAt_8 rfl hl (by decide) rfl (fun ls hl => ?_)
      refine lv_aload_n hx hb dX5_readAt_9 rfl (lv_at hl 1 rfl) ?_
      refine co_get 4 i0 (C := RX5) (T := TX5) (N := 6) (ci := 4) (v := .int (G 40 i0)) hx hb hts hinX5 hown hK hC hi0 (fun z9 h9 => (show z9 = lq_ ad G i0 from h9).trans (lq_2 hk0 hk1)) rfl 0 (by decide) (hts (.fieldLink RX5 19 "FurPosts$Report" "from" "I") (by decide +kernel)) (fun x h9 => u_same (hts (.sameField "FurPosts$Report" "FurPosts$Letter" "from" "I") (by decide +kernel)) x h9) rfl dX5_readAt_10 ?_
      refine lv_topi (fun v22 (e22 : v22 = G 40 i0) => ?_)
      refine lv_if_lt (tgt := 50) hx hb dX5_readAt_13 (by decide) (fun h_23 => ?_) (fun h_23 => ?_)
      · skip
        have hq24 : sX_Report_readAt n G i0 i1 = G := by subst e22 e1; exact (if_neg h_2).trans ((if_neg h_12).trans (if_pos h_23))
        exact W.vret hx hb hr (fun t9 ht hW => ⟨⟨G, rfl, hq24.symm, by show cp_ (dC, dI) cI cy h0 q A ad rl L n G t9.heap; rw [ht]; exact hC⟩, hS.F ht⟩) hS.2.2 dX5_readAt_50
      · skip
        refine lv_aload_n hx hb dX5_readAt_16 rfl (lv_at hl 1 rfl) ?_
        refine co_get 4 i0 (C := RX5) (T := TX5) (N := 6) (ci := 4) (v := .int (G 40 i0)) hx hb hts hinX5 hown hK hC hi0 (fun z9 h9 => (show z9 = lq_ ad G i0 from h9).trans (lq_2 hk0 hk1)) rfl 0 (by decide) (hts (.fieldLink RX5 19 "FurPosts$Report" "from" "I") (by decide +kernel)) (fun x h9 => u_same (hts (.sameField "FurPosts$Report" "FurPosts$Letter" "from" "I") (by decide +kernel)) x h9) rfl dX5_readAt_17 ?_
        refine lv_topi (fun v25 (e25 : v25 = G 40 i0) => ?_)
        refine lv_bipush (v := 8) hx hb dX5_readAt_20 (by decide) ?_
        refine lv_icmp_ge (tgt := 50) hx hb dX5_readAt_22 (by decide) (fun h_26 => ?_) (fun h_26 => ?_)
        · skip
          have hq27 : sX_Report_readAt n G i0 i1 = G := by subst e25 e22 e1; exact (if_neg h_2).trans ((if_neg h_12).trans ((if_neg h_23).trans (if_pos h_26)))
          exact W.vret hx hb hr (fun t9 ht hW => ⟨⟨G, rfl, hq27.symm, by show cp_ (dC, dI) cI cy h0 q A ad rl L n G t9.heap; rw [ht]; exact hC⟩, hS.F ht⟩) hS.2.2 dX5_readAt_50
        · skip
          refine lv_aload_n hx hb dX5_readAt_25 rfl (lv_at hl 0 rfl) ?_
          refine lv_ifnull hx hb dX5_readAt_26 ?_
          refine lv_aload_n hx hb dX5_readAt_29 rfl (lv_at hl 1 rfl) ?_
          refine co_get 4 i0 (C := RX5) (T := TX5) (N := 6) (ci := 4) (v := .int (G 30 i0)) hx hb hts hinX5 hown hK hC hi0 (fun z9 h9 => (show z9 = lq_ ad G i0 from h9).trans (lq_2 hk0 hk1)) rfl 4 (by decide) (hts (.fieldLink RX5 9 "FurPosts$Report" "day" "I") (by decide +kernel)) (fun _ h9 => h9) rfl dX5_readAt_30 ?_
          refine lv_topi (fun v28 (e28 : v28 = G 30 i0) => ?_)
          refine lv_aload_n hx hb dX5_readAt_33 rfl (lv_at hl 0 rfl) ?_
          refine co_get 4 ((G 32 (8 * i1 + v1.toNatClampNeg)).toNatClampNeg) (C := RX5) (T := TX5) (N := 6) (ci := 4) (v := .int (G 30 ((G 32 (8 * i1 + v1.toNatClampNeg)).toNatClampNeg))) hx hb hts hinX5 hown hK hC hv12 (fun z9 h9 => (show z9 = lq_ ad G ((G 32 (8 * i1 + v1.toNatClampNeg)).toNatClampNeg) from h9).trans (lq_2 hk012 hk112)) rfl 4 (by decide) (hts (.fieldLink RX5 9 "FurPosts$Report" "day" "I") (by decide +kernel)) (fun _ h9 => h9) rfl dX5_readAt_34 ?_
          refine lv_topi (fun v29 (e29 : v29 = G 30 ((G 32 (8 * i1 + v1.toNatClampNeg)).toNatClampNeg)) => ?_)
          refine lv_icmp_lt (tgt := 50) hx hb dX5_readAt_37 (by decide) (fun h_30 => ?_) (fun h_30 => ?_)
          · skip
            have hq31 : sX_Report_readAt n G i0 i1 = G := by subst e29 e28 e25 e22 e1; exact (if_neg h_2).trans ((if_neg h_12).trans ((if_neg h_23).trans ((if_neg h_26).trans (if_pos h_30))))
            exact W.vret hx hb hr (fun t9 ht hW => ⟨⟨G, rfl, hq31.symm, by show cp_ (dC, dI) cI cy h0 q A ad rl L n G t9.heap; rw [ht]; exact hC⟩, hS.F ht⟩) hS.2.2 dX5_readAt_50
          · skip
            refine lv_aload_n hx hb dX5_readAt_40 rfl (lv_at hl 2 rfl) ?_
            refine co_get 1 i1 (C := RX4) (T := TX4) (N := 4) (ci := 3) (v := .ref (ad 8 i1)) hx hb hts hinX4 hown hK hC hi1 (fun _ h9 => h9) rfl 3 (by decide) (hts (.fieldLink RX5 28 "FurPosts$Post" "reports" "[LFurPosts$Report;") (by decide +kernel)) (fun _ h9 => h9) rfl dX5_readAt_41 ?_
            refine lv_aload_n hx hb dX5_readAt_44 rfl (lv_at hl 1 rfl) ?_
            refine co_get 4 i0 (C := RX5) (T := TX5) (N := 6) (ci := 4) (v := .int (G 40 i0)) hx hb hts hinX5 hown hK hC hi0 (fun z9 h9 => (show z9 = lq_ ad G i0 from h9).trans (lq_2 hk0 hk1)) rfl 0 (by decide) (hts (.fieldLink RX5 19 "FurPosts$Report" "from" "I") (by decide +kernel)) (fun x h9 => u_same (hts (.sameField "FurPosts$Report" "FurPosts$Letter" "from" "I") (by decide +kernel)) x h9) rfl dX5_readAt_45 ?_
            refine lv_topi (fun v32 (e32 : v32 = G 40 i0) => ?_)
            refine lv_aload_n hx hb dX5_readAt_48 rfl (lv_at hl 1 rfl) ?_
            refine cr_reps i1 i0 hx hb hK hC hS hi1 hi0 hN.2.2.2.2 hk0 hk1 (w := v32) (vb_in (by have z9 := h_23; rw [e22, ← e32] at z9; exact z9) (by have z9 := h_26; rw [e25, ← e32] at z9; exact z9) rfl) dX5_readAt_49 (fun H locs hC hS => ?_)
            obtain ⟨G33, e33, hC⟩ : ∃ G33 : Nat → Nat → Int32, G33 = up2 G 32 (8 * i1 + v32.toNatClampNeg) (nI i0) ∧ cp_ (dC, dI) cI cy h0 q A ad rl L n G33 H := ⟨_, rfl, hC⟩
            have hq34 : sX_Report_readAt n G i0 i1 = G33 := by subst e33 e32 e29 e28 e25 e22 e1; exact (if_neg h_2).trans ((if_neg h_12).trans ((if_neg h_23).trans ((if_neg h_26).trans (if_neg h_30))))
            exact W.vret hx hb hr (fun t9 ht hW => ⟨⟨G33, rfl, hq34.symm, by show cp_ (dC, dI) cI cy h0 q A ad rl L n G33 t9.heap; rw [ht]; exact hC⟩, hS.F ht⟩) hS.2.2 dX5_readAt_50
