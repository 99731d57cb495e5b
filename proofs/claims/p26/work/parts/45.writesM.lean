set_option maxHeartbeats 8000000 in
set_option maxRecDepth 100000 in
theorem m_X8_sums (l : Launch) (dC : Nat → ClassId) (dI : Nat → Nat → Nat) (h0 : Nat) (q n : Nat → Nat) (cI cZ : ClassId) (F : Nat → Nat → Int32) (hI : mi_ n F) (hN : nb_ n) (A : Nat → Prop) (hD : va_D A (mw_ h0 q n (F 44 0) cI cZ F)) (a1 : Int32) (a2 : Int32) (a3 : Int32) (hb0 : vp_in a1 6) (hb1 : vp_in a2 6) : Met l yX8_sums wsX8_sums ({ frames := 0, cells := 0, slots := 0, locals := 0 }) (va_Pc [.ref h0, .int a1, .int a2, .int a3] (pu_P (dC, dI) vwCl (mt_ cI cZ) (mw_ h0 q n (F 44 0) cI cZ F))) (va_Qv (fun u : Nat → Nat → Int32 => u = rM_sums n F a1 a2 a3 ∧ va_D A (mw_ h0 q n (u 44 0) cI cZ u) ∧ mi_ n u) (fun u s' => va_P (dC, dI) vwCl (mw_ h0 q n (u 44 0) cI cZ u) s'.heap) A) 0 0 A := by
  refine Met.ofW (cc := cX8_sums) (maxL := 4) (ret := none) (by decide) rfl ?_
  intro p e s m args below meth c s₁ B hml hv
  obtain ⟨rfl, hP, hK⟩ := hv
  have hx := B.exec
  have hb := B.bytes
  have hr := B.returns
  have hts := atoms_spec (ws := wsX8_sums) B.pre
  have hown : s.vm.findClass RX8 = some m.cls := findClass_of_methodNamed B.named
  have hlocks := B.notSynchronized
  have hinX8 : ∀ w ∈ u_ws RX8 TX8 37, w ∈ wsX8_sums := by decide +kernel
  have hS : va_S A s.heap s.heap [] := va_S.rf
  have hl := lv_entry ([.ref h0, .int a1, .int a2, .int a3]) (n := 4) (Nat.le_of_ble_eq_true rfl)
  rw [lg_entry_eq]
  generalize (lg_sl ([.ref h0, .int a1, .int a2, .int a3]) ++ List.replicate (4 - (lg_sl ([.ref h0, .int a1, .int a2, .int a3])).length) Slot.unset).toArray = ls at hl ⊢
  have hl : lv_has ls 4 [(0, .ref h0), (1, .int a1), (2, .int a2), (3, .int a3)] := hl
  obtain ⟨H, hH, hP, hS⟩ : ∃ H, H = s.heap ∧ va_P (dC, dI) vwCl (mw_ h0 q n (F 44 0) cI cZ F) H ∧ va_S A s.heap H [] := ⟨_, rfl, hP, hS⟩
  rw [← hH]
  generalize ([] : List Loc) = locs at hS ⊢
  refine lv_aload_n hx hb dX8_sums_0 rfl (lv_at hl 0 rfl) ?_
  refine va_get (D := (dC, dI)) (ci := 7) (v := .ref (q 34)) (C := RX8) (T := TX8) (N := 37) hx hb hts hinX8 hown hK hP 0 rfl rfl 34 (by decide) (hts (.fieldLink RX8 98 "FurPostsModel" "sums" "[I") (by decide +kernel)) (fun _ h9 => h9) rfl dX8_sums_1 ?_
  refine lv_bipush (v := 6) hx hb dX8_sums_4 (by decide) ?_
  refine lv_iload_n hx hb dX8_sums_6 rfl (lv_at hl 1 rfl) ?_
  refine lv_imul hx hb dX8_sums_7 ?_
  refine lv_iload_n hx hb dX8_sums_8 rfl (lv_at hl 2 rfl) ?_
  refine lv_iadd hx hb dX8_sums_9 ?_
  refine lv_dup2_11 hx hb dX8_sums_10 rfl rfl ?_
  refine va_iald hx hb hK hP 30 0 rfl rfl (i := ((6 * a1) + a2)) (vp_lin (a := 6) (b := 6) (m := 6) hb0 hb1 rfl (by decide)) dX8_sums_11 ?_
  refine lv_topi (fun v1 (e1 : v1 = F 34 ((6 * a1) + a2).toNatClampNeg) => ?_)
  rw [(tn_lin (k := 6) (a := 6) (b := 6) (m := 6) hb0 hb1 rfl (by decide))] at e1
  refine lv_iload_n hx hb dX8_sums_12 rfl (lv_at hl 3 rfl) ?_
  refine lv_iadd hx hb dX8_sums_13 ?_
  refine va_iast hx hb hK hP hD hS 30 0 rfl rfl (i := ((6 * a1) + a2)) (x := (v1 + a3)) (vp_lin (a := 6) (b := 6) (m := 6) hb0 hb1 rfl (by decide)) dX8_sums_14 (fun H locs hP2 hD2 hS => ?_)
  obtain ⟨F2, e2, hP, hD, hI2⟩ : ∃ F2 : Nat → Nat → Int32, F2 = up2 F 34 ((6 * a1) + a2).toNatClampNeg (v1 + a3) ∧ va_P (dC, dI) vwCl (mw_ h0 q n (F2 44 0) cI cZ F2) H ∧ va_D A (mw_ h0 q n (F2 44 0) cI cZ F2) ∧ mi_ n F2 := ⟨_, rfl, hP2, hD2, hI⟩
  rw [(tn_lin (k := 6) (a := 6) (b := 6) (m := 6) hb0 hb1 rfl (by decide))] at e2
  have hq3 : rM_sums n F a1 a2 a3 = F2 := by subst e2 e1; exact rfl
  exact W.vret hx hb hr (fun t9 ht hW => ⟨⟨F2, rfl, ⟨hq3.symm, hD, hI2⟩, by show va_P (dC, dI) vwCl _ t9.heap; rw [ht]; exact hP⟩, hS.F ht⟩) hS.2.2 dX8_sums_15

set_option maxHeartbeats 8000000 in
set_option maxRecDepth 100000 in
theorem m_X8_store (l : Launch) (dC : Nat → ClassId) (dI : Nat → Nat → Nat) (h0 : Nat) (q n : Nat → Nat) (cI cZ : ClassId) (F : Nat → Nat → Int32) (hI : mi_ n F) (hN : nb_ n) (A : Nat → Prop) (hD : va_D A (mw_ h0 q n (F 44 0) cI cZ F)) (a1 : Int32) (a2 : Int32) (a3 : Int32) : Met l yX8_store wsX8_store ({ frames := 2, cells := 0, slots := 0, locals := 43 }) (va_Pc [.ref h0, .int a1, .int a2, .int a3] (pu_P (dC, dI) vwCl (mt_ cI cZ) (mw_ h0 q n (F 44 0) cI cZ F))) (va_Qi (fun r (u : Nat → Nat → Int32) => (r, u) = rM_store n F a1 a2 a3 ∧ va_D A (mw_ h0 q n (u 44 0) cI cZ u) ∧ mi_ n u) (fun u s' => va_P (dC, dI) vwCl (mw_ h0 q n (u 44 0) cI cZ u) s'.heap) A) 0 0 A := by
  refine Met.ofW (cc := cX8_store) (maxL := 4) (ret := (some .int)) (by decide) rfl ?_
  intro p e s m args below meth c s₁ B hml hv
  obtain ⟨rfl, hP, hK⟩ := hv
  have hx := B.exec
  have hb := B.bytes
  have hr := B.returns
  have hts := atoms_spec (ws := wsX8_store) B.pre
  have hown : s.vm.findClass RX8 = some m.cls := findClass_of_methodNamed B.named
  have hlocks := B.notSynchronized
  have hinX8 : ∀ w ∈ u_ws RX8 TX8 37, w ∈ wsX8_store := by decide +kernel
  have hS : va_S A s.heap s.heap [] := va_S.rf
  have hl := lv_entry ([.ref h0, .int a1, .int a2, .int a3]) (n := 4) (Nat.le_of_ble_eq_true rfl)
  rw [lg_entry_eq]
  generalize (lg_sl ([.ref h0, .int a1, .int a2, .int a3]) ++ List.replicate (4 - (lg_sl ([.ref h0, .int a1, .int a2, .int a3])).length) Slot.unset).toArray = ls at hl ⊢
  have hl : lv_has ls 4 [(0, .ref h0), (1, .int a1), (2, .int a2), (3, .int a3)] := hl
  obtain ⟨H, hH, hP, hS⟩ : ∃ H, H = s.heap ∧ va_P (dC, dI) vwCl (mw_ h0 q n (F 44 0) cI cZ F) H ∧ va_S A s.heap H [] := ⟨_, rfl, hP, hS⟩
  rw [← hH]
  generalize ([] : List Loc) = locs at hS ⊢
  refine lv_aload_n hx hb dX8_store_0 rfl (lv_at hl 0 rfl) ?_
  refine lv_iload_n hx hb dX8_store_1 rfl (lv_at hl 1 rfl) ?_
  refine pu_call (va_runV (As := [.int a1]) (rest := []) ⟨hx, hb, hml, hown, hts⟩ (k_X8_isPost l dC dI h0 q n cI cZ F hI hN a1) (cwV 1 hts gX8_store_X8_isPost rfl rfl rfl (by decide +kernel) ⟨Nat.le_of_ble_eq_true rfl, Nat.le_of_ble_eq_true rfl⟩) (pu_pre hP hK (ci := 7) (q0 := 0) rfl rfl) rfl rfl hl.1 rfl (lv_room (Nat.le_of_ble_eq_true rfl)) dX8_store_2 ⟨Nat.le_of_ble_eq_true rfl, Nat.le_of_ble_eq_true rfl⟩) ?_
  rw [show rM_isPost n F a1 = (sp_in a1 0 ((nI (n 1)) - 1)) from rfl]
  refine lv_if_eq (tgt := 39) hx hb dX8_store_5 (by decide) (fun h_1 => ?_) (fun h_1 => ?_)
  · skip
    refine lv_iconst (v := (-1)) hx hb dX8_store_39 (by decide) ?_
    have hq2 : rM_store n F a1 a2 a3 = ((-1), F) := by exact (if_pos h_1)
    exact W.iret (v := (-1)) hx hb hr (fun t9 ht hW => ⟨⟨(-1), F, rfl, ⟨hq2.symm, hD, hI⟩, by show va_P (dC, dI) vwCl _ t9.heap; rw [ht]; exact hP⟩, hS.F ht⟩) hS.2.2 dX8_store_40
  · skip
    refine lv_iload_n hx hb dX8_store_8 rfl (lv_at hl 2 rfl) ?_
    refine pu_call (va_runS (As := [.int a2]) (rest := []) ⟨hx, hb, hml, hown, hts⟩ (c_X8_isWare l a2) (va_cwS 1 hts gX8_store_X8_isWare rfl rfl rfl (by decide +kernel) ⟨Nat.le_of_ble_eq_true rfl, Nat.le_of_ble_eq_true rfl⟩) pu_preS rfl rfl hl.1 rfl (lv_room (Nat.le_of_ble_eq_true rfl)) dX8_store_9 ⟨Nat.le_of_ble_eq_true rfl, Nat.le_of_ble_eq_true rfl⟩) ?_
    refine lv_if_eq (tgt := 39) hx hb dX8_store_12 (by decide) (fun h_3 => ?_) (fun h_3 => ?_)
    · skip
      refine lv_iconst (v := (-1)) hx hb dX8_store_39 (by decide) ?_
      have hq4 : rM_store n F a1 a2 a3 = ((-1), F) := by exact (if_neg h_1).trans (if_pos h_3)
      exact W.iret (v := (-1)) hx hb hr (fun t9 ht hW => ⟨⟨(-1), F, rfl, ⟨hq4.symm, hD, hI⟩, by show va_P (dC, dI) vwCl _ t9.heap; rw [ht]; exact hP⟩, hS.F ht⟩) hS.2.2 dX8_store_40
    · skip
      refine lv_iload_n hx hb dX8_store_15 rfl (lv_at hl 3 rfl) ?_
      refine lv_iconst (v := 1) hx hb dX8_store_16 (by decide) ?_
      refine lv_sipush (v := 10000) hx hb dX8_store_17 (by decide) ?_
      refine pu_call (va_runS (As := [.int a3, .int 1, .int 10000]) (rest := []) ⟨hx, hb, hml, hown, hts⟩ (c_X8_in l a3 1 10000) (va_cwS 3 hts gX8_store_X8_in rfl rfl rfl (by decide +kernel) ⟨Nat.le_of_ble_eq_true rfl, Nat.le_of_ble_eq_true rfl⟩) pu_preS rfl rfl hl.1 rfl (lv_room (Nat.le_of_ble_eq_true rfl)) dX8_store_20 ⟨Nat.le_of_ble_eq_true rfl, Nat.le_of_ble_eq_true rfl⟩) ?_
      refine lv_if_eq (tgt := 39) hx hb dX8_store_23 (by decide) (fun h_5 => ?_) (fun h_5 => ?_)
      · skip
        refine lv_iconst (v := (-1)) hx hb dX8_store_39 (by decide) ?_
        have hq6 : rM_store n F a1 a2 a3 = ((-1), F) := by exact (if_neg h_1).trans ((if_neg h_3).trans (if_pos h_5))
        exact W.iret (v := (-1)) hx hb hr (fun t9 ht hW => ⟨⟨(-1), F, rfl, ⟨hq6.symm, hD, hI⟩, by show va_P (dC, dI) vwCl _ t9.heap; rw [ht]; exact hP⟩, hS.F ht⟩) hS.2.2 dX8_store_40
      · skip
        refine lv_aload_n hx hb dX8_store_26 rfl (lv_at hl 0 rfl) ?_
        refine lv_iload_n hx hb dX8_store_27 rfl (lv_at hl 1 rfl) ?_
        refine lv_iload_n hx hb dX8_store_28 rfl (lv_at hl 2 rfl) ?_
        refine pu_call (va_runV (As := [.int a1, .int a2]) (rest := []) ⟨hx, hb, hml, hown, hts⟩ (k_X8_stored l dC dI h0 q n cI cZ F hI hN a1 a2 (sp_vpn h_1 (show n 1 ≤ 8 by omega) (by decide)) (sp_vp h_3 rfl)) (cwV 2 hts gX8_store_X8_stored rfl rfl rfl (by decide +kernel) ⟨Nat.le_of_ble_eq_true rfl, Nat.le_of_ble_eq_true rfl⟩) (pu_pre hP hK (ci := 7) (q0 := 0) rfl rfl) rfl rfl hl.1 rfl (lv_room (Nat.le_of_ble_eq_true rfl)) dX8_store_29 ⟨Nat.le_of_ble_eq_true rfl, Nat.le_of_ble_eq_true rfl⟩) ?_
        refine lv_topi (fun r7 (e7 : r7 = rM_stored n F a1 a2) => ?_)
        refine lv_iload_n hx hb dX8_store_32 rfl (lv_at hl 3 rfl) ?_
        refine lv_iadd hx hb dX8_store_33 ?_
        refine lv_ldc (v := 100000) hx hb hown (hts (.constant RX8 133 (100000)) (by decide +kernel)) dX8_store_34 ?_
        refine lv_icmp_le (tgt := 41) hx hb dX8_store_36 (by decide) (fun h_8 => ?_) (fun h_8 => ?_)
        · skip
          refine lv_aload_n hx hb dX8_store_41 rfl (lv_at hl 0 rfl) ?_
          refine va_get (D := (dC, dI)) (ci := 7) (v := .ref (q 2)) (C := RX8) (T := TX8) (N := 37) hx hb hts hinX8 hown hK hP 0 rfl rfl 2 (by decide) (hts (.fieldLink RX8 9 "FurPostsModel" "store" "[I") (by decide +kernel)) (fun _ h9 => h9) rfl dX8_store_42 ?_
          refine lv_bipush (v := 6) hx hb dX8_store_45 (by decide) ?_
          refine lv_iload_n hx hb dX8_store_47 rfl (lv_at hl 1 rfl) ?_
          refine lv_imul hx hb dX8_store_48 ?_
          refine lv_iload_n hx hb dX8_store_49 rfl (lv_at hl 2 rfl) ?_
          refine lv_iadd hx hb dX8_store_50 ?_
          refine lv_dup2_11 hx hb dX8_store_51 rfl rfl ?_
          refine va_iald hx hb hK hP 1 0 rfl rfl (i := ((6 * a1) + a2)) (vp_lin (a := 8) (b := 6) (m := 6) (sp_vpn h_1 (show n 1 ≤ 8 by omega) (by decide)) (sp_vp h_3 rfl) rfl (by decide)) dX8_store_52 ?_
          refine lv_topi (fun v9 (e9 : v9 = F 2 ((6 * a1) + a2).toNatClampNeg) => ?_)
          rw [(tn_lin (k := 6) (a := 8) (b := 6) (m := 6) (sp_vpn h_1 (show n 1 ≤ 8 by omega) (by decide)) (sp_vp h_3 rfl) rfl (by decide))] at e9
          refine lv_iload_n hx hb dX8_store_53 rfl (lv_at hl 3 rfl) ?_
          refine lv_iadd hx hb dX8_store_54 ?_
          refine va_iast hx hb hK hP hD hS 1 0 rfl rfl (i := ((6 * a1) + a2)) (x := (v9 + a3)) (vp_lin (a := 8) (b := 6) (m := 6) (sp_vpn h_1 (show n 1 ≤ 8 by omega) (by decide)) (sp_vp h_3 rfl) rfl (by decide)) dX8_store_55 (fun H locs hP2 hD2 hS => ?_)
          obtain ⟨F10, e10, hP, hD, hI10⟩ : ∃ F10 : Nat → Nat → Int32, F10 = up2 F 2 ((6 * a1) + a2).toNatClampNeg (v9 + a3) ∧ va_P (dC, dI) vwCl (mw_ h0 q n (F10 44 0) cI cZ F10) H ∧ va_D A (mw_ h0 q n (F10 44 0) cI cZ F10) ∧ mi_ n F10 := ⟨_, rfl, hP2, hD2, hI⟩
          rw [(tn_lin (k := 6) (a := 8) (b := 6) (m := 6) (sp_vpn h_1 (show n 1 ≤ 8 by omega) (by decide)) (sp_vp h_3 rfl) rfl (by decide))] at e10
          refine lv_aload_n hx hb dX8_store_56 rfl (lv_at hl 0 rfl) ?_
          refine lv_iconst (v := 0) hx hb dX8_store_57 (by decide) ?_
          refine lv_iload_n hx hb dX8_store_58 rfl (lv_at hl 2 rfl) ?_
          refine lv_iload_n hx hb dX8_store_59 rfl (lv_at hl 3 rfl) ?_
          refine va_callv (va_runV (As := [.int 0, .int a2, .int a3]) (rest := []) ⟨hx, hb, hml, hown, hts⟩ (m_X8_sums l dC dI h0 q n cI cZ F10 hI10 hN A hD 0 a2 a3 (by unfold vp_in; decide) (sp_vp h_3 rfl)) (cwV 3 hts gX8_store_X8_sums rfl rfl rfl (by decide +kernel) ⟨Nat.le_of_ble_eq_true rfl, Nat.le_of_ble_eq_true rfl⟩) (pu_pre hP hK (ci := 7) (q0 := 0) rfl rfl) rfl rfl hl.1 rfl (lv_room (Nat.le_of_ble_eq_true rfl)) dX8_store_60 ⟨Nat.le_of_ble_eq_true rfl, Nat.le_of_ble_eq_true rfl⟩) hS (fun _ _ h => h) (fun _ h => h) (fun u11 st11 H locs ht11 hvm11 hw11 hB11 hz11 hk11 hS => ?_)
          obtain ⟨hq11, hD11, hI11⟩ := hw11
          obtain ⟨F11, e11, hP, hD, hI11⟩ : ∃ F11 : Nat → Nat → Int32, F11 = (rM_sums n F10 0 a2 a3) ∧ va_P (dC, dI) vwCl (mw_ h0 q n (F11 44 0) cI cZ F11) H ∧ va_D A (mw_ h0 q n (F11 44 0) cI cZ F11) ∧ mi_ n F11 := ⟨u11, hq11, by rw [← ht11]; exact hB11, hD11, hI11⟩
          refine lv_aload_n hx hb dX8_store_63 rfl (lv_at hl 0 rfl) ?_
          refine lv_iload_n hx hb dX8_store_64 rfl (lv_at hl 1 rfl) ?_
          refine lv_iload_n hx hb dX8_store_65 rfl (lv_at hl 2 rfl) ?_
          refine pu_call (va_runV (As := [.int a1, .int a2]) (rest := []) ⟨hx, hb, hml, hown, hts⟩ (k_X8_stored l dC dI h0 q n cI cZ F11 hI11 hN a1 a2 (sp_vpn h_1 (show n 1 ≤ 8 by omega) (by decide)) (sp_vp h_3 rfl)) (cwV 2 hts gX8_store_X8_stored rfl rfl rfl (by decide +kernel) ⟨Nat.le_of_ble_eq_true rfl, Nat.le_of_ble_eq_true rfl⟩) (pu_pre hP hK (ci := 7) (q0 := 0) rfl rfl) rfl rfl hl.1 rfl (lv_room (Nat.le_of_ble_eq_true rfl)) dX8_store_66 ⟨Nat.le_of_ble_eq_true rfl, Nat.le_of_ble_eq_true rfl⟩) ?_
          refine lv_topi (fun r12 (e12 : r12 = rM_stored n F11 a1 a2) => ?_)
          have hq13 : rM_store n F a1 a2 a3 = (r12, F11) := by subst e12 e11 e10 e9 e7; exact (if_neg h_1).trans ((if_neg h_3).trans ((if_neg h_5).trans (if_pos h_8)))
          exact W.iret (v := r12) hx hb hr (fun t9 ht hW => ⟨⟨r12, F11, rfl, ⟨hq13.symm, hD, hI11⟩, by show va_P (dC, dI) vwCl _ t9.heap; rw [ht]; exact hP⟩, hS.F ht⟩) hS.2.2 dX8_store_69
        · skip
          refine lv_iconst (v := (-1)) hx hb dX8_store_39 (by decide) ?_
          have hq14 : rM_store n F a1 a2 a3 = ((-1), F) := by subst e7; exact (if_neg h_1).trans ((if_neg h_3).trans ((if_neg h_5).trans (if_neg h_8)))
          exact W.iret (v := (-1)) hx hb hr (fun t9 ht hW => ⟨⟨(-1), F, rfl, ⟨hq14.symm, hD, hI⟩, by show va_P (dC, dI) vwCl _ t9.heap; rw [ht]; exact hP⟩, hS.F ht⟩) hS.2.2 dX8_store_40

set_option maxHeartbeats 8000000 in
set_option maxRecDepth 100000 in
theorem m_X8_spoil (l : Launch) (dC : Nat → ClassId) (dI : Nat → Nat → Nat) (h0 : Nat) (q n : Nat → Nat) (cI cZ : ClassId) (F : Nat → Nat → Int32) (hI : mi_ n F) (hN : nb_ n) (A : Nat → Prop) (hD : va_D A (mw_ h0 q n (F 44 0) cI cZ F)) (a1 : Int32) (a2 : Int32) (a3 : Int32) : Met l yX8_spoil wsX8_spoil ({ frames := 3, cells := 0, slots := 0, locals := 64 }) (va_Pc [.ref h0, .int a1, .int a2, .int a3] (pu_P (dC, dI) vwCl (mt_ cI cZ) (mw_ h0 q n (F 44 0) cI cZ F))) (va_Qi (fun r (u : Nat → Nat → Int32) => (r, u) = rM_spoil n F a1 a2 a3 ∧ va_D A (mw_ h0 q n (u 44 0) cI cZ u) ∧ mi_ n u) (fun u s' => va_P (dC, dI) vwCl (mw_ h0 q n (u 44 0) cI cZ u) s'.heap) A) 0 0 A := by
  refine Met.ofW (cc := cX8_spoil) (maxL := 4) (ret := (some .boolean)) (by decide) rfl ?_
  intro p e s m args below meth c s₁ B hml hv
  obtain ⟨rfl, hP, hK⟩ := hv
  have hx := B.exec
  have hb := B.bytes
  have hr := B.returns
  have hts := atoms_spec (ws := wsX8_spoil) B.pre
  have hown : s.vm.findClass RX8 = some m.cls := findClass_of_methodNamed B.named
  have hlocks := B.notSynchronized
  have hinX8 : ∀ w ∈ u_ws RX8 TX8 37, w ∈ wsX8_spoil := by decide +kernel
  have hS : va_S A s.heap s.heap [] := va_S.rf
  have hl := lv_entry ([.ref h0, .int a1, .int a2, .int a3]) (n := 4) (Nat.le_of_ble_eq_true rfl)
  rw [lg_entry_eq]
  generalize (lg_sl ([.ref h0, .int a1, .int a2, .int a3]) ++ List.replicate (4 - (lg_sl ([.ref h0, .int a1, .int a2, .int a3])).length) Slot.unset).toArray = ls at hl ⊢
  have hl : lv_has ls 4 [(0, .ref h0), (1, .int a1), (2, .int a2), (3, .int a3)] := hl
  obtain ⟨H, hH, hP, hS⟩ : ∃ H, H = s.heap ∧ va_P (dC, dI) vwCl (mw_ h0 q n (F 44 0) cI cZ F) H ∧ va_S A s.heap H [] := ⟨_, rfl, hP, hS⟩
  rw [← hH]
  generalize ([] : List Loc) = locs at hS ⊢
  refine lv_aload_n hx hb dX8_spoil_0 rfl (lv_at hl 0 rfl) ?_
  refine lv_iload_n hx hb dX8_spoil_1 rfl (lv_at hl 1 rfl) ?_
  refine pu_call (va_runV (As := [.int a1]) (rest := []) ⟨hx, hb, hml, hown, hts⟩ (k_X8_isAway l dC dI h0 q n cI cZ F hI hN a1) (cwV 1 hts gX8_spoil_X8_isAway rfl rfl rfl (by decide +kernel) ⟨Nat.le_of_ble_eq_true rfl, Nat.le_of_ble_eq_true rfl⟩) (pu_pre hP hK (ci := 7) (q0 := 0) rfl rfl) rfl rfl hl.1 rfl (lv_room (Nat.le_of_ble_eq_true rfl)) dX8_spoil_2 ⟨Nat.le_of_ble_eq_true rfl, Nat.le_of_ble_eq_true rfl⟩) ?_
  refine lv_topi (fun r1 (e1 : r1 = rM_isAway n F a1) => ?_)
  have hg1 : ¬ r1 = 0 → vp_in a1 120 := by rw [e1]; exact rM_isAway_b hN
  refine lv_if_eq (tgt := 34) hx hb dX8_spoil_5 (by decide) (fun h_2 => ?_) (fun h_2 => ?_)
  · skip
    refine lv_iconst (v := 0) hx hb dX8_spoil_34 (by decide) ?_
    have hq3 : rM_spoil n F a1 a2 a3 = (0, F) := by subst e1; exact (if_pos h_2)
    exact W.zret (v := 0) hx hb hr rfl (fun t9 ht hW => ⟨⟨0, F, rfl, ⟨hq3.symm, hD, hI⟩, by show va_P (dC, dI) vwCl _ t9.heap; rw [ht]; exact hP⟩, hS.F ht⟩) hS.2.2 dX8_spoil_35
  · skip
    refine lv_iload_n hx hb dX8_spoil_8 rfl (lv_at hl 2 rfl) ?_
    refine pu_call (va_runS (As := [.int a2]) (rest := []) ⟨hx, hb, hml, hown, hts⟩ (c_X8_isWare l a2) (va_cwS 1 hts gX8_spoil_X8_isWare rfl rfl rfl (by decide +kernel) ⟨Nat.le_of_ble_eq_true rfl, Nat.le_of_ble_eq_true rfl⟩) pu_preS rfl rfl hl.1 rfl (lv_room (Nat.le_of_ble_eq_true rfl)) dX8_spoil_9 ⟨Nat.le_of_ble_eq_true rfl, Nat.le_of_ble_eq_true rfl⟩) ?_
    refine lv_if_eq (tgt := 34) hx hb dX8_spoil_12 (by decide) (fun h_4 => ?_) (fun h_4 => ?_)
    · skip
      refine lv_iconst (v := 0) hx hb dX8_spoil_34 (by decide) ?_
      have hq5 : rM_spoil n F a1 a2 a3 = (0, F) := by subst e1; exact (if_neg h_2).trans (if_pos h_4)
      exact W.zret (v := 0) hx hb hr rfl (fun t9 ht hW => ⟨⟨0, F, rfl, ⟨hq5.symm, hD, hI⟩, by show va_P (dC, dI) vwCl _ t9.heap; rw [ht]; exact hP⟩, hS.F ht⟩) hS.2.2 dX8_spoil_35
    · skip
      refine lv_iload_n hx hb dX8_spoil_15 rfl (lv_at hl 3 rfl) ?_
      refine lv_iconst (v := 1) hx hb dX8_spoil_16 (by decide) ?_
      refine lv_aload_n hx hb dX8_spoil_17 rfl (lv_at hl 0 rfl) ?_
      refine va_get (D := (dC, dI)) (ci := 7) (v := .ref (q 22)) (C := RX8) (T := TX8) (N := 37) hx hb hts hinX8 hown hK hP 0 rfl rfl 22 (by decide) (hts (.fieldLink RX8 64 "FurPostsModel" "has" "[I") (by decide +kernel)) (fun _ h9 => h9) rfl dX8_spoil_18 ?_
      refine lv_bipush (v := 6) hx hb dX8_spoil_21 (by decide) ?_
      refine lv_iload_n hx hb dX8_spoil_23 rfl (lv_at hl 1 rfl) ?_
      refine lv_imul hx hb dX8_spoil_24 ?_
      refine lv_iload_n hx hb dX8_spoil_25 rfl (lv_at hl 2 rfl) ?_
      refine lv_iadd hx hb dX8_spoil_26 ?_
      refine va_iald hx hb hK hP 19 0 rfl rfl (i := ((6 * a1) + a2)) (vp_lin (a := 120) (b := 6) (m := 6) ((hg1 h_2)) (sp_vp h_4 rfl) rfl (by decide)) dX8_spoil_27 ?_
      refine lv_topi (fun v6 (e6 : v6 = F 22 ((6 * a1) + a2).toNatClampNeg) => ?_)
      rw [(tn_lin (k := 6) (a := 120) (b := 6) (m := 6) ((hg1 h_2)) (sp_vp h_4 rfl) rfl (by decide))] at e6
      refine pu_call (va_runS (As := [.int a3, .int 1, .int v6]) (rest := []) ⟨hx, hb, hml, hown, hts⟩ (c_X8_in l a3 1 v6) (va_cwS 3 hts gX8_spoil_X8_in rfl rfl rfl (by decide +kernel) ⟨Nat.le_of_ble_eq_true rfl, Nat.le_of_ble_eq_true rfl⟩) pu_preS rfl rfl hl.1 rfl (lv_room (Nat.le_of_ble_eq_true rfl)) dX8_spoil_28 ⟨Nat.le_of_ble_eq_true rfl, Nat.le_of_ble_eq_true rfl⟩) ?_
      refine lv_if_ne (tgt := 36) hx hb dX8_spoil_31 (by decide) (fun h_7 => ?_) (fun h_7 => ?_)
      · skip
        refine lv_aload_n hx hb dX8_spoil_36 rfl (lv_at hl 0 rfl) ?_
        refine va_get (D := (dC, dI)) (ci := 7) (v := .ref (q 22)) (C := RX8) (T := TX8) (N := 37) hx hb hts hinX8 hown hK hP 0 rfl rfl 22 (by decide) (hts (.fieldLink RX8 64 "FurPostsModel" "has" "[I") (by decide +kernel)) (fun _ h9 => h9) rfl dX8_spoil_37 ?_
        refine lv_bipush (v := 6) hx hb dX8_spoil_40 (by decide) ?_
        refine lv_iload_n hx hb dX8_spoil_42 rfl (lv_at hl 1 rfl) ?_
        refine lv_imul hx hb dX8_spoil_43 ?_
        refine lv_iload_n hx hb dX8_spoil_44 rfl (lv_at hl 2 rfl) ?_
        refine lv_iadd hx hb dX8_spoil_45 ?_
        refine lv_dup2_11 hx hb dX8_spoil_46 rfl rfl ?_
        refine va_iald hx hb hK hP 19 0 rfl rfl (i := ((6 * a1) + a2)) (vp_lin (a := 120) (b := 6) (m := 6) ((hg1 h_2)) (sp_vp h_4 rfl) rfl (by decide)) dX8_spoil_47 ?_
        refine lv_topi (fun v8 (e8 : v8 = F 22 ((6 * a1) + a2).toNatClampNeg) => ?_)
        rw [(tn_lin (k := 6) (a := 120) (b := 6) (m := 6) ((hg1 h_2)) (sp_vp h_4 rfl) rfl (by decide))] at e8
        refine lv_iload_n hx hb dX8_spoil_48 rfl (lv_at hl 3 rfl) ?_
        refine lv_isub hx hb dX8_spoil_49 ?_
        refine va_iast hx hb hK hP hD hS 19 0 rfl rfl (i := ((6 * a1) + a2)) (x := (v8 - a3)) (vp_lin (a := 120) (b := 6) (m := 6) ((hg1 h_2)) (sp_vp h_4 rfl) rfl (by decide)) dX8_spoil_50 (fun H locs hP2 hD2 hS => ?_)
        obtain ⟨F9, e9, hP, hD, hI9⟩ : ∃ F9 : Nat → Nat → Int32, F9 = up2 F 22 ((6 * a1) + a2).toNatClampNeg (v8 - a3) ∧ va_P (dC, dI) vwCl (mw_ h0 q n (F9 44 0) cI cZ F9) H ∧ va_D A (mw_ h0 q n (F9 44 0) cI cZ F9) ∧ mi_ n F9 := ⟨_, rfl, hP2, hD2, hI⟩
        rw [(tn_lin (k := 6) (a := 120) (b := 6) (m := 6) ((hg1 h_2)) (sp_vp h_4 rfl) rfl (by decide))] at e9
        refine lv_aload_n hx hb dX8_spoil_51 rfl (lv_at hl 0 rfl) ?_
        refine lv_iconst (v := 5) hx hb dX8_spoil_52 (by decide) ?_
        refine lv_iload_n hx hb dX8_spoil_53 rfl (lv_at hl 2 rfl) ?_
        refine lv_iload_n hx hb dX8_spoil_54 rfl (lv_at hl 3 rfl) ?_
        refine va_callv (va_runV (As := [.int 5, .int a2, .int a3]) (rest := []) ⟨hx, hb, hml, hown, hts⟩ (m_X8_sums l dC dI h0 q n cI cZ F9 hI9 hN A hD 5 a2 a3 (by unfold vp_in; decide) (sp_vp h_4 rfl)) (cwV 3 hts gX8_spoil_X8_sums rfl rfl rfl (by decide +kernel) ⟨Nat.le_of_ble_eq_true rfl, Nat.le_of_ble_eq_true rfl⟩) (pu_pre hP hK (ci := 7) (q0 := 0) rfl rfl) rfl rfl hl.1 rfl (lv_room (Nat.le_of_ble_eq_true rfl)) dX8_spoil_55 ⟨Nat.le_of_ble_eq_true rfl, Nat.le_of_ble_eq_true rfl⟩) hS (fun _ _ h => h) (fun _ h => h) (fun u10 st10 H locs ht10 hvm10 hw10 hB10 hz10 hk10 hS => ?_)
        obtain ⟨hq10, hD10, hI10⟩ := hw10
        obtain ⟨F10, e10, hP, hD, hI10⟩ : ∃ F10 : Nat → Nat → Int32, F10 = (rM_sums n F9 5 a2 a3) ∧ va_P (dC, dI) vwCl (mw_ h0 q n (F10 44 0) cI cZ F10) H ∧ va_D A (mw_ h0 q n (F10 44 0) cI cZ F10) ∧ mi_ n F10 := ⟨u10, hq10, by rw [← ht10]; exact hB10, hD10, hI10⟩
        refine lv_iconst (v := 1) hx hb dX8_spoil_58 (by decide) ?_
        have hq11 : rM_spoil n F a1 a2 a3 = (1, F10) := by subst e10 e9 e8 e6 e1; exact (if_neg h_2).trans ((if_neg h_4).trans (if_neg h_7))
        exact W.zret (v := 1) hx hb hr rfl (fun t9 ht hW => ⟨⟨1, F10, rfl, ⟨hq11.symm, hD, hI10⟩, by show va_P (dC, dI) vwCl _ t9.heap; rw [ht]; exact hP⟩, hS.F ht⟩) hS.2.2 dX8_spoil_59
      · skip
        refine lv_iconst (v := 0) hx hb dX8_spoil_34 (by decide) ?_
        have hq12 : rM_spoil n F a1 a2 a3 = (0, F) := by subst e6 e1; exact (if_neg h_2).trans ((if_neg h_4).trans (if_pos h_7))
        exact W.zret (v := 0) hx hb hr rfl (fun t9 ht hW => ⟨⟨0, F, rfl, ⟨hq12.symm, hD, hI⟩, by show va_P (dC, dI) vwCl _ t9.heap; rw [ht]; exact hP⟩, hS.F ht⟩) hS.2.2 dX8_spoil_35

set_option maxHeartbeats 8000000 in
set_option maxRecDepth 100000 in
theorem m_X8_sell (l : Launch) (dC : Nat → ClassId) (dI : Nat → Nat → Nat) (h0 : Nat) (q n : Nat → Nat) (cI cZ : ClassId) (F : Nat → Nat → Int32) (hI : mi_ n F) (hN : nb_ n) (A : Nat → Prop) (hD : va_D A (mw_ h0 q n (F 44 0) cI cZ F)) (a1 : Int32) (a2 : Int32) (a3 : Int32) (a4 : Int32) : Met l yX8_sell wsX8_sell ({ frames := 3, cells := 0, slots := 0, locals := 67 }) (va_Pc [.ref h0, .int a1, .int a2, .int a3, .int a4] (pu_P (dC, dI) vwCl (mt_ cI cZ) (mw_ h0 q n (F 44 0) cI cZ F))) (va_Qi (fun r (u : Nat → Nat → Int32) => (r, u) = rM_sell n F a1 a2 a3 a4 ∧ va_D A (mw_ h0 q n (u 44 0) cI cZ u) ∧ mi_ n u) (fun u s' => va_P (dC, dI) vwCl (mw_ h0 q n (u 44 0) cI cZ u) s'.heap) A) 0 0 A := by
  refine Met.ofW (cc := cX8_sell) (maxL := 7) (ret := (some .int)) (by decide) rfl ?_
  intro p e s m args below meth c s₁ B hml hv
  obtain ⟨rfl, hP, hK⟩ := hv
  have hx := B.exec
  have hb := B.bytes
  have hr := B.returns
  have hts := atoms_spec (ws := wsX8_sell) B.pre
  have hown : s.vm.findClass RX8 = some m.cls := findClass_of_methodNamed B.named
  have hlocks := B.notSynchronized
  have hinX8 : ∀ w ∈ u_ws RX8 TX8 37, w ∈ wsX8_sell := by decide +kernel
  have hS : va_S A s.heap s.heap [] := va_S.rf
  have hl := lv_entry ([.ref h0, .int a1, .int a2, .int a3, .int a4]) (n := 7) (Nat.le_of_ble_eq_true rfl)
  rw [lg_entry_eq]
  generalize (lg_sl ([.ref h0, .int a1, .int a2, .int a3, .int a4]) ++ List.replicate (7 - (lg_sl ([.ref h0, .int a1, .int a2, .int a3, .int a4])).length) Slot.unset).toArray = ls at hl ⊢
  have hl : lv_has ls 7 [(0, .ref h0), (1, .int a1), (2, .int a2), (3, .int a3), (4, .int a4)] := hl
  obtain ⟨H, hH, hP, hS⟩ : ∃ H, H = s.heap ∧ va_P (dC, dI) vwCl (mw_ h0 q n (F 44 0) cI cZ F) H ∧ va_S A s.heap H [] := ⟨_, rfl, hP, hS⟩
  rw [← hH]
  generalize ([] : List Loc) = locs at hS ⊢
  refine lv_aload_n hx hb dX8_sell_0 rfl (lv_at hl 0 rfl) ?_
  refine lv_iload_n hx hb dX8_sell_1 rfl (lv_at hl 1 rfl) ?_
  refine lv_iload_n hx hb dX8_sell_2 rfl (lv_at hl 2 rfl) ?_
  refine lv_iload_n hx hb dX8_sell_3 rfl (lv_at hl 3 rfl) ?_
  refine lv_iload hx hb dX8_sell_4 (lv_at hl 4 rfl) ?_
  refine pu_call (va_runV (As := [.int a1, .int a2, .int a3, .int a4]) (rest := []) ⟨hx, hb, hml, hown, hts⟩ (k_X8_isDeal l dC dI h0 q n cI cZ F hI hN a1 a2 a3 a4) (cwV 4 hts gX8_sell_X8_isDeal rfl rfl rfl (by decide +kernel) ⟨Nat.le_of_ble_eq_true rfl, Nat.le_of_ble_eq_true rfl⟩) (pu_pre hP hK (ci := 7) (q0 := 0) rfl rfl) rfl rfl hl.1 rfl (lv_room (Nat.le_of_ble_eq_true rfl)) dX8_sell_6 ⟨Nat.le_of_ble_eq_true rfl, Nat.le_of_ble_eq_true rfl⟩) ?_
  refine lv_topi (fun r1 (e1 : r1 = rM_isDeal n F a1 a2 a3 a4) => ?_)
  have hg1 : ¬ r1 = 0 → vp_in a1 8 ∧ vp_in a2 12 ∧ vp_in a3 6 := by rw [e1]; exact rM_isDeal_b hN
  refine lv_if_eq (tgt := 23) hx hb dX8_sell_9 (by decide) (fun h_2 => ?_) (fun h_2 => ?_)
  · skip
    refine lv_iconst (v := (-1)) hx hb dX8_sell_23 (by decide) ?_
    have hq3 : rM_sell n F a1 a2 a3 a4 = ((-1), F) := by subst e1; exact (if_pos h_2)
    exact W.iret (v := (-1)) hx hb hr (fun t9 ht hW => ⟨⟨(-1), F, rfl, ⟨hq3.symm, hD, hI⟩, by show va_P (dC, dI) vwCl _ t9.heap; rw [ht]; exact hP⟩, hS.F ht⟩) hS.2.2 dX8_sell_24
  · skip
    refine lv_aload_n hx hb dX8_sell_12 rfl (lv_at hl 0 rfl) ?_
    refine lv_iload_n hx hb dX8_sell_13 rfl (lv_at hl 1 rfl) ?_
    refine lv_iload_n hx hb dX8_sell_14 rfl (lv_at hl 3 rfl) ?_
    refine pu_call (va_runV (As := [.int a1, .int a3]) (rest := []) ⟨hx, hb, hml, hown, hts⟩ (k_X8_stored l dC dI h0 q n cI cZ F hI hN a1 a3 ((hg1 h_2).1) ((hg1 h_2).2.2)) (cwV 2 hts gX8_sell_X8_stored rfl rfl rfl (by decide +kernel) ⟨Nat.le_of_ble_eq_true rfl, Nat.le_of_ble_eq_true rfl⟩) (pu_pre hP hK (ci := 7) (q0 := 0) rfl rfl) rfl rfl hl.1 rfl (lv_room (Nat.le_of_ble_eq_true rfl)) dX8_sell_15 ⟨Nat.le_of_ble_eq_true rfl, Nat.le_of_ble_eq_true rfl⟩) ?_
    refine lv_topi (fun r4 (e4 : r4 = rM_stored n F a1 a3) => ?_)
    refine lv_iload hx hb dX8_sell_18 (lv_at hl 4 rfl) ?_
    refine lv_icmp_ge (tgt := 25) hx hb dX8_sell_20 (by decide) (fun h_5 => ?_) (fun h_5 => ?_)
    · skip
      refine lv_bipush (v := 12) hx hb dX8_sell_25 (by decide) ?_
      refine lv_iload_n hx hb dX8_sell_27 rfl (lv_at hl 1 rfl) ?_
      refine lv_imul hx hb dX8_sell_28 ?_
      refine lv_iload_n hx hb dX8_sell_29 rfl (lv_at hl 2 rfl) ?_
      refine lv_iadd hx hb dX8_sell_30 ?_
      refine lv_istore (lv' := [(5, .int ((12 * a1) + a2)), (0, .ref h0), (1, .int a1), (2, .int a2), (3, .int a3), (4, .int a4)]) hx hb dX8_sell_31 hl (by decide) rfl (fun ls hl => ?_)
      refine lv_aload_n hx hb dX8_sell_33 rfl (lv_at hl 1 rfl) ?_
      refine va_get (D := (dC, dI)) (ci := 7) (v := .ref (q 4)) (C := RX8) (T := TX8) (N := 37) hx hb hts hinX8 hown hK hP 0 rfl rfl 4 (by decide) (hts (.fieldLink RX8 16 "FurPostsModel" "owes" "[I") (by decide +kernel)) (fun _ h9 => h9) rfl dX8_sell_34 ?_
      refine lv_iload hx hb dX8_sell_37 (lv_at hl 0 rfl) ?_
      refine va_iald hx hb hK hP 3 0 rfl rfl (i := ((12 * a1) + a2)) (vp_lin (a := 8) (b := 12) (m := 12) ((hg1 h_2).1) ((hg1 h_2).2.1) rfl (by decide)) dX8_sell_39 ?_
      refine lv_topi (fun v6 (e6 : v6 = F 4 ((12 * a1) + a2).toNatClampNeg) => ?_)
      rw [(tn_lin (k := 12) (a := 8) (b := 12) (m := 12) ((hg1 h_2).1) ((hg1 h_2).2.1) rfl (by decide))] at e6
      refine lv_iload hx hb dX8_sell_40 (lv_at hl 5 rfl) ?_
      refine lv_aload_n hx hb dX8_sell_42 rfl (lv_at hl 1 rfl) ?_
      refine va_get (D := (dC, dI)) (ci := 7) (v := .ref (q 3)) (C := RX8) (T := TX8) (N := 37) hx hb hts hinX8 hown hK hP 0 rfl rfl 3 (by decide) (hts (.fieldLink RX8 13 "FurPostsModel" "price" "[I") (by decide +kernel)) (fun _ h9 => h9) rfl dX8_sell_43 ?_
      refine lv_bipush (v := 6) hx hb dX8_sell_46 (by decide) ?_
      refine lv_iload_n hx hb dX8_sell_48 rfl (lv_at hl 2 rfl) ?_
      refine lv_imul hx hb dX8_sell_49 ?_
      refine lv_iload_n hx hb dX8_sell_50 rfl (lv_at hl 4 rfl) ?_
      refine lv_iadd hx hb dX8_sell_51 ?_
      refine va_iald hx hb hK hP 2 0 rfl rfl (i := ((6 * a1) + a3)) (vp_lin (a := 8) (b := 6) (m := 6) ((hg1 h_2).1) ((hg1 h_2).2.2) rfl (by decide)) dX8_sell_52 ?_
      refine lv_topi (fun v7 (e7 : v7 = F 3 ((6 * a1) + a3).toNatClampNeg) => ?_)
      rw [(tn_lin (k := 6) (a := 8) (b := 6) (m := 6) ((hg1 h_2).1) ((hg1 h_2).2.2) rfl (by decide))] at e7
      refine lv_imul hx hb dX8_sell_53 ?_
      refine lv_iadd hx hb dX8_sell_54 ?_
      refine lv_istore (lv' := [(6, .int (v6 + (a4 * v7))), (5, .int ((12 * a1) + a2)), (0, .ref h0), (1, .int a1), (2, .int a2), (3, .int a3), (4, .int a4)]) hx hb dX8_sell_55 hl (by decide) rfl (fun ls hl => ?_)
      refine lv_iload hx hb dX8_sell_57 (lv_at hl 0 rfl) ?_
      refine lv_ldc (v := 100000) hx hb hown (hts (.constant RX8 133 (100000)) (by decide +kernel)) dX8_sell_59 ?_
      refine lv_icmp_le (tgt := 66) hx hb dX8_sell_61 (by decide) (fun h_8 => ?_) (fun h_8 => ?_)
      · skip
        refine lv_aload_n hx hb dX8_sell_66 rfl (lv_at hl 2 rfl) ?_
        refine va_get (D := (dC, dI)) (ci := 7) (v := .ref (q 4)) (C := RX8) (T := TX8) (N := 37) hx hb hts hinX8 hown hK hP 0 rfl rfl 4 (by decide) (hts (.fieldLink RX8 16 "FurPostsModel" "owes" "[I") (by decide +kernel)) (fun _ h9 => h9) rfl dX8_sell_67 ?_
        refine lv_iload hx hb dX8_sell_70 (lv_at hl 1 rfl) ?_
        refine lv_iload hx hb dX8_sell_72 (lv_at hl 0 rfl) ?_
        refine va_iast hx hb hK hP hD hS 3 0 rfl rfl (i := ((12 * a1) + a2)) (x := (v6 + (a4 * v7))) (vp_lin (a := 8) (b := 12) (m := 12) ((hg1 h_2).1) ((hg1 h_2).2.1) rfl (by decide)) dX8_sell_74 (fun H locs hP2 hD2 hS => ?_)
        obtain ⟨F9, e9, hP, hD, hI9⟩ : ∃ F9 : Nat → Nat → Int32, F9 = up2 F 4 ((12 * a1) + a2).toNatClampNeg (v6 + (a4 * v7)) ∧ va_P (dC, dI) vwCl (mw_ h0 q n (F9 44 0) cI cZ F9) H ∧ va_D A (mw_ h0 q n (F9 44 0) cI cZ F9) ∧ mi_ n F9 := ⟨_, rfl, hP2, hD2, hI⟩
        rw [(tn_lin (k := 12) (a := 8) (b := 12) (m := 12) ((hg1 h_2).1) ((hg1 h_2).2.1) rfl (by decide))] at e9
        refine lv_aload_n hx hb dX8_sell_75 rfl (lv_at hl 2 rfl) ?_
        refine va_get (D := (dC, dI)) (ci := 7) (v := .ref (q 2)) (C := RX8) (T := TX8) (N := 37) hx hb hts hinX8 hown hK hP 0 rfl rfl 2 (by decide) (hts (.fieldLink RX8 9 "FurPostsModel" "store" "[I") (by decide +kernel)) (fun _ h9 => h9) rfl dX8_sell_76 ?_
        refine lv_bipush (v := 6) hx hb dX8_sell_79 (by decide) ?_
        refine lv_iload_n hx hb dX8_sell_81 rfl (lv_at hl 3 rfl) ?_
        refine lv_imul hx hb dX8_sell_82 ?_
        refine lv_iload_n hx hb dX8_sell_83 rfl (lv_at hl 5 rfl) ?_
        refine lv_iadd hx hb dX8_sell_84 ?_
        refine lv_dup2_11 hx hb dX8_sell_85 rfl rfl ?_
        refine va_iald hx hb hK hP 1 0 rfl rfl (i := ((6 * a1) + a3)) (vp_lin (a := 8) (b := 6) (m := 6) ((hg1 h_2).1) ((hg1 h_2).2.2) rfl (by decide)) dX8_sell_86 ?_
        refine lv_topi (fun v10 (e10 : v10 = F9 2 ((6 * a1) + a3).toNatClampNeg) => ?_)
        rw [(tn_lin (k := 6) (a := 8) (b := 6) (m := 6) ((hg1 h_2).1) ((hg1 h_2).2.2) rfl (by decide))] at e10
        refine lv_iload hx hb dX8_sell_87 (lv_at hl 6 rfl) ?_
        refine lv_isub hx hb dX8_sell_89 ?_
        refine va_iast hx hb hK hP hD hS 1 0 rfl rfl (i := ((6 * a1) + a3)) (x := (v10 - a4)) (vp_lin (a := 8) (b := 6) (m := 6) ((hg1 h_2).1) ((hg1 h_2).2.2) rfl (by decide)) dX8_sell_90 (fun H locs hP2 hD2 hS => ?_)
        obtain ⟨F11, e11, hP, hD, hI11⟩ : ∃ F11 : Nat → Nat → Int32, F11 = up2 F9 2 ((6 * a1) + a3).toNatClampNeg (v10 - a4) ∧ va_P (dC, dI) vwCl (mw_ h0 q n (F11 44 0) cI cZ F11) H ∧ va_D A (mw_ h0 q n (F11 44 0) cI cZ F11) ∧ mi_ n F11 := ⟨_, rfl, hP2, hD2, hI9⟩
        rw [(tn_lin (k := 6) (a := 8) (b := 6) (m := 6) ((hg1 h_2).1) ((hg1 h_2).2.2) rfl (by decide))] at e11
        refine lv_aload_n hx hb dX8_sell_91 rfl (lv_at hl 2 rfl) ?_
        refine lv_iconst (v := 1) hx hb dX8_sell_92 (by decide) ?_
        refine lv_iload_n hx hb dX8_sell_93 rfl (lv_at hl 5 rfl) ?_
        refine lv_iload hx hb dX8_sell_94 (lv_at hl 6 rfl) ?_
        refine va_callv (va_runV (As := [.int 1, .int a3, .int a4]) (rest := []) ⟨hx, hb, hml, hown, hts⟩ (m_X8_sums l dC dI h0 q n cI cZ F11 hI11 hN A hD 1 a3 a4 (by unfold vp_in; decide) ((hg1 h_2).2.2)) (cwV 3 hts gX8_sell_X8_sums rfl rfl rfl (by decide +kernel) ⟨Nat.le_of_ble_eq_true rfl, Nat.le_of_ble_eq_true rfl⟩) (pu_pre hP hK (ci := 7) (q0 := 0) rfl rfl) rfl rfl hl.1 rfl (lv_room (Nat.le_of_ble_eq_true rfl)) dX8_sell_96 ⟨Nat.le_of_ble_eq_true rfl, Nat.le_of_ble_eq_true rfl⟩) hS (fun _ _ h => h) (fun _ h => h) (fun u12 st12 H locs ht12 hvm12 hw12 hB12 hz12 hk12 hS => ?_)
        obtain ⟨hq12, hD12, hI12⟩ := hw12
        obtain ⟨F12, e12, hP, hD, hI12⟩ : ∃ F12 : Nat → Nat → Int32, F12 = (rM_sums n F11 1 a3 a4) ∧ va_P (dC, dI) vwCl (mw_ h0 q n (F12 44 0) cI cZ F12) H ∧ va_D A (mw_ h0 q n (F12 44 0) cI cZ F12) ∧ mi_ n F12 := ⟨u12, hq12, by rw [← ht12]; exact hB12, hD12, hI12⟩
        refine lv_iload hx hb dX8_sell_99 (lv_at hl 0 rfl) ?_
        have hq13 : rM_sell n F a1 a2 a3 a4 = ((v6 + (a4 * v7)), F12) := by subst e12 e11 e10 e9 e7 e6 e4 e1; exact (if_neg h_2).trans ((if_pos h_5).trans (if_pos h_8))
        exact W.iret (v := (v6 + (a4 * v7))) hx hb hr (fun t9 ht hW => ⟨⟨(v6 + (a4 * v7)), F12, rfl, ⟨hq13.symm, hD, hI12⟩, by show va_P (dC, dI) vwCl _ t9.heap; rw [ht]; exact hP⟩, hS.F ht⟩) hS.2.2 dX8_sell_101
      · skip
        refine lv_iconst (v := (-1)) hx hb dX8_sell_64 (by decide) ?_
        have hq14 : rM_sell n F a1 a2 a3 a4 = ((-1), F) := by subst e7 e6 e4 e1; exact (if_neg h_2).trans ((if_pos h_5).trans (if_neg h_8))
        exact W.iret (v := (-1)) hx hb hr (fun t9 ht hW => ⟨⟨(-1), F, rfl, ⟨hq14.symm, hD, hI⟩, by show va_P (dC, dI) vwCl _ t9.heap; rw [ht]; exact hP⟩, hS.F ht⟩) hS.2.2 dX8_sell_65
    · skip
      refine lv_iconst (v := (-1)) hx hb dX8_sell_23 (by decide) ?_
      have hq15 : rM_sell n F a1 a2 a3 a4 = ((-1), F) := by subst e4 e1; exact (if_neg h_2).trans (if_neg h_5)
      exact W.iret (v := (-1)) hx hb hr (fun t9 ht hW => ⟨⟨(-1), F, rfl, ⟨hq15.symm, hD, hI⟩, by show va_P (dC, dI) vwCl _ t9.heap; rw [ht]; exact hP⟩, hS.F ht⟩) hS.2.2 dX8_sell_24

set_option maxHeartbeats 8000000 in
set_option maxRecDepth 100000 in
theorem m_X8_buy (l : Launch) (dC : Nat → ClassId) (dI : Nat → Nat → Nat) (h0 : Nat) (q n : Nat → Nat) (cI cZ : ClassId) (F : Nat → Nat → Int32) (hI : mi_ n F) (hN : nb_ n) (A : Nat → Prop) (hD : va_D A (mw_ h0 q n (F 44 0) cI cZ F)) (a1 : Int32) (a2 : Int32) (a3 : Int32) (a4 : Int32) : Met l yX8_buy wsX8_buy ({ frames := 3, cells := 0, slots := 0, locals := 67 }) (va_Pc [.ref h0, .int a1, .int a2, .int a3, .int a4] (pu_P (dC, dI) vwCl (mt_ cI cZ) (mw_ h0 q n (F 44 0) cI cZ F))) (va_Qi (fun r (u : Nat → Nat → Int32) => (r, u) = rM_buy n F a1 a2 a3 a4 ∧ va_D A (mw_ h0 q n (u 44 0) cI cZ u) ∧ mi_ n u) (fun u s' => va_P (dC, dI) vwCl (mw_ h0 q n (u 44 0) cI cZ u) s'.heap) A) 0 0 A := by
  refine Met.ofW (cc := cX8_buy) (maxL := 7) (ret := (some .int)) (by decide) rfl ?_
  intro p e s m args below meth c s₁ B hml hv
  obtain ⟨rfl, hP, hK⟩ := hv
  have hx := B.exec
  have hb := B.bytes
  have hr := B.returns
  have hts := atoms_spec (ws := wsX8_buy) B.pre
  have hown : s.vm.findClass RX8 = some m.cls := findClass_of_methodNamed B.named
  have hlocks := B.notSynchronized
  have hinX8 : ∀ w ∈ u_ws RX8 TX8 37, w ∈ wsX8_buy := by decide +kernel
  have hS : va_S A s.heap s.heap [] := va_S.rf
  have hl := lv_entry ([.ref h0, .int a1, .int a2, .int a3, .int a4]) (n := 7) (Nat.le_of_ble_eq_true rfl)
  rw [lg_entry_eq]
  generalize (lg_sl ([.ref h0, .int a1, .int a2, .int a3, .int a4]) ++ List.replicate (7 - (lg_sl ([.ref h0, .int a1, .int a2, .int a3, .int a4])).length) Slot.unset).toArray = ls at hl ⊢
  have hl : lv_has ls 7 [(0, .ref h0), (1, .int a1), (2, .int a2), (3, .int a3), (4, .int a4)] := hl
  obtain ⟨H, hH, hP, hS⟩ : ∃ H, H = s.heap ∧ va_P (dC, dI) vwCl (mw_ h0 q n (F 44 0) cI cZ F) H ∧ va_S A s.heap H [] := ⟨_, rfl, hP, hS⟩
  rw [← hH]
  generalize ([] : List Loc) = locs at hS ⊢
  refine lv_aload_n hx hb dX8_buy_0 rfl (lv_at hl 0 rfl) ?_
  refine lv_iload_n hx hb dX8_buy_1 rfl (lv_at hl 1 rfl) ?_
  refine lv_iload_n hx hb dX8_buy_2 rfl (lv_at hl 2 rfl) ?_
  refine lv_iload_n hx hb dX8_buy_3 rfl (lv_at hl 3 rfl) ?_
  refine lv_iload hx hb dX8_buy_4 (lv_at hl 4 rfl) ?_
  refine pu_call (va_runV (As := [.int a1, .int a2, .int a3, .int a4]) (rest := []) ⟨hx, hb, hml, hown, hts⟩ (k_X8_isDeal l dC dI h0 q n cI cZ F hI hN a1 a2 a3 a4) (cwV 4 hts gX8_buy_X8_isDeal rfl rfl rfl (by decide +kernel) ⟨Nat.le_of_ble_eq_true rfl, Nat.le_of_ble_eq_true rfl⟩) (pu_pre hP hK (ci := 7) (q0 := 0) rfl rfl) rfl rfl hl.1 rfl (lv_room (Nat.le_of_ble_eq_true rfl)) dX8_buy_6 ⟨Nat.le_of_ble_eq_true rfl, Nat.le_of_ble_eq_true rfl⟩) ?_
  refine lv_topi (fun r1 (e1 : r1 = rM_isDeal n F a1 a2 a3 a4) => ?_)
  have hg1 : ¬ r1 = 0 → vp_in a1 8 ∧ vp_in a2 12 ∧ vp_in a3 6 := by rw [e1]; exact rM_isDeal_b hN
  refine lv_if_eq (tgt := 26) hx hb dX8_buy_9 (by decide) (fun h_2 => ?_) (fun h_2 => ?_)
  · skip
    refine lv_iconst (v := (-1)) hx hb dX8_buy_26 (by decide) ?_
    have hq3 : rM_buy n F a1 a2 a3 a4 = ((-1), F) := by subst e1; exact (if_pos h_2)
    exact W.iret (v := (-1)) hx hb hr (fun t9 ht hW => ⟨⟨(-1), F, rfl, ⟨hq3.symm, hD, hI⟩, by show va_P (dC, dI) vwCl _ t9.heap; rw [ht]; exact hP⟩, hS.F ht⟩) hS.2.2 dX8_buy_27
  · skip
    refine lv_aload_n hx hb dX8_buy_12 rfl (lv_at hl 0 rfl) ?_
    refine lv_iload_n hx hb dX8_buy_13 rfl (lv_at hl 1 rfl) ?_
    refine lv_iload_n hx hb dX8_buy_14 rfl (lv_at hl 3 rfl) ?_
    refine pu_call (va_runV (As := [.int a1, .int a3]) (rest := []) ⟨hx, hb, hml, hown, hts⟩ (k_X8_stored l dC dI h0 q n cI cZ F hI hN a1 a3 ((hg1 h_2).1) ((hg1 h_2).2.2)) (cwV 2 hts gX8_buy_X8_stored rfl rfl rfl (by decide +kernel) ⟨Nat.le_of_ble_eq_true rfl, Nat.le_of_ble_eq_true rfl⟩) (pu_pre hP hK (ci := 7) (q0 := 0) rfl rfl) rfl rfl hl.1 rfl (lv_room (Nat.le_of_ble_eq_true rfl)) dX8_buy_15 ⟨Nat.le_of_ble_eq_true rfl, Nat.le_of_ble_eq_true rfl⟩) ?_
    refine lv_topi (fun r4 (e4 : r4 = rM_stored n F a1 a3) => ?_)
    refine lv_iload hx hb dX8_buy_18 (lv_at hl 4 rfl) ?_
    refine lv_iadd hx hb dX8_buy_20 ?_
    refine lv_ldc (v := 100000) hx hb hown (hts (.constant RX8 133 (100000)) (by decide +kernel)) dX8_buy_21 ?_
    refine lv_icmp_le (tgt := 28) hx hb dX8_buy_23 (by decide) (fun h_5 => ?_) (fun h_5 => ?_)
    · skip
      refine lv_bipush (v := 12) hx hb dX8_buy_28 (by decide) ?_
      refine lv_iload_n hx hb dX8_buy_30 rfl (lv_at hl 1 rfl) ?_
      refine lv_imul hx hb dX8_buy_31 ?_
      refine lv_iload_n hx hb dX8_buy_32 rfl (lv_at hl 2 rfl) ?_
      refine lv_iadd hx hb dX8_buy_33 ?_
      refine lv_istore (lv' := [(5, .int ((12 * a1) + a2)), (0, .ref h0), (1, .int a1), (2, .int a2), (3, .int a3), (4, .int a4)]) hx hb dX8_buy_34 hl (by decide) rfl (fun ls hl => ?_)
      refine lv_aload_n hx hb dX8_buy_36 rfl (lv_at hl 1 rfl) ?_
      refine va_get (D := (dC, dI)) (ci := 7) (v := .ref (q 4)) (C := RX8) (T := TX8) (N := 37) hx hb hts hinX8 hown hK hP 0 rfl rfl 4 (by decide) (hts (.fieldLink RX8 16 "FurPostsModel" "owes" "[I") (by decide +kernel)) (fun _ h9 => h9) rfl dX8_buy_37 ?_
      refine lv_iload hx hb dX8_buy_40 (lv_at hl 0 rfl) ?_
      refine va_iald hx hb hK hP 3 0 rfl rfl (i := ((12 * a1) + a2)) (vp_lin (a := 8) (b := 12) (m := 12) ((hg1 h_2).1) ((hg1 h_2).2.1) rfl (by decide)) dX8_buy_42 ?_
      refine lv_topi (fun v6 (e6 : v6 = F 4 ((12 * a1) + a2).toNatClampNeg) => ?_)
      rw [(tn_lin (k := 12) (a := 8) (b := 12) (m := 12) ((hg1 h_2).1) ((hg1 h_2).2.1) rfl (by decide))] at e6
      refine lv_iload hx hb dX8_buy_43 (lv_at hl 5 rfl) ?_
      refine lv_aload_n hx hb dX8_buy_45 rfl (lv_at hl 1 rfl) ?_
      refine va_get (D := (dC, dI)) (ci := 7) (v := .ref (q 3)) (C := RX8) (T := TX8) (N := 37) hx hb hts hinX8 hown hK hP 0 rfl rfl 3 (by decide) (hts (.fieldLink RX8 13 "FurPostsModel" "price" "[I") (by decide +kernel)) (fun _ h9 => h9) rfl dX8_buy_46 ?_
      refine lv_bipush (v := 6) hx hb dX8_buy_49 (by decide) ?_
      refine lv_iload_n hx hb dX8_buy_51 rfl (lv_at hl 2 rfl) ?_
      refine lv_imul hx hb dX8_buy_52 ?_
      refine lv_iload_n hx hb dX8_buy_53 rfl (lv_at hl 4 rfl) ?_
      refine lv_iadd hx hb dX8_buy_54 ?_
      refine va_iald hx hb hK hP 2 0 rfl rfl (i := ((6 * a1) + a3)) (vp_lin (a := 8) (b := 6) (m := 6) ((hg1 h_2).1) ((hg1 h_2).2.2) rfl (by decide)) dX8_buy_55 ?_
      refine lv_topi (fun v7 (e7 : v7 = F 3 ((6 * a1) + a3).toNatClampNeg) => ?_)
      rw [(tn_lin (k := 6) (a := 8) (b := 6) (m := 6) ((hg1 h_2).1) ((hg1 h_2).2.2) rfl (by decide))] at e7
      refine lv_imul hx hb dX8_buy_56 ?_
      refine lv_isub hx hb dX8_buy_57 ?_
      refine lv_istore (lv' := [(6, .int (v6 - (a4 * v7))), (5, .int ((12 * a1) + a2)), (0, .ref h0), (1, .int a1), (2, .int a2), (3, .int a3), (4, .int a4)]) hx hb dX8_buy_58 hl (by decide) rfl (fun ls hl => ?_)
      refine lv_iload hx hb dX8_buy_60 (lv_at hl 0 rfl) ?_
      refine lv_ldc (v := (-100000)) hx hb hown (hts (.constant RX8 170 (-100000)) (by decide +kernel)) dX8_buy_62 ?_
      refine lv_icmp_ge (tgt := 69) hx hb dX8_buy_64 (by decide) (fun h_8 => ?_) (fun h_8 => ?_)
      · skip
        refine lv_aload_n hx hb dX8_buy_69 rfl (lv_at hl 2 rfl) ?_
        refine va_get (D := (dC, dI)) (ci := 7) (v := .ref (q 4)) (C := RX8) (T := TX8) (N := 37) hx hb hts hinX8 hown hK hP 0 rfl rfl 4 (by decide) (hts (.fieldLink RX8 16 "FurPostsModel" "owes" "[I") (by decide +kernel)) (fun _ h9 => h9) rfl dX8_buy_70 ?_
        refine lv_iload hx hb dX8_buy_73 (lv_at hl 1 rfl) ?_
        refine lv_iload hx hb dX8_buy_75 (lv_at hl 0 rfl) ?_
        refine va_iast hx hb hK hP hD hS 3 0 rfl rfl (i := ((12 * a1) + a2)) (x := (v6 - (a4 * v7))) (vp_lin (a := 8) (b := 12) (m := 12) ((hg1 h_2).1) ((hg1 h_2).2.1) rfl (by decide)) dX8_buy_77 (fun H locs hP2 hD2 hS => ?_)
        obtain ⟨F9, e9, hP, hD, hI9⟩ : ∃ F9 : Nat → Nat → Int32, F9 = up2 F 4 ((12 * a1) + a2).toNatClampNeg (v6 - (a4 * v7)) ∧ va_P (dC, dI) vwCl (mw_ h0 q n (F9 44 0) cI cZ F9) H ∧ va_D A (mw_ h0 q n (F9 44 0) cI cZ F9) ∧ mi_ n F9 := ⟨_, rfl, hP2, hD2, hI⟩
        rw [(tn_lin (k := 12) (a := 8) (b := 12) (m := 12) ((hg1 h_2).1) ((hg1 h_2).2.1) rfl (by decide))] at e9
        refine lv_aload_n hx hb dX8_buy_78 rfl (lv_at hl 2 rfl) ?_
        refine va_get (D := (dC, dI)) (ci := 7) (v := .ref (q 2)) (C := RX8) (T := TX8) (N := 37) hx hb hts hinX8 hown hK hP 0 rfl rfl 2 (by decide) (hts (.fieldLink RX8 9 "FurPostsModel" "store" "[I") (by decide +kernel)) (fun _ h9 => h9) rfl dX8_buy_79 ?_
        refine lv_bipush (v := 6) hx hb dX8_buy_82 (by decide) ?_
        refine lv_iload_n hx hb dX8_buy_84 rfl (lv_at hl 3 rfl) ?_
        refine lv_imul hx hb dX8_buy_85 ?_
        refine lv_iload_n hx hb dX8_buy_86 rfl (lv_at hl 5 rfl) ?_
        refine lv_iadd hx hb dX8_buy_87 ?_
        refine lv_dup2_11 hx hb dX8_buy_88 rfl rfl ?_
        refine va_iald hx hb hK hP 1 0 rfl rfl (i := ((6 * a1) + a3)) (vp_lin (a := 8) (b := 6) (m := 6) ((hg1 h_2).1) ((hg1 h_2).2.2) rfl (by decide)) dX8_buy_89 ?_
        refine lv_topi (fun v10 (e10 : v10 = F9 2 ((6 * a1) + a3).toNatClampNeg) => ?_)
        rw [(tn_lin (k := 6) (a := 8) (b := 6) (m := 6) ((hg1 h_2).1) ((hg1 h_2).2.2) rfl (by decide))] at e10
        refine lv_iload hx hb dX8_buy_90 (lv_at hl 6 rfl) ?_
        refine lv_iadd hx hb dX8_buy_92 ?_
        refine va_iast hx hb hK hP hD hS 1 0 rfl rfl (i := ((6 * a1) + a3)) (x := (v10 + a4)) (vp_lin (a := 8) (b := 6) (m := 6) ((hg1 h_2).1) ((hg1 h_2).2.2) rfl (by decide)) dX8_buy_93 (fun H locs hP2 hD2 hS => ?_)
        obtain ⟨F11, e11, hP, hD, hI11⟩ : ∃ F11 : Nat → Nat → Int32, F11 = up2 F9 2 ((6 * a1) + a3).toNatClampNeg (v10 + a4) ∧ va_P (dC, dI) vwCl (mw_ h0 q n (F11 44 0) cI cZ F11) H ∧ va_D A (mw_ h0 q n (F11 44 0) cI cZ F11) ∧ mi_ n F11 := ⟨_, rfl, hP2, hD2, hI9⟩
        rw [(tn_lin (k := 6) (a := 8) (b := 6) (m := 6) ((hg1 h_2).1) ((hg1 h_2).2.2) rfl (by decide))] at e11
        refine lv_aload_n hx hb dX8_buy_94 rfl (lv_at hl 2 rfl) ?_
        refine lv_iconst (v := 2) hx hb dX8_buy_95 (by decide) ?_
        refine lv_iload_n hx hb dX8_buy_96 rfl (lv_at hl 5 rfl) ?_
        refine lv_iload hx hb dX8_buy_97 (lv_at hl 6 rfl) ?_
        refine va_callv (va_runV (As := [.int 2, .int a3, .int a4]) (rest := []) ⟨hx, hb, hml, hown, hts⟩ (m_X8_sums l dC dI h0 q n cI cZ F11 hI11 hN A hD 2 a3 a4 (by unfold vp_in; decide) ((hg1 h_2).2.2)) (cwV 3 hts gX8_buy_X8_sums rfl rfl rfl (by decide +kernel) ⟨Nat.le_of_ble_eq_true rfl, Nat.le_of_ble_eq_true rfl⟩) (pu_pre hP hK (ci := 7) (q0 := 0) rfl rfl) rfl rfl hl.1 rfl (lv_room (Nat.le_of_ble_eq_true rfl)) dX8_buy_99 ⟨Nat.le_of_ble_eq_true rfl, Nat.le_of_ble_eq_true rfl⟩) hS (fun _ _ h => h) (fun _ h => h) (fun u12 st12 H locs ht12 hvm12 hw12 hB12 hz12 hk12 hS => ?_)
        obtain ⟨hq12, hD12, hI12⟩ := hw12
        obtain ⟨F12, e12, hP, hD, hI12⟩ : ∃ F12 : Nat → Nat → Int32, F12 = (rM_sums n F11 2 a3 a4) ∧ va_P (dC, dI) vwCl (mw_ h0 q n (F12 44 0) cI cZ F12) H ∧ va_D A (mw_ h0 q n (F12 44 0) cI cZ F12) ∧ mi_ n F12 := ⟨u12, hq12, by rw [← ht12]; exact hB12, hD12, hI12⟩
        refine lv_iload hx hb dX8_buy_102 (lv_at hl 0 rfl) ?_
        have hq13 : rM_buy n F a1 a2 a3 a4 = ((v6 - (a4 * v7)), F12) := by subst e12 e11 e10 e9 e7 e6 e4 e1; exact (if_neg h_2).trans ((if_pos h_5).trans (if_pos h_8))
        exact W.iret (v := (v6 - (a4 * v7))) hx hb hr (fun t9 ht hW => ⟨⟨(v6 - (a4 * v7)), F12, rfl, ⟨hq13.symm, hD, hI12⟩, by show va_P (dC, dI) vwCl _ t9.heap; rw [ht]; exact hP⟩, hS.F ht⟩) hS.2.2 dX8_buy_104
      · skip
        refine lv_iconst (v := (-1)) hx hb dX8_buy_67 (by decide) ?_
        have hq14 : rM_buy n F a1 a2 a3 a4 = ((-1), F) := by subst e7 e6 e4 e1; exact (if_neg h_2).trans ((if_pos h_5).trans (if_neg h_8))
        exact W.iret (v := (-1)) hx hb hr (fun t9 ht hW => ⟨⟨(-1), F, rfl, ⟨hq14.symm, hD, hI⟩, by show va_P (dC, dI) vwCl _ t9.heap; rw [ht]; exact hP⟩, hS.F ht⟩) hS.2.2 dX8_buy_68
    · skip
      refine lv_iconst (v := (-1)) hx hb dX8_buy_26 (by decide) ?_
      have hq15 : rM_buy n F a1 a2 a3 a4 = ((-1), F) := by subst e4 e1; exact (if_neg h_2).trans (if_neg h_5)
      exact W.iret (v := (-1)) hx hb hr (fun t9 ht hW => ⟨⟨(-1), F, rfl, ⟨hq15.symm, hD, hI⟩, by show va_P (dC, dI) vwCl _ t9.heap; rw [ht]; exact hP⟩, hS.F ht⟩) hS.2.2 dX8_buy_27

set_option maxHeartbeats 8000000 in
set_option maxRecDepth 100000 in
theorem m_X8_give (l : Launch) (dC : Nat → ClassId) (dI : Nat → Nat → Nat) (h0 : Nat) (q n : Nat → Nat) (cI cZ : ClassId) (F : Nat → Nat → Int32) (hI : mi_ n F) (hN : nb_ n) (A : Nat → Prop) (hD : va_D A (mw_ h0 q n (F 44 0) cI cZ F)) (a1 : Int32) (a2 : Int32) (a3 : Int32) (a4 : Int32) : Met l yX8_give wsX8_give ({ frames := 3, cells := 0, slots := 0, locals := 67 }) (va_Pc [.ref h0, .int a1, .int a2, .int a3, .int a4] (pu_P (dC, dI) vwCl (mt_ cI cZ) (mw_ h0 q n (F 44 0) cI cZ F))) (va_Qi (fun r (u : Nat → Nat → Int32) => (r, u) = rM_give n F a1 a2 a3 a4 ∧ va_D A (mw_ h0 q n (u 44 0) cI cZ u) ∧ mi_ n u) (fun u s' => va_P (dC, dI) vwCl (mw_ h0 q n (u 44 0) cI cZ u) s'.heap) A) 0 0 A := by
  refine Met.ofW (cc := cX8_give) (maxL := 5) (ret := (some .int)) (by decide) rfl ?_
  intro p e s m args below meth c s₁ B hml hv
  obtain ⟨rfl, hP, hK⟩ := hv
  have hx := B.exec
  have hb := B.bytes
  have hr := B.returns
  have hts := atoms_spec (ws := wsX8_give) B.pre
  have hown : s.vm.findClass RX8 = some m.cls := findClass_of_methodNamed B.named
  have hlocks := B.notSynchronized
  have hinX8 : ∀ w ∈ u_ws RX8 TX8 37, w ∈ wsX8_give := by decide +kernel
  have hS : va_S A s.heap s.heap [] := va_S.rf
  have hl := lv_entry ([.ref h0, .int a1, .int a2, .int a3, .int a4]) (n := 5) (Nat.le_of_ble_eq_true rfl)
  rw [lg_entry_eq]
  generalize (lg_sl ([.ref h0, .int a1, .int a2, .int a3, .int a4]) ++ List.replicate (5 - (lg_sl ([.ref h0, .int a1, .int a2, .int a3, .int a4])).length) Slot.unset).toArray = ls at hl ⊢
  have hl : lv_has ls 5 [(0, .ref h0), (1, .int a1), (2, .int a2), (3, .int a3), (4, .int a4)] := hl
  obtain ⟨H, hH, hP, hS⟩ : ∃ H, H = s.heap ∧ va_P (dC, dI) vwCl (mw_ h0 q n (F 44 0) cI cZ F) H ∧ va_S A s.heap H [] := ⟨_, rfl, hP, hS⟩
  rw [← hH]
  generalize ([] : List Loc) = locs at hS ⊢
  refine lv_aload_n hx hb dX8_give_0 rfl (lv_at hl 0 rfl) ?_
  refine lv_iload_n hx hb dX8_give_1 rfl (lv_at hl 1 rfl) ?_
  refine lv_iload_n hx hb dX8_give_2 rfl (lv_at hl 2 rfl) ?_
  refine lv_iload_n hx hb dX8_give_3 rfl (lv_at hl 3 rfl) ?_
  refine lv_iload hx hb dX8_give_4 (lv_at hl 4 rfl) ?_
  refine pu_call (va_runV (As := [.int a1, .int a2, .int a3, .int a4]) (rest := []) ⟨hx, hb, hml, hown, hts⟩ (k_X8_isDeal l dC dI h0 q n cI cZ F hI hN a1 a2 a3 a4) (cwV 4 hts gX8_give_X8_isDeal rfl rfl rfl (by decide +kernel) ⟨Nat.le_of_ble_eq_true rfl, Nat.le_of_ble_eq_true rfl⟩) (pu_pre hP hK (ci := 7) (q0 := 0) rfl rfl) rfl rfl hl.1 rfl (lv_room (Nat.le_of_ble_eq_true rfl)) dX8_give_6 ⟨Nat.le_of_ble_eq_true rfl, Nat.le_of_ble_eq_true rfl⟩) ?_
  refine lv_topi (fun r1 (e1 : r1 = rM_isDeal n F a1 a2 a3 a4) => ?_)
  have hg1 : ¬ r1 = 0 → vp_in a1 8 ∧ vp_in a2 12 ∧ vp_in a3 6 := by rw [e1]; exact rM_isDeal_b hN
  refine lv_if_eq (tgt := 23) hx hb dX8_give_9 (by decide) (fun h_2 => ?_) (fun h_2 => ?_)
  · skip
    refine lv_iconst (v := (-1)) hx hb dX8_give_23 (by decide) ?_
    have hq3 : rM_give n F a1 a2 a3 a4 = ((-1), F) := by subst e1; exact (if_pos h_2)
    exact W.iret (v := (-1)) hx hb hr (fun t9 ht hW => ⟨⟨(-1), F, rfl, ⟨hq3.symm, hD, hI⟩, by show va_P (dC, dI) vwCl _ t9.heap; rw [ht]; exact hP⟩, hS.F ht⟩) hS.2.2 dX8_give_24
  · skip
    refine lv_aload_n hx hb dX8_give_12 rfl (lv_at hl 0 rfl) ?_
    refine lv_iload_n hx hb dX8_give_13 rfl (lv_at hl 1 rfl) ?_
    refine lv_iload_n hx hb dX8_give_14 rfl (lv_at hl 3 rfl) ?_
    refine pu_call (va_runV (As := [.int a1, .int a3]) (rest := []) ⟨hx, hb, hml, hown, hts⟩ (k_X8_stored l dC dI h0 q n cI cZ F hI hN a1 a3 ((hg1 h_2).1) ((hg1 h_2).2.2)) (cwV 2 hts gX8_give_X8_stored rfl rfl rfl (by decide +kernel) ⟨Nat.le_of_ble_eq_true rfl, Nat.le_of_ble_eq_true rfl⟩) (pu_pre hP hK (ci := 7) (q0 := 0) rfl rfl) rfl rfl hl.1 rfl (lv_room (Nat.le_of_ble_eq_true rfl)) dX8_give_15 ⟨Nat.le_of_ble_eq_true rfl, Nat.le_of_ble_eq_true rfl⟩) ?_
    refine lv_topi (fun r4 (e4 : r4 = rM_stored n F a1 a3) => ?_)
    refine lv_iload hx hb dX8_give_18 (lv_at hl 4 rfl) ?_
    refine lv_icmp_ge (tgt := 25) hx hb dX8_give_20 (by decide) (fun h_5 => ?_) (fun h_5 => ?_)
    · skip
      refine lv_aload_n hx hb dX8_give_25 rfl (lv_at hl 0 rfl) ?_
      refine va_get (D := (dC, dI)) (ci := 7) (v := .ref (q 2)) (C := RX8) (T := TX8) (N := 37) hx hb hts hinX8 hown hK hP 0 rfl rfl 2 (by decide) (hts (.fieldLink RX8 9 "FurPostsModel" "store" "[I") (by decide +kernel)) (fun _ h9 => h9) rfl dX8_give_26 ?_
      refine lv_bipush (v := 6) hx hb dX8_give_29 (by decide) ?_
      refine lv_iload_n hx hb dX8_give_31 rfl (lv_at hl 1 rfl) ?_
      refine lv_imul hx hb dX8_give_32 ?_
      refine lv_iload_n hx hb dX8_give_33 rfl (lv_at hl 3 rfl) ?_
      refine lv_iadd hx hb dX8_give_34 ?_
      refine lv_dup2_11 hx hb dX8_give_35 rfl rfl ?_
      refine va_iald hx hb hK hP 1 0 rfl rfl (i := ((6 * a1) + a3)) (vp_lin (a := 8) (b := 6) (m := 6) ((hg1 h_2).1) ((hg1 h_2).2.2) rfl (by decide)) dX8_give_36 ?_
      refine lv_topi (fun v6 (e6 : v6 = F 2 ((6 * a1) + a3).toNatClampNeg) => ?_)
      rw [(tn_lin (k := 6) (a := 8) (b := 6) (m := 6) ((hg1 h_2).1) ((hg1 h_2).2.2) rfl (by decide))] at e6
      refine lv_iload hx hb dX8_give_37 (lv_at hl 4 rfl) ?_
      refine lv_isub hx hb dX8_give_39 ?_
      refine va_iast hx hb hK hP hD hS 1 0 rfl rfl (i := ((6 * a1) + a3)) (x := (v6 - a4)) (vp_lin (a := 8) (b := 6) (m := 6) ((hg1 h_2).1) ((hg1 h_2).2.2) rfl (by decide)) dX8_give_40 (fun H locs hP2 hD2 hS => ?_)
      obtain ⟨F7, e7, hP, hD, hI7⟩ : ∃ F7 : Nat → Nat → Int32, F7 = up2 F 2 ((6 * a1) + a3).toNatClampNeg (v6 - a4) ∧ va_P (dC, dI) vwCl (mw_ h0 q n (F7 44 0) cI cZ F7) H ∧ va_D A (mw_ h0 q n (F7 44 0) cI cZ F7) ∧ mi_ n F7 := ⟨_, rfl, hP2, hD2, hI⟩
      rw [(tn_lin (k := 6) (a := 8) (b := 6) (m := 6) ((hg1 h_2).1) ((hg1 h_2).2.2) rfl (by decide))] at e7
      refine lv_aload_n hx hb dX8_give_41 rfl (lv_at hl 0 rfl) ?_
      refine lv_iconst (v := 3) hx hb dX8_give_42 (by decide) ?_
      refine lv_iload_n hx hb dX8_give_43 rfl (lv_at hl 3 rfl) ?_
      refine lv_iload hx hb dX8_give_44 (lv_at hl 4 rfl) ?_
      refine va_callv (va_runV (As := [.int 3, .int a3, .int a4]) (rest := []) ⟨hx, hb, hml, hown, hts⟩ (m_X8_sums l dC dI h0 q n cI cZ F7 hI7 hN A hD 3 a3 a4 (by unfold vp_in; decide) ((hg1 h_2).2.2)) (cwV 3 hts gX8_give_X8_sums rfl rfl rfl (by decide +kernel) ⟨Nat.le_of_ble_eq_true rfl, Nat.le_of_ble_eq_true rfl⟩) (pu_pre hP hK (ci := 7) (q0 := 0) rfl rfl) rfl rfl hl.1 rfl (lv_room (Nat.le_of_ble_eq_true rfl)) dX8_give_46 ⟨Nat.le_of_ble_eq_true rfl, Nat.le_of_ble_eq_true rfl⟩) hS (fun _ _ h => h) (fun _ h => h) (fun u8 st8 H locs ht8 hvm8 hw8 hB8 hz8 hk8 hS => ?_)
      obtain ⟨hq8, hD8, hI8⟩ := hw8
      obtain ⟨F8, e8, hP, hD, hI8⟩ : ∃ F8 : Nat → Nat → Int32, F8 = (rM_sums n F7 3 a3 a4) ∧ va_P (dC, dI) vwCl (mw_ h0 q n (F8 44 0) cI cZ F8) H ∧ va_D A (mw_ h0 q n (F8 44 0) cI cZ F8) ∧ mi_ n F8 := ⟨u8, hq8, by rw [← ht8]; exact hB8, hD8, hI8⟩
      refine lv_aload_n hx hb dX8_give_49 rfl (lv_at hl 0 rfl) ?_
      refine lv_iload_n hx hb dX8_give_50 rfl (lv_at hl 1 rfl) ?_
      refine lv_iload_n hx hb dX8_give_51 rfl (lv_at hl 3 rfl) ?_
      refine pu_call (va_runV (As := [.int a1, .int a3]) (rest := []) ⟨hx, hb, hml, hown, hts⟩ (k_X8_stored l dC dI h0 q n cI cZ F8 hI8 hN a1 a3 ((hg1 h_2).1) ((hg1 h_2).2.2)) (cwV 2 hts gX8_give_X8_stored rfl rfl rfl (by decide +kernel) ⟨Nat.le_of_ble_eq_true rfl, Nat.le_of_ble_eq_true rfl⟩) (pu_pre hP hK (ci := 7) (q0 := 0) rfl rfl) rfl rfl hl.1 rfl (lv_room (Nat.le_of_ble_eq_true rfl)) dX8_give_52 ⟨Nat.le_of_ble_eq_true rfl, Nat.le_of_ble_eq_true rfl⟩) ?_
      refine lv_topi (fun r9 (e9 : r9 = rM_stored n F8 a1 a3) => ?_)
      have hq10 : rM_give n F a1 a2 a3 a4 = (r9, F8) := by subst e9 e8 e7 e6 e4 e1; exact (if_neg h_2).trans (if_pos h_5)
      exact W.iret (v := r9) hx hb hr (fun t9 ht hW => ⟨⟨r9, F8, rfl, ⟨hq10.symm, hD, hI8⟩, by show va_P (dC, dI) vwCl _ t9.heap; rw [ht]; exact hP⟩, hS.F ht⟩) hS.2.2 dX8_give_55
    · skip
      refine lv_iconst (v := (-1)) hx hb dX8_give_23 (by decide) ?_
      have hq11 : rM_give n F a1 a2 a3 a4 = ((-1), F) := by subst e4 e1; exact (if_neg h_2).trans (if_neg h_5)
      exact W.iret (v := (-1)) hx hb hr (fun t9 ht hW => ⟨⟨(-1), F, rfl, ⟨hq11.symm, hD, hI⟩, by show va_P (dC, dI) vwCl _ t9.heap; rw [ht]; exact hP⟩, hS.F ht⟩) hS.2.2 dX8_give_24

set_option maxHeartbeats 8000000 in
set_option maxRecDepth 100000 in
theorem m_X8_load (l : Launch) (dC : Nat → ClassId) (dI : Nat → Nat → Nat) (h0 : Nat) (q n : Nat → Nat) (cI cZ : ClassId) (F : Nat → Nat → Int32) (hI : mi_ n F) (hN : nb_ n) (A : Nat → Prop) (hD : va_D A (mw_ h0 q n (F 44 0) cI cZ F)) (a1 : Int32) (a2 : Int32) : Met l yX8_load wsX8_load ({ frames := 2, cells := 0, slots := 0, locals := 42 }) (va_Pc [.ref h0, .int a1, .int a2] (pu_P (dC, dI) vwCl (mt_ cI cZ) (mw_ h0 q n (F 44 0) cI cZ F))) (va_Qi (fun r (u : Nat → Nat → Int32) => (r, u) = rM_load n F a1 a2 ∧ va_D A (mw_ h0 q n (u 44 0) cI cZ u) ∧ mi_ n u) (fun u s' => va_P (dC, dI) vwCl (mw_ h0 q n (u 44 0) cI cZ u) s'.heap) A) 0 0 A := by
  refine Met.ofW (cc := cX8_load) (maxL := 3) (ret := (some .boolean)) (by decide) rfl ?_
  intro p e s m args below meth c s₁ B hml hv
  obtain ⟨rfl, hP, hK⟩ := hv
  have hx := B.exec
  have hb := B.bytes
  have hr := B.returns
  have hts := atoms_spec (ws := wsX8_load) B.pre
  have hown : s.vm.findClass RX8 = some m.cls := findClass_of_methodNamed B.named
  have hlocks := B.notSynchronized
  have hinX8 : ∀ w ∈ u_ws RX8 TX8 37, w ∈ wsX8_load := by decide +kernel
  have hS : va_S A s.heap s.heap [] := va_S.rf
  have hl := lv_entry ([.ref h0, .int a1, .int a2]) (n := 3) (Nat.le_of_ble_eq_true rfl)
  rw [lg_entry_eq]
  generalize (lg_sl ([.ref h0, .int a1, .int a2]) ++ List.replicate (3 - (lg_sl ([.ref h0, .int a1, .int a2])).length) Slot.unset).toArray = ls at hl ⊢
  have hl : lv_has ls 3 [(0, .ref h0), (1, .int a1), (2, .int a2)] := hl
  obtain ⟨H, hH, hP, hS⟩ : ∃ H, H = s.heap ∧ va_P (dC, dI) vwCl (mw_ h0 q n (F 44 0) cI cZ F) H ∧ va_S A s.heap H [] := ⟨_, rfl, hP, hS⟩
  rw [← hH]
  generalize ([] : List Loc) = locs at hS ⊢
  refine lv_iload_n hx hb dX8_load_0 rfl (lv_at hl 1 rfl) ?_
  refine pu_call (va_runS (As := [.int a1]) (rest := []) ⟨hx, hb, hml, hown, hts⟩ (c_X8_isWare l a1) (va_cwS 1 hts gX8_load_X8_isWare rfl rfl rfl (by decide +kernel) ⟨Nat.le_of_ble_eq_true rfl, Nat.le_of_ble_eq_true rfl⟩) pu_preS rfl rfl hl.1 rfl (lv_room (Nat.le_of_ble_eq_true rfl)) dX8_load_1 ⟨Nat.le_of_ble_eq_true rfl, Nat.le_of_ble_eq_true rfl⟩) ?_
  refine lv_if_eq (tgt := 18) hx hb dX8_load_4 (by decide) (fun h_1 => ?_) (fun h_1 => ?_)
  · skip
    refine lv_iconst (v := 0) hx hb dX8_load_18 (by decide) ?_
    have hq2 : rM_load n F a1 a2 = (0, F) := by exact (if_pos h_1)
    exact W.zret (v := 0) hx hb hr rfl (fun t9 ht hW => ⟨⟨0, F, rfl, ⟨hq2.symm, hD, hI⟩, by show va_P (dC, dI) vwCl _ t9.heap; rw [ht]; exact hP⟩, hS.F ht⟩) hS.2.2 dX8_load_19
  · skip
    refine lv_iload_n hx hb dX8_load_7 rfl (lv_at hl 2 rfl) ?_
    refine lv_iconst (v := 0) hx hb dX8_load_8 (by decide) ?_
    refine lv_sipush (v := 500) hx hb dX8_load_9 (by decide) ?_
    refine pu_call (va_runS (As := [.int a2, .int 0, .int 500]) (rest := []) ⟨hx, hb, hml, hown, hts⟩ (c_X8_in l a2 0 500) (va_cwS 3 hts gX8_load_X8_in rfl rfl rfl (by decide +kernel) ⟨Nat.le_of_ble_eq_true rfl, Nat.le_of_ble_eq_true rfl⟩) pu_preS rfl rfl hl.1 rfl (lv_room (Nat.le_of_ble_eq_true rfl)) dX8_load_12 ⟨Nat.le_of_ble_eq_true rfl, Nat.le_of_ble_eq_true rfl⟩) ?_
    refine lv_if_ne (tgt := 20) hx hb dX8_load_15 (by decide) (fun h_3 => ?_) (fun h_3 => ?_)
    · skip
      refine lv_aload_n hx hb dX8_load_20 rfl (lv_at hl 0 rfl) ?_
      refine va_get (D := (dC, dI)) (ci := 7) (v := .ref (q 12)) (C := RX8) (T := TX8) (N := 37) hx hb hts hinX8 hown hK hP 0 rfl rfl 12 (by decide) (hts (.fieldLink RX8 37 "FurPostsModel" "loaded" "[I") (by decide +kernel)) (fun _ h9 => h9) rfl dX8_load_21 ?_
      refine lv_iload_n hx hb dX8_load_24 rfl (lv_at hl 1 rfl) ?_
      refine lv_iload_n hx hb dX8_load_25 rfl (lv_at hl 2 rfl) ?_
      refine va_iast hx hb hK hP hD hS 10 0 rfl rfl (i := a1) (x := a2) (sp_vp h_1 rfl) dX8_load_26 (fun H locs hP2 hD2 hS => ?_)
      obtain ⟨F4, e4, hP, hD, hI4⟩ : ∃ F4 : Nat → Nat → Int32, F4 = up2 F 12 a1.toNatClampNeg a2 ∧ va_P (dC, dI) vwCl (mw_ h0 q n (F4 44 0) cI cZ F4) H ∧ va_D A (mw_ h0 q n (F4 44 0) cI cZ F4) ∧ mi_ n F4 := ⟨_, rfl, hP2, hD2, hI⟩
      refine lv_iconst (v := 1) hx hb dX8_load_27 (by decide) ?_
      have hq5 : rM_load n F a1 a2 = (1, F4) := by subst e4; exact (if_neg h_1).trans (if_neg h_3)
      exact W.zret (v := 1) hx hb hr rfl (fun t9 ht hW => ⟨⟨1, F4, rfl, ⟨hq5.symm, hD, hI4⟩, by show va_P (dC, dI) vwCl _ t9.heap; rw [ht]; exact hP⟩, hS.F ht⟩) hS.2.2 dX8_load_28
    · skip
      refine lv_iconst (v := 0) hx hb dX8_load_18 (by decide) ?_
      have hq6 : rM_load n F a1 a2 = (0, F) := by exact (if_neg h_1).trans (if_pos h_3)
      exact W.zret (v := 0) hx hb hr rfl (fun t9 ht hW => ⟨⟨0, F, rfl, ⟨hq6.symm, hD, hI⟩, by show va_P (dC, dI) vwCl _ t9.heap; rw [ht]; exact hP⟩, hS.F ht⟩) hS.2.2 dX8_load_19

set_option maxHeartbeats 8000000 in
set_option maxRecDepth 100000 in
theorem m_X8_want (l : Launch) (dC : Nat → ClassId) (dI : Nat → Nat → Nat) (h0 : Nat) (q n : Nat → Nat) (cI cZ : ClassId) (F : Nat → Nat → Int32) (hI : mi_ n F) (hN : nb_ n) (A : Nat → Prop) (hD : va_D A (mw_ h0 q n (F 44 0) cI cZ F)) (a1 : Int32) (a2 : Int32) (a3 : Int32) : Met l yX8_want wsX8_want ({ frames := 2, cells := 0, slots := 0, locals := 42 }) (va_Pc [.ref h0, .int a1, .int a2, .int a3] (pu_P (dC, dI) vwCl (mt_ cI cZ) (mw_ h0 q n (F 44 0) cI cZ F))) (va_Qi (fun r (u : Nat → Nat → Int32) => (r, u) = rM_want n F a1 a2 a3 ∧ va_D A (mw_ h0 q n (u 44 0) cI cZ u) ∧ mi_ n u) (fun u s' => va_P (dC, dI) vwCl (mw_ h0 q n (u 44 0) cI cZ u) s'.heap) A) 0 0 A := by
  refine Met.ofW (cc := cX8_want) (maxL := 4) (ret := (some .boolean)) (by decide) rfl ?_
  intro p e s m args below meth c s₁ B hml hv
  obtain ⟨rfl, hP, hK⟩ := hv
  have hx := B.exec
  have hb := B.bytes
  have hr := B.returns
  have hts := atoms_spec (ws := wsX8_want) B.pre
  have hown : s.vm.findClass RX8 = some m.cls := findClass_of_methodNamed B.named
  have hlocks := B.notSynchronized
  have hinX8 : ∀ w ∈ u_ws RX8 TX8 37, w ∈ wsX8_want := by decide +kernel
  have hS : va_S A s.heap s.heap [] := va_S.rf
  have hl := lv_entry ([.ref h0, .int a1, .int a2, .int a3]) (n := 4) (Nat.le_of_ble_eq_true rfl)
  rw [lg_entry_eq]
  generalize (lg_sl ([.ref h0, .int a1, .int a2, .int a3]) ++ List.replicate (4 - (lg_sl ([.ref h0, .int a1, .int a2, .int a3])).length) Slot.unset).toArray = ls at hl ⊢
  have hl : lv_has ls 4 [(0, .ref h0), (1, .int a1), (2, .int a2), (3, .int a3)] := hl
  obtain ⟨H, hH, hP, hS⟩ : ∃ H, H = s.heap ∧ va_P (dC, dI) vwCl (mw_ h0 q n (F 44 0) cI cZ F) H ∧ va_S A s.heap H [] := ⟨_, rfl, hP, hS⟩
  rw [← hH]
  generalize ([] : List Loc) = locs at hS ⊢
  refine lv_iload_n hx hb dX8_want_0 rfl (lv_at hl 1 rfl) ?_
  refine pu_call (va_runS (As := [.int a1]) (rest := []) ⟨hx, hb, hml, hown, hts⟩ (c_X8_isWare l a1) (va_cwS 1 hts gX8_want_X8_isWare rfl rfl rfl (by decide +kernel) ⟨Nat.le_of_ble_eq_true rfl, Nat.le_of_ble_eq_true rfl⟩) pu_preS rfl rfl hl.1 rfl (lv_room (Nat.le_of_ble_eq_true rfl)) dX8_want_1 ⟨Nat.le_of_ble_eq_true rfl, Nat.le_of_ble_eq_true rfl⟩) ?_
  refine lv_if_eq (tgt := 28) hx hb dX8_want_4 (by decide) (fun h_1 => ?_) (fun h_1 => ?_)
  · skip
    refine lv_iconst (v := 0) hx hb dX8_want_28 (by decide) ?_
    have hq2 : rM_want n F a1 a2 a3 = (0, F) := by exact (if_pos h_1)
    exact W.zret (v := 0) hx hb hr rfl (fun t9 ht hW => ⟨⟨0, F, rfl, ⟨hq2.symm, hD, hI⟩, by show va_P (dC, dI) vwCl _ t9.heap; rw [ht]; exact hP⟩, hS.F ht⟩) hS.2.2 dX8_want_29
  · skip
    refine lv_iload_n hx hb dX8_want_7 rfl (lv_at hl 2 rfl) ?_
    refine lv_iconst (v := 0) hx hb dX8_want_8 (by decide) ?_
    refine lv_bipush (v := 20) hx hb dX8_want_9 (by decide) ?_
    refine pu_call (va_runS (As := [.int a2, .int 0, .int 20]) (rest := []) ⟨hx, hb, hml, hown, hts⟩ (c_X8_in l a2 0 20) (va_cwS 3 hts gX8_want_X8_in rfl rfl rfl (by decide +kernel) ⟨Nat.le_of_ble_eq_true rfl, Nat.le_of_ble_eq_true rfl⟩) pu_preS rfl rfl hl.1 rfl (lv_room (Nat.le_of_ble_eq_true rfl)) dX8_want_11 ⟨Nat.le_of_ble_eq_true rfl, Nat.le_of_ble_eq_true rfl⟩) ?_
    refine lv_if_eq (tgt := 28) hx hb dX8_want_14 (by decide) (fun h_3 => ?_) (fun h_3 => ?_)
    · skip
      refine lv_iconst (v := 0) hx hb dX8_want_28 (by decide) ?_
      have hq4 : rM_want n F a1 a2 a3 = (0, F) := by exact (if_neg h_1).trans (if_pos h_3)
      exact W.zret (v := 0) hx hb hr rfl (fun t9 ht hW => ⟨⟨0, F, rfl, ⟨hq4.symm, hD, hI⟩, by show va_P (dC, dI) vwCl _ t9.heap; rw [ht]; exact hP⟩, hS.F ht⟩) hS.2.2 dX8_want_29
    · skip
      refine lv_iload_n hx hb dX8_want_17 rfl (lv_at hl 3 rfl) ?_
      refine lv_iconst (v := 0) hx hb dX8_want_18 (by decide) ?_
      refine lv_sipush (v := 1000) hx hb dX8_want_19 (by decide) ?_
      refine pu_call (va_runS (As := [.int a3, .int 0, .int 1000]) (rest := []) ⟨hx, hb, hml, hown, hts⟩ (c_X8_in l a3 0 1000) (va_cwS 3 hts gX8_want_X8_in rfl rfl rfl (by decide +kernel) ⟨Nat.le_of_ble_eq_true rfl, Nat.le_of_ble_eq_true rfl⟩) pu_preS rfl rfl hl.1 rfl (lv_room (Nat.le_of_ble_eq_true rfl)) dX8_want_22 ⟨Nat.le_of_ble_eq_true rfl, Nat.le_of_ble_eq_true rfl⟩) ?_
      refine lv_if_ne (tgt := 30) hx hb dX8_want_25 (by decide) (fun h_5 => ?_) (fun h_5 => ?_)
      · skip
        refine lv_aload_n hx hb dX8_want_30 rfl (lv_at hl 0 rfl) ?_
        refine va_get (D := (dC, dI)) (ci := 7) (v := .ref (q 33)) (C := RX8) (T := TX8) (N := 37) hx hb hts hinX8 hown hK hP 0 rfl rfl 33 (by decide) (hts (.fieldLink RX8 95 "FurPostsModel" "parts" "[I") (by decide +kernel)) (fun _ h9 => h9) rfl dX8_want_31 ?_
        refine lv_bipush (v := 21) hx hb dX8_want_34 (by decide) ?_
        refine lv_iload_n hx hb dX8_want_36 rfl (lv_at hl 1 rfl) ?_
        refine lv_imul hx hb dX8_want_37 ?_
        refine lv_iload_n hx hb dX8_want_38 rfl (lv_at hl 2 rfl) ?_
        refine lv_iadd hx hb dX8_want_39 ?_
        refine lv_iload_n hx hb dX8_want_40 rfl (lv_at hl 3 rfl) ?_
        refine va_iast hx hb hK hP hD hS 29 0 rfl rfl (i := ((21 * a1) + a2)) (x := a3) (vp_lin (a := 6) (b := 21) (m := 21) (sp_vp h_1 rfl) (sp_vp h_3 rfl) rfl (by decide)) dX8_want_41 (fun H locs hP2 hD2 hS => ?_)
        obtain ⟨F6, e6, hP, hD, hI6⟩ : ∃ F6 : Nat → Nat → Int32, F6 = up2 F 33 ((21 * a1) + a2).toNatClampNeg a3 ∧ va_P (dC, dI) vwCl (mw_ h0 q n (F6 44 0) cI cZ F6) H ∧ va_D A (mw_ h0 q n (F6 44 0) cI cZ F6) ∧ mi_ n F6 := ⟨_, rfl, hP2, hD2, hI⟩
        rw [(tn_lin (k := 21) (a := 6) (b := 21) (m := 21) (sp_vp h_1 rfl) (sp_vp h_3 rfl) rfl (by decide))] at e6
        refine lv_iconst (v := 1) hx hb dX8_want_42 (by decide) ?_
        have hq7 : rM_want n F a1 a2 a3 = (1, F6) := by subst e6; exact (if_neg h_1).trans ((if_neg h_3).trans (if_neg h_5))
        exact W.zret (v := 1) hx hb hr rfl (fun t9 ht hW => ⟨⟨1, F6, rfl, ⟨hq7.symm, hD, hI6⟩, by show va_P (dC, dI) vwCl _ t9.heap; rw [ht]; exact hP⟩, hS.F ht⟩) hS.2.2 dX8_want_43
      · skip
        refine lv_iconst (v := 0) hx hb dX8_want_28 (by decide) ?_
        have hq8 : rM_want n F a1 a2 a3 = (0, F) := by exact (if_neg h_1).trans ((if_neg h_3).trans (if_pos h_5))
        exact W.zret (v := 0) hx hb hr rfl (fun t9 ht hW => ⟨⟨0, F, rfl, ⟨hq8.symm, hD, hI⟩, by show va_P (dC, dI) vwCl _ t9.heap; rw [ht]; exact hP⟩, hS.F ht⟩) hS.2.2 dX8_want_29

set_option maxHeartbeats 8000000 in
set_option maxRecDepth 100000 in
theorem m_X8_lose (l : Launch) (dC : Nat → ClassId) (dI : Nat → Nat → Nat) (h0 : Nat) (q n : Nat → Nat) (cI cZ : ClassId) (F : Nat → Nat → Int32) (hI : mi_ n F) (hN : nb_ n) (A : Nat → Prop) (hD : va_D A (mw_ h0 q n (F 44 0) cI cZ F)) (a1 : Int32) : Met l yX8_lose wsX8_lose ({ frames := 3, cells := 0, slots := 0, locals := 64 }) (va_Pc [.ref h0, .int a1] (pu_P (dC, dI) vwCl (mt_ cI cZ) (mw_ h0 q n (F 44 0) cI cZ F))) (va_Qi (fun r (u : Nat → Nat → Int32) => (r, u) = rM_lose n F a1 ∧ va_D A (mw_ h0 q n (u 44 0) cI cZ u) ∧ mi_ n u) (fun u s' => va_P (dC, dI) vwCl (mw_ h0 q n (u 44 0) cI cZ u) s'.heap) A) 0 0 A := by
  refine Met.ofW (cc := cX8_lose) (maxL := 4) (ret := (some .int)) (by decide) rfl ?_
  intro p e s m args below meth c s₁ B hml hv
  obtain ⟨rfl, hP, hK⟩ := hv
  have hx := B.exec
  have hb := B.bytes
  have hr := B.returns
  have hts := atoms_spec (ws := wsX8_lose) B.pre
  have hown : s.vm.findClass RX8 = some m.cls := findClass_of_methodNamed B.named
  have hlocks := B.notSynchronized
  have hinX8 : ∀ w ∈ u_ws RX8 TX8 37, w ∈ wsX8_lose := by decide +kernel
  have hS : va_S A s.heap s.heap [] := va_S.rf
  have hl := lv_entry ([.ref h0, .int a1]) (n := 4) (Nat.le_of_ble_eq_true rfl)
  rw [lg_entry_eq]
  generalize (lg_sl ([.ref h0, .int a1]) ++ List.replicate (4 - (lg_sl ([.ref h0, .int a1])).length) Slot.unset).toArray = ls at hl ⊢
  have hl : lv_has ls 4 [(0, .ref h0), (1, .int a1)] := hl
  obtain ⟨H, hH, hP, hS⟩ : ∃ H, H = s.heap ∧ va_P (dC, dI) vwCl (mw_ h0 q n (F 44 0) cI cZ F) H ∧ va_S A s.heap H [] := ⟨_, rfl, hP, hS⟩
  rw [← hH]
  generalize ([] : List Loc) = locs at hS ⊢
  refine lv_aload_n hx hb dX8_lose_0 rfl (lv_at hl 0 rfl) ?_
  refine lv_iload_n hx hb dX8_lose_1 rfl (lv_at hl 1 rfl) ?_
  refine pu_call (va_runV (As := [.int a1]) (rest := []) ⟨hx, hb, hml, hown, hts⟩ (k_X8_isAway l dC dI h0 q n cI cZ F hI hN a1) (cwV 1 hts gX8_lose_X8_isAway rfl rfl rfl (by decide +kernel) ⟨Nat.le_of_ble_eq_true rfl, Nat.le_of_ble_eq_true rfl⟩) (pu_pre hP hK (ci := 7) (q0 := 0) rfl rfl) rfl rfl hl.1 rfl (lv_room (Nat.le_of_ble_eq_true rfl)) dX8_lose_2 ⟨Nat.le_of_ble_eq_true rfl, Nat.le_of_ble_eq_true rfl⟩) ?_
  refine lv_topi (fun r1 (e1 : r1 = rM_isAway n F a1) => ?_)
  have hg1 : ¬ r1 = 0 → vp_in a1 120 := by rw [e1]; exact rM_isAway_b hN
  refine lv_if_ne (tgt := 10) hx hb dX8_lose_5 (by decide) (fun h_2 => ?_) (fun h_2 => ?_)
  · skip
    refine lv_iconst (v := 0) hx hb dX8_lose_10 (by decide) ?_
    refine lv_istore_n (lv' := [(2, .int 0), (0, .ref h0), (1, .int a1)]) hx hb dX8_lose_11 rfl hl (by decide) rfl (fun ls hl => ?_)
    refine lv_iconst (v := 0) hx hb dX8_lose_12 (by decide) ?_
    refine lv_istore_n (lv' := [(3, .int 0), (2, .int 0), (0, .ref h0), (1, .int a1)]) hx hb dX8_lose_13 rfl hl (by decide) rfl (fun ls hl => ?_)
    have key14 : ∀ (k jL14 : Nat) (FL14 : Nat → Nat → Int32) (xL14_2 : Int32) (H : Heap) (locs : List Loc) (ls : Array Slot), jL14 + k = 6 → va_P (dC, dI) vwCl (mw_ h0 q n (FL14 44 0) cI cZ FL14) H → va_D A (mw_ h0 q n (FL14 44 0) cI cZ FL14) → mi_ n FL14 → va_S A s.heap H locs → lv_has ls 4 [(3, .int (nI jL14)), (2, .int xL14_2), (0, .ref h0), (1, .int a1)] → (∀ (H : Heap) (locs : List Loc) (ls : Array Slot), va_P (dC, dI) vwCl (mw_ h0 q n (((rM_lose_L14 n a1 k jL14 FL14 xL14_2).1) 44 0) cI cZ ((rM_lose_L14 n a1 k jL14 FL14 xL14_2).1)) H → va_D A (mw_ h0 q n (((rM_lose_L14 n a1 k jL14 FL14 xL14_2).1) 44 0) cI cZ ((rM_lose_L14 n a1 k jL14 FL14 xL14_2).1)) → mi_ n ((rM_lose_L14 n a1 k jL14 FL14 xL14_2).1) → va_S A s.heap H locs → lv_has ls 4 [(3, .int (nI 6)), (2, .int ((rM_lose_L14 n a1 k jL14 FL14 xL14_2).2)), (0, .ref h0), (1, .int a1)] → W p l e (headSpec wsX8_lose ({ frames := 3, cells := 0, slots := 0, locals := 64 })).room s m [.ref h0, .int a1].toArray below meth c H locs 0 0 (MQ below (va_Qi (fun r (u : Nat → Nat → Int32) => (r, u) = rM_lose n F a1 ∧ va_D A (mw_ h0 q n (u 44 0) cI cZ u) ∧ mi_ n u) (fun u s' => va_P (dC, dI) vwCl (mw_ h0 q n (u 44 0) cI cZ u) s'.heap) A) [.ref h0, .int a1].toArray s 0 0 A) (F0 m 69 ls [])) → 
        W p l e (headSpec wsX8_lose ({ frames := 3, cells := 0, slots := 0, locals := 64 })).room s m [.ref h0, .int a1].toArray below meth c H locs 0 0 (MQ below (va_Qi (fun r (u : Nat → Nat → Int32) => (r, u) = rM_lose n F a1 ∧ va_D A (mw_ h0 q n (u 44 0) cI cZ u) ∧ mi_ n u) (fun u s' => va_P (dC, dI) vwCl (mw_ h0 q n (u 44 0) cI cZ u) s'.heap) A) [.ref h0, .int a1].toArray s 0 0 A) (F0 m 14 ls []) := by
      intro k
      induction k with
      | zero =>
        intro jL14 FL14 xL14_2 H locs ls hj hP hD hIz14 hS hl hex
        have hj : jL14 = 6 := by omega
        subst jL14
        refine lv_iload_n hx hb dX8_lose_14 rfl (lv_at hl 0 rfl) ?_
        refine lv_bipush (v := 6) hx hb dX8_lose_15 (by decide) ?_
        refine lv_icmp_ge (tgt := 69) hx hb dX8_lose_17 (by decide) (fun h_3 => ?_) (fun h_3 => absurd (lp_ge0 (B := 6) rfl) h_3)
        exact hex H locs ls hP hD hIz14 hS (lv_sub hl [0, 1, 2, 3] rfl)
      | succ k ih14 =>
        intro jL14 FL14 xL14_2 H locs ls hj hP hD hIz14 hS hl hex
        have hj14 : jL14 < 6 := by omega
        refine lv_iload_n hx hb dX8_lose_14 rfl (lv_at hl 0 rfl) ?_
        refine lv_bipush (v := 6) hx hb dX8_lose_15 (by decide) ?_
        refine lv_icmp_ge (tgt := 69) hx hb dX8_lose_17 (by decide) (fun h_4 => absurd h_4 (lp_ge (B := 6) (by omega) (by omega) rfl)) (fun h_4 => ?_)
        refine lv_iload_n hx hb dX8_lose_20 rfl (lv_at hl 1 rfl) ?_
        refine lv_aload_n hx hb dX8_lose_21 rfl (lv_at hl 2 rfl) ?_
        refine va_get (D := (dC, dI)) (ci := 7) (v := .ref (q 22)) (C := RX8) (T := TX8) (N := 37) hx hb hts hinX8 hown hK hP 0 rfl rfl 22 (by decide) (hts (.fieldLink RX8 64 "FurPostsModel" "has" "[I") (by decide +kernel)) (fun _ h9 => h9) rfl dX8_lose_22 ?_
        refine lv_bipush (v := 6) hx hb dX8_lose_25 (by decide) ?_
        refine lv_iload_n hx hb dX8_lose_27 rfl (lv_at hl 3 rfl) ?_
        refine lv_imul hx hb dX8_lose_28 ?_
        refine lv_iload_n hx hb dX8_lose_29 rfl (lv_at hl 0 rfl) ?_
        refine lv_iadd hx hb dX8_lose_30 ?_
        refine va_iald hx hb hK hP 19 0 rfl rfl (i := ((6 * a1) + (nI jL14))) (vp_lin (a := 120) (b := 6) (m := 6) ((hg1 h_2)) (vp_in_nI (show jL14 < 6 by omega) (by decide)) rfl (by decide)) dX8_lose_31 ?_
        refine lv_topi (fun v5 (e5 : v5 = FL14 22 ((6 * a1) + (nI jL14)).toNatClampNeg) => ?_)
        rw [((tn_lin (k := 6) (a := 120) (b := 6) (m := 6) ((hg1 h_2)) (vp_in_nI (show jL14 < 6 by omega) (by decide)) rfl (by decide)).trans (by rw [(nI_clamp (by omega))]))] at e5
        refine lv_iadd hx hb dX8_lose_32 ?_
        refine lv_istore_n (lv' := [(2, .int (xL14_2 + v5)), (3, .int (nI jL14)), (0, .ref h0), (1, .int a1)]) hx hb dX8_lose_33 rfl hl (by decide) rfl (fun ls hl => ?_)
        refine lv_aload_n hx hb dX8_lose_34 rfl (lv_at hl 2 rfl) ?_
        refine lv_iconst (v := 4) hx hb dX8_lose_35 (by decide) ?_
        refine lv_iload_n hx hb dX8_lose_36 rfl (lv_at hl 1 rfl) ?_
        refine lv_aload_n hx hb dX8_lose_37 rfl (lv_at hl 2 rfl) ?_
        refine va_get (D := (dC, dI)) (ci := 7) (v := .ref (q 22)) (C := RX8) (T := TX8) (N := 37) hx hb hts hinX8 hown hK hP 0 rfl rfl 22 (by decide) (hts (.fieldLink RX8 64 "FurPostsModel" "has" "[I") (by decide +kernel)) (fun _ h9 => h9) rfl dX8_lose_38 ?_
        refine lv_bipush (v := 6) hx hb dX8_lose_41 (by decide) ?_
        refine lv_iload_n hx hb dX8_lose_43 rfl (lv_at hl 3 rfl) ?_
        refine lv_imul hx hb dX8_lose_44 ?_
        refine lv_iload_n hx hb dX8_lose_45 rfl (lv_at hl 1 rfl) ?_
        refine lv_iadd hx hb dX8_lose_46 ?_
        refine va_iald hx hb hK hP 19 0 rfl rfl (i := ((6 * a1) + (nI jL14))) (vp_lin (a := 120) (b := 6) (m := 6) ((hg1 h_2)) (vp_in_nI (show jL14 < 6 by omega) (by decide)) rfl (by decide)) dX8_lose_47 ?_
        refine lv_topi (fun v6 (e6 : v6 = FL14 22 ((6 * a1) + (nI jL14)).toNatClampNeg) => ?_)
        rw [((tn_lin (k := 6) (a := 120) (b := 6) (m := 6) ((hg1 h_2)) (vp_in_nI (show jL14 < 6 by omega) (by decide)) rfl (by decide)).trans (by rw [(nI_clamp (by omega))]))] at e6
        refine va_callv (va_runV (As := [.int 4, .int (nI jL14), .int v6]) (rest := []) ⟨hx, hb, hml, hown, hts⟩ (m_X8_sums l dC dI h0 q n cI cZ FL14 hIz14 hN A hD 4 (nI jL14) v6 (by unfold vp_in; decide) (vp_in_nI (show jL14 < 6 by omega) (by decide))) (cwV 3 hts gX8_lose_X8_sums rfl rfl rfl (by decide +kernel) ⟨Nat.le_of_ble_eq_true rfl, Nat.le_of_ble_eq_true rfl⟩) (pu_pre hP hK (ci := 7) (q0 := 0) rfl rfl) rfl rfl hl.1 rfl (lv_room (Nat.le_of_ble_eq_true rfl)) dX8_lose_48 ⟨Nat.le_of_ble_eq_true rfl, Nat.le_of_ble_eq_true rfl⟩) hS (fun _ _ h => h) (fun _ h => h) (fun u7 st7 H locs ht7 hvm7 hw7 hB7 hz7 hk7 hS => ?_)
        obtain ⟨hq7, hD7, hI7⟩ := hw7
        obtain ⟨F7, e7, hP, hD, hI7⟩ : ∃ F7 : Nat → Nat → Int32, F7 = (rM_sums n FL14 4 (nI jL14) v6) ∧ va_P (dC, dI) vwCl (mw_ h0 q n (F7 44 0) cI cZ F7) H ∧ va_D A (mw_ h0 q n (F7 44 0) cI cZ F7) ∧ mi_ n F7 := ⟨u7, hq7, by rw [← ht7]; exact hB7, hD7, hI7⟩
        refine lv_aload_n hx hb dX8_lose_51 rfl (lv_at hl 2 rfl) ?_
        refine va_get (D := (dC, dI)) (ci := 7) (v := .ref (q 22)) (C := RX8) (T := TX8) (N := 37) hx hb hts hinX8 hown hK hP 0 rfl rfl 22 (by decide) (hts (.fieldLink RX8 64 "FurPostsModel" "has" "[I") (by decide +kernel)) (fun _ h9 => h9) rfl dX8_lose_52 ?_
        refine lv_bipush (v := 6) hx hb dX8_lose_55 (by decide) ?_
        refine lv_iload_n hx hb dX8_lose_57 rfl (lv_at hl 3 rfl) ?_
        refine lv_imul hx hb dX8_lose_58 ?_
        refine lv_iload_n hx hb dX8_lose_59 rfl (lv_at hl 1 rfl) ?_
        refine lv_iadd hx hb dX8_lose_60 ?_
        refine lv_iconst (v := 0) hx hb dX8_lose_61 (by decide) ?_
        refine va_iast hx hb hK hP hD hS 19 0 rfl rfl (i := ((6 * a1) + (nI jL14))) (x := 0) (vp_lin (a := 120) (b := 6) (m := 6) ((hg1 h_2)) (vp_in_nI (show jL14 < 6 by omega) (by decide)) rfl (by decide)) dX8_lose_62 (fun H locs hP2 hD2 hS => ?_)
        obtain ⟨F8, e8, hP, hD, hI8⟩ : ∃ F8 : Nat → Nat → Int32, F8 = up2 F7 22 ((6 * a1) + (nI jL14)).toNatClampNeg 0 ∧ va_P (dC, dI) vwCl (mw_ h0 q n (F8 44 0) cI cZ F8) H ∧ va_D A (mw_ h0 q n (F8 44 0) cI cZ F8) ∧ mi_ n F8 := ⟨_, rfl, hP2, hD2, hI7⟩
        rw [((tn_lin (k := 6) (a := 120) (b := 6) (m := 6) ((hg1 h_2)) (vp_in_nI (show jL14 < 6 by omega) (by decide)) rfl (by decide)).trans (by rw [(nI_clamp (by omega))]))] at e8
        refine lv_iinc (v := (nI (jL14 + 1))) (lv' := [(3, .int (nI (jL14 + 1))), (2, .int (xL14_2 + v5)), (0, .ref h0), (1, .int a1)]) hx hb dX8_lose_63 hl (k := 1) rfl (show nI jL14 + 1 = nI (jL14 + 1) from nI_1 jL14) (by decide) rfl (fun ls hl => ?_)
        refine lv_goto (tgt := 14) hx hb dX8_lose_66 (by decide) ?_
        have hI14 : (rM_lose_L14 n a1 (k + 1) jL14 FL14 xL14_2) = (rM_lose_L14 n a1 k (jL14 + 1) F8 (xL14_2 + v5)) := by subst e8 e7 e6 e5 e1; exact rfl
        exact ih14 (jL14 + 1) F8 (xL14_2 + v5) H locs ls (by omega) hP hD hI8 hS (lv_sub hl [0, 1, 2, 3] rfl) (by rw [← hI14]; exact hex)
    refine key14 6 0 F 0 H locs ls (by omega) hP hD hI hS (lv_sub hl [0, 1, 2, 3] rfl) (fun H locs ls hP hD hIz14 hS hl => ?_)
    obtain ⟨F9, e9, hP, hD, hI9⟩ : ∃ F9 : Nat → Nat → Int32, F9 = (rM_lose_L14 n a1 6 0 F 0).1 ∧ va_P (dC, dI) vwCl (mw_ h0 q n (F9 44 0) cI cZ F9) H ∧ va_D A (mw_ h0 q n (F9 44 0) cI cZ F9) ∧ mi_ n F9 := ⟨_, rfl, hP, hD, hIz14⟩
    obtain ⟨v10, e10⟩ : ∃ v10 : Int32, v10 = (rM_lose_L14 n a1 6 0 F 0).2 := ⟨_, rfl⟩
    rw [← e10] at hl
    refine lv_iconst (v := 0) hx hb dX8_lose_69 (by decide) ?_
    refine lv_istore_n (lv' := [(3, .int 0), (2, .int v10), (0, .ref h0), (1, .int a1)]) hx hb dX8_lose_70 rfl hl (by decide) rfl (fun ls hl => ?_)
    have key71 : ∀ (k jL71 : Nat) (FL71 : Nat → Nat → Int32) (H : Heap) (locs : List Loc) (ls : Array Slot), jL71 + k = (n 4) → va_P (dC, dI) vwCl (mw_ h0 q n (FL71 44 0) cI cZ FL71) H → va_D A (mw_ h0 q n (FL71 44 0) cI cZ FL71) → mi_ n FL71 → va_S A s.heap H locs → lv_has ls 4 [(3, .int (nI jL71)), (2, .int v10), (0, .ref h0), (1, .int a1)] → (∀ (H : Heap) (locs : List Loc) (ls : Array Slot), va_P (dC, dI) vwCl (mw_ h0 q n (((rM_lose_L71 a1 k jL71 FL71)) 44 0) cI cZ ((rM_lose_L71 a1 k jL71 FL71))) H → va_D A (mw_ h0 q n (((rM_lose_L71 a1 k jL71 FL71)) 44 0) cI cZ ((rM_lose_L71 a1 k jL71 FL71))) → mi_ n ((rM_lose_L71 a1 k jL71 FL71)) → va_S A s.heap H locs → lv_has ls 4 [(3, .int (nI (n 4))), (2, .int v10), (0, .ref h0), (1, .int a1)] → W p l e (headSpec wsX8_lose ({ frames := 3, cells := 0, slots := 0, locals := 64 })).room s m [.ref h0, .int a1].toArray below meth c H locs 0 0 (MQ below (va_Qi (fun r (u : Nat → Nat → Int32) => (r, u) = rM_lose n F a1 ∧ va_D A (mw_ h0 q n (u 44 0) cI cZ u) ∧ mi_ n u) (fun u s' => va_P (dC, dI) vwCl (mw_ h0 q n (u 44 0) cI cZ u) s'.heap) A) [.ref h0, .int a1].toArray s 0 0 A) (F0 m 136 ls [])) → 
        W p l e (headSpec wsX8_lose ({ frames := 3, cells := 0, slots := 0, locals := 64 })).room s m [.ref h0, .int a1].toArray below meth c H locs 0 0 (MQ below (va_Qi (fun r (u : Nat → Nat → Int32) => (r, u) = rM_lose n F a1 ∧ va_D A (mw_ h0 q n (u 44 0) cI cZ u) ∧ mi_ n u) (fun u s' => va_P (dC, dI) vwCl (mw_ h0 q n (u 44 0) cI cZ u) s'.heap) A) [.ref h0, .int a1].toArray s 0 0 A) (F0 m 71 ls []) := by
      intro k
      induction k with
      | zero =>
        intro jL71 FL71 H locs ls hj hP hD hIz71 hS hl hex
        have hj : jL71 = (n 4) := by omega
        subst jL71
        refine lv_iload_n hx hb dX8_lose_71 rfl (lv_at hl 0 rfl) ?_
        refine lv_aload_n hx hb dX8_lose_72 rfl (lv_at hl 2 rfl) ?_
        refine va_get (D := (dC, dI)) (ci := 7) (v := .int (nI (n 4))) (C := RX8) (T := TX8) (N := 37) hx hb hts hinX8 hown hK hP 0 rfl rfl 25 (by decide) (hts (.fieldLink RX8 144 "FurPostsModel" "letters" "I") (by decide +kernel)) (fun _ h9 => h9) rfl dX8_lose_73 ?_
        refine lv_icmp_ge (tgt := 136) hx hb dX8_lose_76 (by decide) (fun h_11 => ?_) (fun h_11 => absurd (lp_ge0 (B := (n 4)) rfl) h_11)
        exact hex H locs ls hP hD hIz71 hS (lv_sub hl [0, 1, 2, 3] rfl)
      | succ k ih71 =>
        intro jL71 FL71 H locs ls hj hP hD hIz71 hS hl hex
        have hj71 : jL71 < (n 4) := by omega
        refine lv_iload_n hx hb dX8_lose_71 rfl (lv_at hl 0 rfl) ?_
        refine lv_aload_n hx hb dX8_lose_72 rfl (lv_at hl 2 rfl) ?_
        refine va_get (D := (dC, dI)) (ci := 7) (v := .int (nI (n 4))) (C := RX8) (T := TX8) (N := 37) hx hb hts hinX8 hown hK hP 0 rfl rfl 25 (by decide) (hts (.fieldLink RX8 144 "FurPostsModel" "letters" "I") (by decide +kernel)) (fun _ h9 => h9) rfl dX8_lose_73 ?_
        refine lv_icmp_ge (tgt := 136) hx hb dX8_lose_76 (by decide) (fun h_12 => absurd h_12 (lp_ge (B := (n 4)) (by omega) (by omega) rfl)) (fun h_12 => ?_)
        refine lv_aload_n hx hb dX8_lose_79 rfl (lv_at hl 2 rfl) ?_
        refine va_get (D := (dC, dI)) (ci := 7) (v := .ref (q 28)) (C := RX8) (T := TX8) (N := 37) hx hb hts hinX8 hown hK hP 0 rfl rfl 28 (by decide) (hts (.fieldLink RX8 80 "FurPostsModel" "letterAt" "[I") (by decide +kernel)) (fun _ h9 => h9) rfl dX8_lose_80 ?_
        refine lv_iload_n hx hb dX8_lose_83 rfl (lv_at hl 0 rfl) ?_
        refine va_iald hx hb hK hP 24 0 rfl rfl (i := (nI jL71)) (vp_in_nI (show jL71 < 300 by omega) (by decide)) dX8_lose_84 ?_
        refine lv_topi (fun v13 (e13 : v13 = FL71 28 (nI jL71).toNatClampNeg) => ?_)
        rw [(nI_clamp (by omega))] at e13
        refine lv_sipush (v := 2000) hx hb dX8_lose_85 (by decide) ?_
        refine lv_iload_n hx hb dX8_lose_88 rfl (lv_at hl 3 rfl) ?_
        refine lv_iadd hx hb dX8_lose_89 ?_
        refine lv_icmp_eq (tgt := 96) hx hb dX8_lose_90 (by decide) (fun h_14 => ?_) (fun h_14 => ?_)
        · skip
          refine lv_aload_n hx hb dX8_lose_96 rfl (lv_at hl 2 rfl) ?_
          refine va_get (D := (dC, dI)) (ci := 7) (v := .ref (q 28)) (C := RX8) (T := TX8) (N := 37) hx hb hts hinX8 hown hK hP 0 rfl rfl 28 (by decide) (hts (.fieldLink RX8 80 "FurPostsModel" "letterAt" "[I") (by decide +kernel)) (fun _ h9 => h9) rfl dX8_lose_97 ?_
          refine lv_iload_n hx hb dX8_lose_100 rfl (lv_at hl 0 rfl) ?_
          refine lv_sipush (v := 1001) hx hb dX8_lose_101 (by decide) ?_
          refine va_iast hx hb hK hP hD hS 24 0 rfl rfl (i := (nI jL71)) (x := 1001) (vp_in_nI (show jL71 < 300 by omega) (by decide)) dX8_lose_104 (fun H locs hP2 hD2 hS => ?_)
          obtain ⟨F15, e15, hP, hD, hI15⟩ : ∃ F15 : Nat → Nat → Int32, F15 = up2 FL71 28 (nI jL71).toNatClampNeg 1001 ∧ va_P (dC, dI) vwCl (mw_ h0 q n (F15 44 0) cI cZ F15) H ∧ va_D A (mw_ h0 q n (F15 44 0) cI cZ F15) ∧ mi_ n F15 := ⟨_, rfl, hP2, hD2, hIz71⟩
          rw [(nI_clamp (by omega))] at e15
          refine lv_aload_n hx hb dX8_lose_105 rfl (lv_at hl 2 rfl) ?_
          refine va_get (D := (dC, dI)) (ci := 7) (v := .ref (q 26)) (C := RX8) (T := TX8) (N := 37) hx hb hts hinX8 hown hK hP 0 rfl rfl 26 (by decide) (hts (.fieldLink RX8 74 "FurPostsModel" "letterKind" "[I") (by decide +kernel)) (fun _ h9 => h9) rfl dX8_lose_106 ?_
          refine lv_iload_n hx hb dX8_lose_109 rfl (lv_at hl 0 rfl) ?_
          refine va_iald hx hb hK hP 22 0 rfl rfl (i := (nI jL71)) (vp_in_nI (show jL71 < 300 by omega) (by decide)) dX8_lose_110 ?_
          refine lv_topi (fun v16 (e16 : v16 = F15 26 (nI jL71).toNatClampNeg) => ?_)
          rw [(nI_clamp (by omega))] at e16
          refine lv_iconst (v := 1) hx hb dX8_lose_111 (by decide) ?_
          refine lv_icmp_ne (tgt := 130) hx hb dX8_lose_112 (by decide) (fun h_17 => ?_) (fun h_17 => ?_)
          · skip
            refine lv_iinc (v := (nI (jL71 + 1))) (lv' := [(3, .int (nI (jL71 + 1))), (2, .int v10), (0, .ref h0), (1, .int a1)]) hx hb dX8_lose_130 hl (k := 0) rfl (show nI jL71 + 1 = nI (jL71 + 1) from nI_1 jL71) (by decide) rfl (fun ls hl => ?_)
            refine lv_goto (tgt := 71) hx hb dX8_lose_133 (by decide) ?_
            have hI71 : (rM_lose_L71 a1 (k + 1) jL71 FL71) = (rM_lose_L71 a1 k (jL71 + 1) F15) := by subst e16 e15 e13 e10 e9 e1; exact (if_pos h_14).trans (if_neg h_17)
            exact ih71 (jL71 + 1) F15 H locs ls (by omega) hP hD hI15 hS (lv_sub hl [0, 1, 2, 3] rfl) (by rw [← hI71]; exact hex)
          · skip
            refine lv_aload_n hx hb dX8_lose_115 rfl (lv_at hl 2 rfl) ?_
            refine lv_dup hx hb dX8_lose_116 rfl ?_
            refine va_get (D := (dC, dI)) (ci := 7) (v := .int (F15 44 0)) (C := RX8) (T := TX8) (N := 37) hx hb hts hinX8 hown hK hP 0 rfl rfl 35 (by decide) (hts (.fieldLink RX8 156 "FurPostsModel" "debtsLost" "I") (by decide +kernel)) (fun _ h9 => h9) rfl dX8_lose_117 ?_
            refine lv_topi (fun v18 (e18 : v18 = F15 44 0) => ?_)
            refine lv_aload_n hx hb dX8_lose_120 rfl (lv_at hl 2 rfl) ?_
            refine va_get (D := (dC, dI)) (ci := 7) (v := .ref (q 30)) (C := RX8) (T := TX8) (N := 37) hx hb hts hinX8 hown hK hP 0 rfl rfl 30 (by decide) (hts (.fieldLink RX8 86 "FurPostsModel" "letterTwo" "[I") (by decide +kernel)) (fun _ h9 => h9) rfl dX8_lose_121 ?_
            refine lv_iload_n hx hb dX8_lose_124 rfl (lv_at hl 0 rfl) ?_
            refine va_iald hx hb hK hP 26 0 rfl rfl (i := (nI jL71)) (vp_in_nI (show jL71 < 300 by omega) (by decide)) dX8_lose_125 ?_
            refine lv_topi (fun v19 (e19 : v19 = F15 30 (nI jL71).toNatClampNeg) => ?_)
            rw [(nI_clamp (by omega))] at e19
            refine lv_iadd hx hb dX8_lose_126 ?_
            refine va_put (D := (dC, dI)) (ci := 7) (v := .int (v18 + v19)) (ty := .int) (C := RX8) (T := TX8) (N := 37) hx hb hts hinX8 tyX8 tyX8_ok nmX8 hown hK hP hD hS 0 rfl rfl 35 (by decide) (hts (.fieldLink RX8 156 "FurPostsModel" "debtsLost" "I") (by decide +kernel)) (fun _ h9 => h9) rfl (by decide +kernel) rfl rfl (Nat.le_of_ble_eq_true rfl) dX8_lose_127 (fun H locs hP2 hD2 hS => ?_)
            obtain ⟨F20, e20, hP, hD, hI20⟩ : ∃ F20 : Nat → Nat → Int32, F20 = up2 F15 44 0 (v18 + v19) ∧ va_P (dC, dI) vwCl (mw_ h0 q n (F20 44 0) cI cZ F20) H ∧ va_D A (mw_ h0 q n (F20 44 0) cI cZ F20) ∧ mi_ n F20 := ⟨_, rfl, hP2, hD2, hI15⟩
            refine lv_iinc (v := (nI (jL71 + 1))) (lv' := [(3, .int (nI (jL71 + 1))), (2, .int v10), (0, .ref h0), (1, .int a1)]) hx hb dX8_lose_130 hl (k := 0) rfl (show nI jL71 + 1 = nI (jL71 + 1) from nI_1 jL71) (by decide) rfl (fun ls hl => ?_)
            refine lv_goto (tgt := 71) hx hb dX8_lose_133 (by decide) ?_
            have hI71 : (rM_lose_L71 a1 (k + 1) jL71 FL71) = (rM_lose_L71 a1 k (jL71 + 1) F20) := by subst e20 e19 e18 e16 e15 e13 e10 e9 e1; exact (if_pos h_14).trans (if_pos h_17)
            exact ih71 (jL71 + 1) F20 H locs ls (by omega) hP hD hI20 hS (lv_sub hl [0, 1, 2, 3] rfl) (by rw [← hI71]; exact hex)
        · skip
          refine lv_goto (tgt := 130) hx hb dX8_lose_93 (by decide) ?_
          refine lv_iinc (v := (nI (jL71 + 1))) (lv' := [(3, .int (nI (jL71 + 1))), (2, .int v10), (0, .ref h0), (1, .int a1)]) hx hb dX8_lose_130 hl (k := 0) rfl (show nI jL71 + 1 = nI (jL71 + 1) from nI_1 jL71) (by decide) rfl (fun ls hl => ?_)
          refine lv_goto (tgt := 71) hx hb dX8_lose_133 (by decide) ?_
          have hI71 : (rM_lose_L71 a1 (k + 1) jL71 FL71) = (rM_lose_L71 a1 k (jL71 + 1) FL71) := by subst e13 e10 e9 e1; exact (if_neg h_14)
          exact ih71 (jL71 + 1) FL71 H locs ls (by omega) hP hD hIz71 hS (lv_sub hl [0, 1, 2, 3] rfl) (by rw [← hI71]; exact hex)
    refine key71 (n 4) 0 F9 H locs ls (by omega) hP hD hI9 hS (lv_sub hl [0, 1, 2, 3] rfl) (fun H locs ls hP hD hIz71 hS hl => ?_)
    obtain ⟨F21, e21, hP, hD, hI21⟩ : ∃ F21 : Nat → Nat → Int32, F21 = (rM_lose_L71 a1 (n 4) 0 F9) ∧ va_P (dC, dI) vwCl (mw_ h0 q n (F21 44 0) cI cZ F21) H ∧ va_D A (mw_ h0 q n (F21 44 0) cI cZ F21) ∧ mi_ n F21 := ⟨_, rfl, hP, hD, hIz71⟩
    refine lv_aload_n hx hb dX8_lose_136 rfl (lv_at hl 2 rfl) ?_
    refine va_get (D := (dC, dI)) (ci := 7) (v := .ref (q 18)) (C := RX8) (T := TX8) (N := 37) hx hb hts hinX8 hown hK hP 0 rfl rfl 18 (by decide) (hts (.fieldLink RX8 52 "FurPostsModel" "state" "[I") (by decide +kernel)) (fun _ h9 => h9) rfl dX8_lose_137 ?_
    refine lv_iload_n hx hb dX8_lose_140 rfl (lv_at hl 3 rfl) ?_
    refine lv_iconst (v := 2) hx hb dX8_lose_141 (by decide) ?_
    refine va_iast hx hb hK hP hD hS 15 0 rfl rfl (i := a1) (x := 2) ((hg1 h_2)) dX8_lose_142 (fun H locs hP2 hD2 hS => ?_)
    obtain ⟨F22, e22, hP, hD, hI22⟩ : ∃ F22 : Nat → Nat → Int32, F22 = up2 F21 18 a1.toNatClampNeg 2 ∧ va_P (dC, dI) vwCl (mw_ h0 q n (F22 44 0) cI cZ F22) H ∧ va_D A (mw_ h0 q n (F22 44 0) cI cZ F22) ∧ mi_ n F22 := ⟨_, rfl, hP2, hD2, hI21⟩
    refine lv_iload_n hx hb dX8_lose_143 rfl (lv_at hl 1 rfl) ?_
    have hq23 : rM_lose n F a1 = (v10, F22) := by subst e22 e21 e10 e9 e1; exact (if_neg h_2)
    exact W.iret (v := v10) hx hb hr (fun t9 ht hW => ⟨⟨v10, F22, rfl, ⟨hq23.symm, hD, hI22⟩, by show va_P (dC, dI) vwCl _ t9.heap; rw [ht]; exact hP⟩, hS.F ht⟩) hS.2.2 dX8_lose_144
  · skip
    refine lv_iconst (v := (-1)) hx hb dX8_lose_8 (by decide) ?_
    have hq24 : rM_lose n F a1 = ((-1), F) := by subst e1; exact (if_pos h_2)
    exact W.iret (v := (-1)) hx hb hr (fun t9 ht hW => ⟨⟨(-1), F, rfl, ⟨hq24.symm, hD, hI⟩, by show va_P (dC, dI) vwCl _ t9.heap; rw [ht]; exact hP⟩, hS.F ht⟩) hS.2.2 dX8_lose_9
