set_option maxHeartbeats 8000000 in
set_option maxRecDepth 100000 in
theorem k_X8_isPost (l : Launch) (dC : Nat → ClassId) (dI : Nat → Nat → Nat) (h0 : Nat) (q n : Nat → Nat) (cI cZ : ClassId) (F : Nat → Nat → Int32) (hI : mi_ n F) (hN : nb_ n) (a1 : Int32) : Met l yX8_isPost wsX8_isPost ({ frames := 1, cells := 0, slots := 0, locals := 22 }) (va_Pc [.ref h0, .int a1] (pu_P (dC, dI) vwCl (mt_ cI cZ) (mw_ h0 q n (F 44 0) cI cZ F))) (pu_Q (.int (rM_isPost n F a1))) 0 0 pu_F := by
  refine Met.ofW (cc := cX8_isPost) (maxL := 2) (ret := (some .boolean)) (by decide) rfl ?_
  intro p e s m args below meth c s₁ B hml hv
  obtain ⟨rfl, hP, hK⟩ := hv
  have hx := B.exec
  have hb := B.bytes
  have hr := B.returns
  have hts := atoms_spec (ws := wsX8_isPost) B.pre
  have hown : s.vm.findClass RX8 = some m.cls := findClass_of_methodNamed B.named
  have hlocks := B.notSynchronized
  have hinX8 : ∀ w ∈ u_ws RX8 TX8 37, w ∈ wsX8_isPost := by decide +kernel
  have hl := lv_entry ([.ref h0, .int a1]) (n := 2) (Nat.le_of_ble_eq_true rfl)
  rw [lg_entry_eq]
  generalize (lg_sl ([.ref h0, .int a1]) ++ List.replicate (2 - (lg_sl ([.ref h0, .int a1])).length) Slot.unset).toArray = ls at hl ⊢
  have hl : lv_has ls 2 [(0, .ref h0), (1, .int a1)] := hl
  refine lv_iload_n hx hb dX8_isPost_0 rfl (lv_at hl 1 rfl) ?_
  refine lv_iconst (v := 0) hx hb dX8_isPost_1 (by decide) ?_
  refine lv_aload_n hx hb dX8_isPost_2 rfl (lv_at hl 0 rfl) ?_
  refine va_get (D := (dC, dI)) (ci := 7) (v := .int (nI (n 1))) (C := RX8) (T := TX8) (N := 37) hx hb hts hinX8 hown hK hP 0 rfl rfl 1 (by decide) (hts (.fieldLink RX8 104 "FurPostsModel" "posts" "I") (by decide +kernel)) (fun _ h9 => h9) rfl dX8_isPost_3 ?_
  refine lv_iconst (v := 1) hx hb dX8_isPost_6 (by decide) ?_
  refine lv_isub hx hb dX8_isPost_7 ?_
  refine pu_call (va_runS (As := [.int a1, .int 0, .int ((nI (n 1)) - 1)]) (rest := []) ⟨hx, hb, hml, hown, hts⟩ (c_X8_in l a1 0 ((nI (n 1)) - 1)) (va_cwS 3 hts gX8_isPost_X8_in rfl rfl rfl (by decide +kernel) ⟨Nat.le_of_ble_eq_true rfl, Nat.le_of_ble_eq_true rfl⟩) pu_preS rfl rfl hl.1 rfl (lv_room (Nat.le_of_ble_eq_true rfl)) dX8_isPost_8 ⟨Nat.le_of_ble_eq_true rfl, Nat.le_of_ble_eq_true rfl⟩) ?_
  have hq1 : rM_isPost n F a1 = (sp_in a1 0 ((nI (n 1)) - 1)) := by exact rfl
  exact W.zret (v := (sp_in a1 0 ((nI (n 1)) - 1))) hx hb hr (sp_narrow _ _ _) (fun t ht hW => ⟨by rw [hq1], ht⟩) (fun q h => by cases h) dX8_isPost_11

set_option maxHeartbeats 8000000 in
set_option maxRecDepth 100000 in
theorem k_X8_isCanoe (l : Launch) (dC : Nat → ClassId) (dI : Nat → Nat → Nat) (h0 : Nat) (q n : Nat → Nat) (cI cZ : ClassId) (F : Nat → Nat → Int32) (hI : mi_ n F) (hN : nb_ n) (a1 : Int32) : Met l yX8_isCanoe wsX8_isCanoe ({ frames := 1, cells := 0, slots := 0, locals := 22 }) (va_Pc [.ref h0, .int a1] (pu_P (dC, dI) vwCl (mt_ cI cZ) (mw_ h0 q n (F 44 0) cI cZ F))) (pu_Q (.int (rM_isCanoe n F a1))) 0 0 pu_F := by
  refine Met.ofW (cc := cX8_isCanoe) (maxL := 2) (ret := (some .boolean)) (by decide) rfl ?_
  intro p e s m args below meth c s₁ B hml hv
  obtain ⟨rfl, hP, hK⟩ := hv
  have hx := B.exec
  have hb := B.bytes
  have hr := B.returns
  have hts := atoms_spec (ws := wsX8_isCanoe) B.pre
  have hown : s.vm.findClass RX8 = some m.cls := findClass_of_methodNamed B.named
  have hlocks := B.notSynchronized
  have hinX8 : ∀ w ∈ u_ws RX8 TX8 37, w ∈ wsX8_isCanoe := by decide +kernel
  have hl := lv_entry ([.ref h0, .int a1]) (n := 2) (Nat.le_of_ble_eq_true rfl)
  rw [lg_entry_eq]
  generalize (lg_sl ([.ref h0, .int a1]) ++ List.replicate (2 - (lg_sl ([.ref h0, .int a1])).length) Slot.unset).toArray = ls at hl ⊢
  have hl : lv_has ls 2 [(0, .ref h0), (1, .int a1)] := hl
  refine lv_iload_n hx hb dX8_isCanoe_0 rfl (lv_at hl 1 rfl) ?_
  refine lv_iconst (v := 0) hx hb dX8_isCanoe_1 (by decide) ?_
  refine lv_aload_n hx hb dX8_isCanoe_2 rfl (lv_at hl 0 rfl) ?_
  refine va_get (D := (dC, dI)) (ci := 7) (v := .int (nI (n 3))) (C := RX8) (T := TX8) (N := 37) hx hb hts hinX8 hown hK hP 0 rfl rfl 13 (by decide) (hts (.fieldLink RX8 112 "FurPostsModel" "canoes" "I") (by decide +kernel)) (fun _ h9 => h9) rfl dX8_isCanoe_3 ?_
  refine lv_iconst (v := 1) hx hb dX8_isCanoe_6 (by decide) ?_
  refine lv_isub hx hb dX8_isCanoe_7 ?_
  refine pu_call (va_runS (As := [.int a1, .int 0, .int ((nI (n 3)) - 1)]) (rest := []) ⟨hx, hb, hml, hown, hts⟩ (c_X8_in l a1 0 ((nI (n 3)) - 1)) (va_cwS 3 hts gX8_isCanoe_X8_in rfl rfl rfl (by decide +kernel) ⟨Nat.le_of_ble_eq_true rfl, Nat.le_of_ble_eq_true rfl⟩) pu_preS rfl rfl hl.1 rfl (lv_room (Nat.le_of_ble_eq_true rfl)) dX8_isCanoe_8 ⟨Nat.le_of_ble_eq_true rfl, Nat.le_of_ble_eq_true rfl⟩) ?_
  have hq1 : rM_isCanoe n F a1 = (sp_in a1 0 ((nI (n 3)) - 1)) := by exact rfl
  exact W.zret (v := (sp_in a1 0 ((nI (n 3)) - 1))) hx hb hr (sp_narrow _ _ _) (fun t ht hW => ⟨by rw [hq1], ht⟩) (fun q h => by cases h) dX8_isCanoe_11

set_option maxHeartbeats 8000000 in
set_option maxRecDepth 100000 in
theorem k_X8_between (l : Launch) (dC : Nat → ClassId) (dI : Nat → Nat → Nat) (h0 : Nat) (q n : Nat → Nat) (cI cZ : ClassId) (F : Nat → Nat → Int32) (hI : mi_ n F) (hN : nb_ n) (a1 : Int32) (a2 : Int32) : Met l yX8_between wsX8_between ({ frames := 0, cells := 0, slots := 0, locals := 0 }) (va_Pc [.ref h0, .int a1, .int a2] (pu_P (dC, dI) vwCl (mt_ cI cZ) (mw_ h0 q n (F 44 0) cI cZ F))) (pu_Q (.int (rM_between n F a1 a2))) 0 0 pu_F := by
  refine Met.ofW (cc := cX8_between) (maxL := 4) (ret := (some .int)) (by decide) rfl ?_
  intro p e s m args below meth c s₁ B hml hv
  obtain ⟨rfl, hP, hK⟩ := hv
  have hx := B.exec
  have hb := B.bytes
  have hr := B.returns
  have hts := atoms_spec (ws := wsX8_between) B.pre
  have hown : s.vm.findClass RX8 = some m.cls := findClass_of_methodNamed B.named
  have hlocks := B.notSynchronized
  have hinX8 : ∀ w ∈ u_ws RX8 TX8 37, w ∈ wsX8_between := by decide +kernel
  have hl := lv_entry ([.ref h0, .int a1, .int a2]) (n := 4) (Nat.le_of_ble_eq_true rfl)
  rw [lg_entry_eq]
  generalize (lg_sl ([.ref h0, .int a1, .int a2]) ++ List.replicate (4 - (lg_sl ([.ref h0, .int a1, .int a2])).length) Slot.unset).toArray = ls at hl ⊢
  have hl : lv_has ls 4 [(0, .ref h0), (1, .int a1), (2, .int a2)] := hl
  refine lv_iconst (v := 0) hx hb dX8_between_0 (by decide) ?_
  refine lv_istore_n (lv' := [(3, .int 0), (0, .ref h0), (1, .int a1), (2, .int a2)]) hx hb dX8_between_1 rfl hl (by decide) rfl (fun ls hl => ?_)
  have key2 : ∀ (k jL2 : Nat) (ls : Array Slot), jL2 + k = (n 2) → rM_between n F a1 a2 = (rM_between_L2 F a1 a2 k jL2) → lv_has ls 4 [(3, .int (nI jL2)), (0, .ref h0), (1, .int a1), (2, .int a2)] → 
      W p l e (headSpec wsX8_between ({ frames := 0, cells := 0, slots := 0, locals := 0 })).room s m [.ref h0, .int a1, .int a2].toArray below meth c s.heap [] 0 0 (MQ below (pu_Q (.int (rM_between n F a1 a2))) [.ref h0, .int a1, .int a2].toArray s 0 0 pu_F) (F0 m 2 ls []) := by
    intro k
    induction k with
    | zero =>
      intro jL2 ls hj hE2 hl
      have hj : jL2 = (n 2) := by omega
      subst jL2
      refine lv_iload_n hx hb dX8_between_2 rfl (lv_at hl 0 rfl) ?_
      refine lv_aload_n hx hb dX8_between_3 rfl (lv_at hl 1 rfl) ?_
      refine va_get (D := (dC, dI)) (ci := 7) (v := .int (nI (n 2))) (C := RX8) (T := TX8) (N := 37) hx hb hts hinX8 hown hK hP 0 rfl rfl 5 (by decide) (hts (.fieldLink RX8 115 "FurPostsModel" "ways" "I") (by decide +kernel)) (fun _ h9 => h9) rfl dX8_between_4 ?_
      refine lv_icmp_ge (tgt := 58) hx hb dX8_between_7 (by decide) (fun h_1 => ?_) (fun h_1 => absurd (lp_ge0 (B := (n 2)) rfl) h_1)
      refine lv_iconst (v := (-1)) hx hb dX8_between_58 (by decide) ?_
      have hq2 : rM_between n F a1 a2 = (-1) := by exact hE2
      exact W.iret (v := (-1)) hx hb hr (fun t ht hW => ⟨by rw [hq2], ht⟩) (fun q h => by cases h) dX8_between_59
    | succ k ih2 =>
      intro jL2 ls hj hE2 hl
      have hj2 : jL2 < (n 2) := by omega
      refine lv_iload_n hx hb dX8_between_2 rfl (lv_at hl 0 rfl) ?_
      refine lv_aload_n hx hb dX8_between_3 rfl (lv_at hl 1 rfl) ?_
      refine va_get (D := (dC, dI)) (ci := 7) (v := .int (nI (n 2))) (C := RX8) (T := TX8) (N := 37) hx hb hts hinX8 hown hK hP 0 rfl rfl 5 (by decide) (hts (.fieldLink RX8 115 "FurPostsModel" "ways" "I") (by decide +kernel)) (fun _ h9 => h9) rfl dX8_between_4 ?_
      refine lv_icmp_ge (tgt := 58) hx hb dX8_between_7 (by decide) (fun h_3 => absurd h_3 (lp_ge (B := (n 2)) (by omega) (by omega) rfl)) (fun h_3 => ?_)
      refine lv_aload_n hx hb dX8_between_10 rfl (lv_at hl 1 rfl) ?_
      refine va_get (D := (dC, dI)) (ci := 7) (v := .ref (q 6)) (C := RX8) (T := TX8) (N := 37) hx hb hts hinX8 hown hK hP 0 rfl rfl 6 (by decide) (hts (.fieldLink RX8 19 "FurPostsModel" "wayA" "[I") (by decide +kernel)) (fun _ h9 => h9) rfl dX8_between_11 ?_
      refine lv_iload_n hx hb dX8_between_14 rfl (lv_at hl 0 rfl) ?_
      refine va_iald hx hb hK hP 4 0 rfl rfl (i := (nI jL2)) (vp_in_nI (show jL2 < 12 by omega) (by decide)) dX8_between_15 ?_
      refine lv_topi (fun v4 (e4 : v4 = F 6 (nI jL2).toNatClampNeg) => ?_)
      rw [(nI_clamp (by omega))] at e4
      refine lv_iload_n hx hb dX8_between_16 rfl (lv_at hl 2 rfl) ?_
      refine lv_icmp_ne (tgt := 30) hx hb dX8_between_17 (by decide) (fun h_5 => ?_) (fun h_5 => ?_)
      · skip
        refine lv_aload_n hx hb dX8_between_30 rfl (lv_at hl 1 rfl) ?_
        refine va_get (D := (dC, dI)) (ci := 7) (v := .ref (q 6)) (C := RX8) (T := TX8) (N := 37) hx hb hts hinX8 hown hK hP 0 rfl rfl 6 (by decide) (hts (.fieldLink RX8 19 "FurPostsModel" "wayA" "[I") (by decide +kernel)) (fun _ h9 => h9) rfl dX8_between_31 ?_
        refine lv_iload_n hx hb dX8_between_34 rfl (lv_at hl 0 rfl) ?_
        refine va_iald hx hb hK hP 4 0 rfl rfl (i := (nI jL2)) (vp_in_nI (show jL2 < 12 by omega) (by decide)) dX8_between_35 ?_
        refine lv_topi (fun v6 (e6 : v6 = F 6 (nI jL2).toNatClampNeg) => ?_)
        rw [(nI_clamp (by omega))] at e6
        refine lv_iload_n hx hb dX8_between_36 rfl (lv_at hl 3 rfl) ?_
        refine lv_icmp_ne (tgt := 52) hx hb dX8_between_37 (by decide) (fun h_7 => ?_) (fun h_7 => ?_)
        · skip
          refine lv_iinc (v := (nI (jL2 + 1))) (lv' := [(3, .int (nI (jL2 + 1))), (0, .ref h0), (1, .int a1), (2, .int a2)]) hx hb dX8_between_52 hl (k := 0) rfl (show nI jL2 + 1 = nI (jL2 + 1) from nI_1 jL2) (by decide) rfl (fun ls hl => ?_)
          refine lv_goto (tgt := 2) hx hb dX8_between_55 (by decide) ?_
          exact ih2 (jL2 + 1) ls (by omega) (by subst e6 e4; exact hE2.trans ((if_neg h_5).trans (if_neg h_7))) (lv_sub hl [0, 1, 2, 3] rfl)
        · skip
          refine lv_aload_n hx hb dX8_between_40 rfl (lv_at hl 1 rfl) ?_
          refine va_get (D := (dC, dI)) (ci := 7) (v := .ref (q 7)) (C := RX8) (T := TX8) (N := 37) hx hb hts hinX8 hown hK hP 0 rfl rfl 7 (by decide) (hts (.fieldLink RX8 22 "FurPostsModel" "wayB" "[I") (by decide +kernel)) (fun _ h9 => h9) rfl dX8_between_41 ?_
          refine lv_iload_n hx hb dX8_between_44 rfl (lv_at hl 0 rfl) ?_
          refine va_iald hx hb hK hP 5 0 rfl rfl (i := (nI jL2)) (vp_in_nI (show jL2 < 12 by omega) (by decide)) dX8_between_45 ?_
          refine lv_topi (fun v8 (e8 : v8 = F 7 (nI jL2).toNatClampNeg) => ?_)
          rw [(nI_clamp (by omega))] at e8
          refine lv_iload_n hx hb dX8_between_46 rfl (lv_at hl 2 rfl) ?_
          refine lv_icmp_ne (tgt := 52) hx hb dX8_between_47 (by decide) (fun h_9 => ?_) (fun h_9 => ?_)
          · skip
            refine lv_iinc (v := (nI (jL2 + 1))) (lv' := [(3, .int (nI (jL2 + 1))), (0, .ref h0), (1, .int a1), (2, .int a2)]) hx hb dX8_between_52 hl (k := 0) rfl (show nI jL2 + 1 = nI (jL2 + 1) from nI_1 jL2) (by decide) rfl (fun ls hl => ?_)
            refine lv_goto (tgt := 2) hx hb dX8_between_55 (by decide) ?_
            exact ih2 (jL2 + 1) ls (by omega) (by subst e8 e6 e4; exact hE2.trans ((if_neg h_5).trans ((if_pos h_7).trans (if_neg h_9)))) (lv_sub hl [0, 1, 2, 3] rfl)
          · skip
            refine lv_iload_n hx hb dX8_between_50 rfl (lv_at hl 0 rfl) ?_
            have hq10 : rM_between n F a1 a2 = (nI jL2) := by subst e8 e6 e4; exact hE2.trans ((if_neg h_5).trans ((if_pos h_7).trans (if_pos h_9)))
            exact W.iret (v := (nI jL2)) hx hb hr (fun t ht hW => ⟨by rw [hq10], ht⟩) (fun q h => by cases h) dX8_between_51
      · skip
        refine lv_aload_n hx hb dX8_between_20 rfl (lv_at hl 1 rfl) ?_
        refine va_get (D := (dC, dI)) (ci := 7) (v := .ref (q 7)) (C := RX8) (T := TX8) (N := 37) hx hb hts hinX8 hown hK hP 0 rfl rfl 7 (by decide) (hts (.fieldLink RX8 22 "FurPostsModel" "wayB" "[I") (by decide +kernel)) (fun _ h9 => h9) rfl dX8_between_21 ?_
        refine lv_iload_n hx hb dX8_between_24 rfl (lv_at hl 0 rfl) ?_
        refine va_iald hx hb hK hP 5 0 rfl rfl (i := (nI jL2)) (vp_in_nI (show jL2 < 12 by omega) (by decide)) dX8_between_25 ?_
        refine lv_topi (fun v11 (e11 : v11 = F 7 (nI jL2).toNatClampNeg) => ?_)
        rw [(nI_clamp (by omega))] at e11
        refine lv_iload_n hx hb dX8_between_26 rfl (lv_at hl 3 rfl) ?_
        refine lv_icmp_eq (tgt := 50) hx hb dX8_between_27 (by decide) (fun h_12 => ?_) (fun h_12 => ?_)
        · skip
          refine lv_iload_n hx hb dX8_between_50 rfl (lv_at hl 0 rfl) ?_
          have hq13 : rM_between n F a1 a2 = (nI jL2) := by subst e11 e4; exact hE2.trans ((if_pos h_5).trans (if_pos h_12))
          exact W.iret (v := (nI jL2)) hx hb hr (fun t ht hW => ⟨by rw [hq13], ht⟩) (fun q h => by cases h) dX8_between_51
        · skip
          refine lv_aload_n hx hb dX8_between_30 rfl (lv_at hl 1 rfl) ?_
          refine va_get (D := (dC, dI)) (ci := 7) (v := .ref (q 6)) (C := RX8) (T := TX8) (N := 37) hx hb hts hinX8 hown hK hP 0 rfl rfl 6 (by decide) (hts (.fieldLink RX8 19 "FurPostsModel" "wayA" "[I") (by decide +kernel)) (fun _ h9 => h9) rfl dX8_between_31 ?_
          refine lv_iload_n hx hb dX8_between_34 rfl (lv_at hl 0 rfl) ?_
          refine va_iald hx hb hK hP 4 0 rfl rfl (i := (nI jL2)) (vp_in_nI (show jL2 < 12 by omega) (by decide)) dX8_between_35 ?_
          refine lv_topi (fun v14 (e14 : v14 = F 6 (nI jL2).toNatClampNeg) => ?_)
          rw [(nI_clamp (by omega))] at e14
          refine lv_iload_n hx hb dX8_between_36 rfl (lv_at hl 3 rfl) ?_
          refine lv_icmp_ne (tgt := 52) hx hb dX8_between_37 (by decide) (fun h_15 => ?_) (fun h_15 => ?_)
          · skip
            refine lv_iinc (v := (nI (jL2 + 1))) (lv' := [(3, .int (nI (jL2 + 1))), (0, .ref h0), (1, .int a1), (2, .int a2)]) hx hb dX8_between_52 hl (k := 0) rfl (show nI jL2 + 1 = nI (jL2 + 1) from nI_1 jL2) (by decide) rfl (fun ls hl => ?_)
            refine lv_goto (tgt := 2) hx hb dX8_between_55 (by decide) ?_
            exact ih2 (jL2 + 1) ls (by omega) (by subst e14 e11 e4; exact hE2.trans ((if_pos h_5).trans ((if_neg h_12).trans (if_neg h_15)))) (lv_sub hl [0, 1, 2, 3] rfl)
          · skip
            refine lv_aload_n hx hb dX8_between_40 rfl (lv_at hl 1 rfl) ?_
            refine va_get (D := (dC, dI)) (ci := 7) (v := .ref (q 7)) (C := RX8) (T := TX8) (N := 37) hx hb hts hinX8 hown hK hP 0 rfl rfl 7 (by decide) (hts (.fieldLink RX8 22 "FurPostsModel" "wayB" "[I") (by decide +kernel)) (fun _ h9 => h9) rfl dX8_between_41 ?_
            refine lv_iload_n hx hb dX8_between_44 rfl (lv_at hl 0 rfl) ?_
            refine va_iald hx hb hK hP 5 0 rfl rfl (i := (nI jL2)) (vp_in_nI (show jL2 < 12 by omega) (by decide)) dX8_between_45 ?_
            refine lv_topi (fun v16 (e16 : v16 = F 7 (nI jL2).toNatClampNeg) => ?_)
            rw [(nI_clamp (by omega))] at e16
            refine lv_iload_n hx hb dX8_between_46 rfl (lv_at hl 2 rfl) ?_
            refine lv_icmp_ne (tgt := 52) hx hb dX8_between_47 (by decide) (fun h_17 => ?_) (fun h_17 => ?_)
            · skip
              refine lv_iinc (v := (nI (jL2 + 1))) (lv' := [(3, .int (nI (jL2 + 1))), (0, .ref h0), (1, .int a1), (2, .int a2)]) hx hb dX8_between_52 hl (k := 0) rfl (show nI jL2 + 1 = nI (jL2 + 1) from nI_1 jL2) (by decide) rfl (fun ls hl => ?_)
              refine lv_goto (tgt := 2) hx hb dX8_between_55 (by decide) ?_
              exact ih2 (jL2 + 1) ls (by omega) (by subst e16 e14 e11 e4; exact hE2.trans ((if_pos h_5).trans ((if_neg h_12).trans ((if_pos h_15).trans (if_neg h_17))))) (lv_sub hl [0, 1, 2, 3] rfl)
            · skip
              refine lv_iload_n hx hb dX8_between_50 rfl (lv_at hl 0 rfl) ?_
              have hq18 : rM_between n F a1 a2 = (nI jL2) := by subst e16 e14 e11 e4; exact hE2.trans ((if_pos h_5).trans ((if_neg h_12).trans ((if_pos h_15).trans (if_pos h_17))))
              exact W.iret (v := (nI jL2)) hx hb hr (fun t ht hW => ⟨by rw [hq18], ht⟩) (fun q h => by cases h) dX8_between_51
  exact key2 (n 2) 0 ls (by omega) (by exact rfl) (lv_sub hl [0, 1, 2, 3] rfl)

set_option maxHeartbeats 8000000 in
set_option maxRecDepth 100000 in
theorem k_X8_isOpen (l : Launch) (dC : Nat → ClassId) (dI : Nat → Nat → Nat) (h0 : Nat) (q n : Nat → Nat) (cI cZ : ClassId) (F : Nat → Nat → Int32) (hI : mi_ n F) (hN : nb_ n) (a1 : Int32) (a2 : Int32) (hb0 : vp_in a1 12) : Met l yX8_isOpen wsX8_isOpen ({ frames := 1, cells := 0, slots := 0, locals := 22 }) (va_Pc [.ref h0, .int a1, .int a2] (pu_P (dC, dI) vwCl (mt_ cI cZ) (mw_ h0 q n (F 44 0) cI cZ F))) (pu_Q (.int (rM_isOpen n F a1 a2))) 0 0 pu_F := by
  refine Met.ofW (cc := cX8_isOpen) (maxL := 3) (ret := (some .boolean)) (by decide) rfl ?_
  intro p e s m args below meth c s₁ B hml hv
  obtain ⟨rfl, hP, hK⟩ := hv
  have hx := B.exec
  have hb := B.bytes
  have hr := B.returns
  have hts := atoms_spec (ws := wsX8_isOpen) B.pre
  have hown : s.vm.findClass RX8 = some m.cls := findClass_of_methodNamed B.named
  have hlocks := B.notSynchronized
  have hinX8 : ∀ w ∈ u_ws RX8 TX8 37, w ∈ wsX8_isOpen := by decide +kernel
  have hl := lv_entry ([.ref h0, .int a1, .int a2]) (n := 3) (Nat.le_of_ble_eq_true rfl)
  rw [lg_entry_eq]
  generalize (lg_sl ([.ref h0, .int a1, .int a2]) ++ List.replicate (3 - (lg_sl ([.ref h0, .int a1, .int a2])).length) Slot.unset).toArray = ls at hl ⊢
  have hl : lv_has ls 3 [(0, .ref h0), (1, .int a1), (2, .int a2)] := hl
  refine lv_iload_n hx hb dX8_isOpen_0 rfl (lv_at hl 2 rfl) ?_
  refine lv_sipush (v := 365) hx hb dX8_isOpen_1 (by decide) ?_
  refine lv_irem hx hb dX8_isOpen_4 (by decide) ?_
  refine lv_aload_n hx hb dX8_isOpen_5 rfl (lv_at hl 0 rfl) ?_
  refine va_get (D := (dC, dI)) (ci := 7) (v := .ref (q 9)) (C := RX8) (T := TX8) (N := 37) hx hb hts hinX8 hown hK hP 0 rfl rfl 9 (by decide) (hts (.fieldLink RX8 28 "FurPostsModel" "opens" "[I") (by decide +kernel)) (fun _ h9 => h9) rfl dX8_isOpen_6 ?_
  refine lv_iload_n hx hb dX8_isOpen_9 rfl (lv_at hl 1 rfl) ?_
  refine va_iald hx hb hK hP 7 0 rfl rfl (i := a1) hb0 dX8_isOpen_10 ?_
  refine lv_topi (fun v1 (e1 : v1 = F 9 a1.toNatClampNeg) => ?_)
  refine lv_aload_n hx hb dX8_isOpen_11 rfl (lv_at hl 0 rfl) ?_
  refine va_get (D := (dC, dI)) (ci := 7) (v := .ref (q 10)) (C := RX8) (T := TX8) (N := 37) hx hb hts hinX8 hown hK hP 0 rfl rfl 10 (by decide) (hts (.fieldLink RX8 31 "FurPostsModel" "shuts" "[I") (by decide +kernel)) (fun _ h9 => h9) rfl dX8_isOpen_12 ?_
  refine lv_iload_n hx hb dX8_isOpen_15 rfl (lv_at hl 1 rfl) ?_
  refine va_iald hx hb hK hP 8 0 rfl rfl (i := a1) hb0 dX8_isOpen_16 ?_
  refine lv_topi (fun v2 (e2 : v2 = F 10 a1.toNatClampNeg) => ?_)
  refine pu_call (va_runS (As := [.int (a2 - a2 / 365 * 365), .int v1, .int v2]) (rest := []) ⟨hx, hb, hml, hown, hts⟩ (c_X8_in l (a2 - a2 / 365 * 365) v1 v2) (va_cwS 3 hts gX8_isOpen_X8_in rfl rfl rfl (by decide +kernel) ⟨Nat.le_of_ble_eq_true rfl, Nat.le_of_ble_eq_true rfl⟩) pu_preS rfl rfl hl.1 rfl (lv_room (Nat.le_of_ble_eq_true rfl)) dX8_isOpen_17 ⟨Nat.le_of_ble_eq_true rfl, Nat.le_of_ble_eq_true rfl⟩) ?_
  have hq3 : rM_isOpen n F a1 a2 = (sp_in (a2 - a2 / 365 * 365) v1 v2) := by subst e2 e1; exact rfl
  exact W.zret (v := (sp_in (a2 - a2 / 365 * 365) v1 v2)) hx hb hr (sp_narrow _ _ _) (fun t ht hW => ⟨by rw [hq3], ht⟩) (fun q h => by cases h) dX8_isOpen_20

set_option maxHeartbeats 8000000 in
set_option maxRecDepth 100000 in
theorem k_X8_stored (l : Launch) (dC : Nat → ClassId) (dI : Nat → Nat → Nat) (h0 : Nat) (q n : Nat → Nat) (cI cZ : ClassId) (F : Nat → Nat → Int32) (hI : mi_ n F) (hN : nb_ n) (a1 : Int32) (a2 : Int32) (hb0 : vp_in a1 8) (hb1 : vp_in a2 6) : Met l yX8_stored wsX8_stored ({ frames := 0, cells := 0, slots := 0, locals := 0 }) (va_Pc [.ref h0, .int a1, .int a2] (pu_P (dC, dI) vwCl (mt_ cI cZ) (mw_ h0 q n (F 44 0) cI cZ F))) (pu_Q (.int (rM_stored n F a1 a2))) 0 0 pu_F := by
  refine Met.ofW (cc := cX8_stored) (maxL := 3) (ret := (some .int)) (by decide) rfl ?_
  intro p e s m args below meth c s₁ B hml hv
  obtain ⟨rfl, hP, hK⟩ := hv
  have hx := B.exec
  have hb := B.bytes
  have hr := B.returns
  have hts := atoms_spec (ws := wsX8_stored) B.pre
  have hown : s.vm.findClass RX8 = some m.cls := findClass_of_methodNamed B.named
  have hlocks := B.notSynchronized
  have hinX8 : ∀ w ∈ u_ws RX8 TX8 37, w ∈ wsX8_stored := by decide +kernel
  have hl := lv_entry ([.ref h0, .int a1, .int a2]) (n := 3) (Nat.le_of_ble_eq_true rfl)
  rw [lg_entry_eq]
  generalize (lg_sl ([.ref h0, .int a1, .int a2]) ++ List.replicate (3 - (lg_sl ([.ref h0, .int a1, .int a2])).length) Slot.unset).toArray = ls at hl ⊢
  have hl : lv_has ls 3 [(0, .ref h0), (1, .int a1), (2, .int a2)] := hl
  refine lv_aload_n hx hb dX8_stored_0 rfl (lv_at hl 0 rfl) ?_
  refine va_get (D := (dC, dI)) (ci := 7) (v := .ref (q 2)) (C := RX8) (T := TX8) (N := 37) hx hb hts hinX8 hown hK hP 0 rfl rfl 2 (by decide) (hts (.fieldLink RX8 9 "FurPostsModel" "store" "[I") (by decide +kernel)) (fun _ h9 => h9) rfl dX8_stored_1 ?_
  refine lv_bipush (v := 6) hx hb dX8_stored_4 (by decide) ?_
  refine lv_iload_n hx hb dX8_stored_6 rfl (lv_at hl 1 rfl) ?_
  refine lv_imul hx hb dX8_stored_7 ?_
  refine lv_iload_n hx hb dX8_stored_8 rfl (lv_at hl 2 rfl) ?_
  refine lv_iadd hx hb dX8_stored_9 ?_
  refine va_iald hx hb hK hP 1 0 rfl rfl (i := ((6 * a1) + a2)) (vp_lin (a := 8) (b := 6) (m := 6) hb0 hb1 rfl (by decide)) dX8_stored_10 ?_
  refine lv_topi (fun v1 (e1 : v1 = F 2 ((6 * a1) + a2).toNatClampNeg) => ?_)
  rw [(tn_lin (k := 6) (a := 8) (b := 6) (m := 6) hb0 hb1 rfl (by decide))] at e1
  have hq2 : rM_stored n F a1 a2 = v1 := by subst e1; exact rfl
  exact W.iret (v := v1) hx hb hr (fun t ht hW => ⟨by rw [hq2], ht⟩) (fun q h => by cases h) dX8_stored_11

set_option maxHeartbeats 8000000 in
set_option maxRecDepth 100000 in
theorem k_X8_isAway (l : Launch) (dC : Nat → ClassId) (dI : Nat → Nat → Nat) (h0 : Nat) (q n : Nat → Nat) (cI cZ : ClassId) (F : Nat → Nat → Int32) (hI : mi_ n F) (hN : nb_ n) (a1 : Int32) : Met l yX8_isAway wsX8_isAway ({ frames := 2, cells := 0, slots := 0, locals := 43 }) (va_Pc [.ref h0, .int a1] (pu_P (dC, dI) vwCl (mt_ cI cZ) (mw_ h0 q n (F 44 0) cI cZ F))) (pu_Q (.int (rM_isAway n F a1))) 0 0 pu_F := by
  refine Met.ofW (cc := cX8_isAway) (maxL := 2) (ret := (some .boolean)) (by decide) rfl ?_
  intro p e s m args below meth c s₁ B hml hv
  obtain ⟨rfl, hP, hK⟩ := hv
  have hx := B.exec
  have hb := B.bytes
  have hr := B.returns
  have hts := atoms_spec (ws := wsX8_isAway) B.pre
  have hown : s.vm.findClass RX8 = some m.cls := findClass_of_methodNamed B.named
  have hlocks := B.notSynchronized
  have hinX8 : ∀ w ∈ u_ws RX8 TX8 37, w ∈ wsX8_isAway := by decide +kernel
  have hl := lv_entry ([.ref h0, .int a1]) (n := 2) (Nat.le_of_ble_eq_true rfl)
  rw [lg_entry_eq]
  generalize (lg_sl ([.ref h0, .int a1]) ++ List.replicate (2 - (lg_sl ([.ref h0, .int a1])).length) Slot.unset).toArray = ls at hl ⊢
  have hl : lv_has ls 2 [(0, .ref h0), (1, .int a1)] := hl
  refine lv_aload_n hx hb dX8_isAway_0 rfl (lv_at hl 0 rfl) ?_
  refine lv_iload_n hx hb dX8_isAway_1 rfl (lv_at hl 1 rfl) ?_
  refine pu_call (va_runV (As := [.int a1]) (rest := []) ⟨hx, hb, hml, hown, hts⟩ (k_X8_isCanoe l dC dI h0 q n cI cZ F hI hN a1) (cwV 1 hts gX8_isAway_X8_isCanoe rfl rfl rfl (by decide +kernel) ⟨Nat.le_of_ble_eq_true rfl, Nat.le_of_ble_eq_true rfl⟩) (pu_pre hP hK (ci := 7) (q0 := 0) rfl rfl) rfl rfl hl.1 rfl (lv_room (Nat.le_of_ble_eq_true rfl)) dX8_isAway_2 ⟨Nat.le_of_ble_eq_true rfl, Nat.le_of_ble_eq_true rfl⟩) ?_
  rw [show rM_isCanoe n F a1 = (sp_in a1 0 ((nI (n 3)) - 1)) from rfl]
  refine lv_if_eq (tgt := 21) hx hb dX8_isAway_5 (by decide) (fun h_1 => ?_) (fun h_1 => ?_)
  · skip
    refine lv_iconst (v := 0) hx hb dX8_isAway_21 (by decide) ?_
    have hq2 : rM_isAway n F a1 = 0 := by exact (if_pos h_1)
    exact W.zret (v := 0) hx hb hr rfl (fun t ht hW => ⟨by rw [hq2], ht⟩) (fun q h => by cases h) dX8_isAway_22
  · skip
    refine lv_aload_n hx hb dX8_isAway_8 rfl (lv_at hl 0 rfl) ?_
    refine va_get (D := (dC, dI)) (ci := 7) (v := .ref (q 18)) (C := RX8) (T := TX8) (N := 37) hx hb hts hinX8 hown hK hP 0 rfl rfl 18 (by decide) (hts (.fieldLink RX8 52 "FurPostsModel" "state" "[I") (by decide +kernel)) (fun _ h9 => h9) rfl dX8_isAway_9 ?_
    refine lv_iload_n hx hb dX8_isAway_12 rfl (lv_at hl 1 rfl) ?_
    refine va_iald hx hb hK hP 15 0 rfl rfl (i := a1) (sp_vpn h_1 (show n 3 ≤ 120 by omega) (by decide)) dX8_isAway_13 ?_
    refine lv_topi (fun v3 (e3 : v3 = F 18 a1.toNatClampNeg) => ?_)
    refine lv_if_ne (tgt := 21) hx hb dX8_isAway_14 (by decide) (fun h_4 => ?_) (fun h_4 => ?_)
    · skip
      refine lv_iconst (v := 0) hx hb dX8_isAway_21 (by decide) ?_
      have hq5 : rM_isAway n F a1 = 0 := by subst e3; exact (if_neg h_1).trans (if_neg h_4)
      exact W.zret (v := 0) hx hb hr rfl (fun t ht hW => ⟨by rw [hq5], ht⟩) (fun q h => by cases h) dX8_isAway_22
    · skip
      refine lv_iconst (v := 1) hx hb dX8_isAway_17 (by decide) ?_
      refine lv_goto (tgt := 22) hx hb dX8_isAway_18 (by decide) ?_
      have hq6 : rM_isAway n F a1 = 1 := by subst e3; exact (if_neg h_1).trans (if_pos h_4)
      exact W.zret (v := 1) hx hb hr rfl (fun t ht hW => ⟨by rw [hq6], ht⟩) (fun q h => by cases h) dX8_isAway_22

set_option maxHeartbeats 8000000 in
set_option maxRecDepth 100000 in
theorem k_X8_isDeal (l : Launch) (dC : Nat → ClassId) (dI : Nat → Nat → Nat) (h0 : Nat) (q n : Nat → Nat) (cI cZ : ClassId) (F : Nat → Nat → Int32) (hI : mi_ n F) (hN : nb_ n) (a1 : Int32) (a2 : Int32) (a3 : Int32) (a4 : Int32) : Met l yX8_isDeal wsX8_isDeal ({ frames := 2, cells := 0, slots := 0, locals := 43 }) (va_Pc [.ref h0, .int a1, .int a2, .int a3, .int a4] (pu_P (dC, dI) vwCl (mt_ cI cZ) (mw_ h0 q n (F 44 0) cI cZ F))) (pu_Q (.int (rM_isDeal n F a1 a2 a3 a4))) 0 0 pu_F := by
  refine Met.ofW (cc := cX8_isDeal) (maxL := 5) (ret := (some .boolean)) (by decide) rfl ?_
  intro p e s m args below meth c s₁ B hml hv
  obtain ⟨rfl, hP, hK⟩ := hv
  have hx := B.exec
  have hb := B.bytes
  have hr := B.returns
  have hts := atoms_spec (ws := wsX8_isDeal) B.pre
  have hown : s.vm.findClass RX8 = some m.cls := findClass_of_methodNamed B.named
  have hlocks := B.notSynchronized
  have hl := lv_entry ([.ref h0, .int a1, .int a2, .int a3, .int a4]) (n := 5) (Nat.le_of_ble_eq_true rfl)
  rw [lg_entry_eq]
  generalize (lg_sl ([.ref h0, .int a1, .int a2, .int a3, .int a4]) ++ List.replicate (5 - (lg_sl ([.ref h0, .int a1, .int a2, .int a3, .int a4])).length) Slot.unset).toArray = ls at hl ⊢
  have hl : lv_has ls 5 [(0, .ref h0), (1, .int a1), (2, .int a2), (3, .int a3), (4, .int a4)] := hl
  refine lv_aload_n hx hb dX8_isDeal_0 rfl (lv_at hl 0 rfl) ?_
  refine lv_iload_n hx hb dX8_isDeal_1 rfl (lv_at hl 1 rfl) ?_
  refine pu_call (va_runV (As := [.int a1]) (rest := []) ⟨hx, hb, hml, hown, hts⟩ (k_X8_isPost l dC dI h0 q n cI cZ F hI hN a1) (cwV 1 hts gX8_isDeal_X8_isPost rfl rfl rfl (by decide +kernel) ⟨Nat.le_of_ble_eq_true rfl, Nat.le_of_ble_eq_true rfl⟩) (pu_pre hP hK (ci := 7) (q0 := 0) rfl rfl) rfl rfl hl.1 rfl (lv_room (Nat.le_of_ble_eq_true rfl)) dX8_isDeal_2 ⟨Nat.le_of_ble_eq_true rfl, Nat.le_of_ble_eq_true rfl⟩) ?_
  rw [show rM_isPost n F a1 = (sp_in a1 0 ((nI (n 1)) - 1)) from rfl]
  refine lv_if_eq (tgt := 41) hx hb dX8_isDeal_5 (by decide) (fun h_1 => ?_) (fun h_1 => ?_)
  · skip
    refine lv_iconst (v := 0) hx hb dX8_isDeal_41 (by decide) ?_
    have hq2 : rM_isDeal n F a1 a2 a3 a4 = 0 := by exact (if_pos h_1)
    exact W.zret (v := 0) hx hb hr rfl (fun t ht hW => ⟨by rw [hq2], ht⟩) (fun q h => by cases h) dX8_isDeal_42
  · skip
    refine lv_iload_n hx hb dX8_isDeal_8 rfl (lv_at hl 2 rfl) ?_
    refine lv_iconst (v := 0) hx hb dX8_isDeal_9 (by decide) ?_
    refine lv_bipush (v := 11) hx hb dX8_isDeal_10 (by decide) ?_
    refine pu_call (va_runS (As := [.int a2, .int 0, .int 11]) (rest := []) ⟨hx, hb, hml, hown, hts⟩ (c_X8_in l a2 0 11) (va_cwS 3 hts gX8_isDeal_X8_in rfl rfl rfl (by decide +kernel) ⟨Nat.le_of_ble_eq_true rfl, Nat.le_of_ble_eq_true rfl⟩) pu_preS rfl rfl hl.1 rfl (lv_room (Nat.le_of_ble_eq_true rfl)) dX8_isDeal_12 ⟨Nat.le_of_ble_eq_true rfl, Nat.le_of_ble_eq_true rfl⟩) ?_
    refine lv_if_eq (tgt := 41) hx hb dX8_isDeal_15 (by decide) (fun h_3 => ?_) (fun h_3 => ?_)
    · skip
      refine lv_iconst (v := 0) hx hb dX8_isDeal_41 (by decide) ?_
      have hq4 : rM_isDeal n F a1 a2 a3 a4 = 0 := by exact (if_neg h_1).trans (if_pos h_3)
      exact W.zret (v := 0) hx hb hr rfl (fun t ht hW => ⟨by rw [hq4], ht⟩) (fun q h => by cases h) dX8_isDeal_42
    · skip
      refine lv_iload_n hx hb dX8_isDeal_18 rfl (lv_at hl 3 rfl) ?_
      refine pu_call (va_runS (As := [.int a3]) (rest := []) ⟨hx, hb, hml, hown, hts⟩ (c_X8_isWare l a3) (va_cwS 1 hts gX8_isDeal_X8_isWare rfl rfl rfl (by decide +kernel) ⟨Nat.le_of_ble_eq_true rfl, Nat.le_of_ble_eq_true rfl⟩) pu_preS rfl rfl hl.1 rfl (lv_room (Nat.le_of_ble_eq_true rfl)) dX8_isDeal_19 ⟨Nat.le_of_ble_eq_true rfl, Nat.le_of_ble_eq_true rfl⟩) ?_
      refine lv_if_eq (tgt := 41) hx hb dX8_isDeal_22 (by decide) (fun h_5 => ?_) (fun h_5 => ?_)
      · skip
        refine lv_iconst (v := 0) hx hb dX8_isDeal_41 (by decide) ?_
        have hq6 : rM_isDeal n F a1 a2 a3 a4 = 0 := by exact (if_neg h_1).trans ((if_neg h_3).trans (if_pos h_5))
        exact W.zret (v := 0) hx hb hr rfl (fun t ht hW => ⟨by rw [hq6], ht⟩) (fun q h => by cases h) dX8_isDeal_42
      · skip
        refine lv_iload hx hb dX8_isDeal_25 (lv_at hl 4 rfl) ?_
        refine lv_iconst (v := 1) hx hb dX8_isDeal_27 (by decide) ?_
        refine lv_sipush (v := 1000) hx hb dX8_isDeal_28 (by decide) ?_
        refine pu_call (va_runS (As := [.int a4, .int 1, .int 1000]) (rest := []) ⟨hx, hb, hml, hown, hts⟩ (c_X8_in l a4 1 1000) (va_cwS 3 hts gX8_isDeal_X8_in rfl rfl rfl (by decide +kernel) ⟨Nat.le_of_ble_eq_true rfl, Nat.le_of_ble_eq_true rfl⟩) pu_preS rfl rfl hl.1 rfl (lv_room (Nat.le_of_ble_eq_true rfl)) dX8_isDeal_31 ⟨Nat.le_of_ble_eq_true rfl, Nat.le_of_ble_eq_true rfl⟩) ?_
        refine lv_if_eq (tgt := 41) hx hb dX8_isDeal_34 (by decide) (fun h_7 => ?_) (fun h_7 => ?_)
        · skip
          refine lv_iconst (v := 0) hx hb dX8_isDeal_41 (by decide) ?_
          have hq8 : rM_isDeal n F a1 a2 a3 a4 = 0 := by exact (if_neg h_1).trans ((if_neg h_3).trans ((if_neg h_5).trans (if_pos h_7)))
          exact W.zret (v := 0) hx hb hr rfl (fun t ht hW => ⟨by rw [hq8], ht⟩) (fun q h => by cases h) dX8_isDeal_42
        · skip
          refine lv_iconst (v := 1) hx hb dX8_isDeal_37 (by decide) ?_
          refine lv_goto (tgt := 42) hx hb dX8_isDeal_38 (by decide) ?_
          have hq9 : rM_isDeal n F a1 a2 a3 a4 = 1 := by exact (if_neg h_1).trans ((if_neg h_3).trans ((if_neg h_5).trans (if_neg h_7)))
          exact W.zret (v := 1) hx hb hr rfl (fun t ht hW => ⟨by rw [hq9], ht⟩) (fun q h => by cases h) dX8_isDeal_42

set_option maxHeartbeats 8000000 in
set_option maxRecDepth 100000 in
theorem k_X8_canWrite (l : Launch) (dC : Nat → ClassId) (dI : Nat → Nat → Nat) (h0 : Nat) (q n : Nat → Nat) (cI cZ : ClassId) (F : Nat → Nat → Int32) (hI : mi_ n F) (hN : nb_ n) (a1 : Int32) (a2 : Int32) : Met l yX8_canWrite wsX8_canWrite ({ frames := 2, cells := 0, slots := 0, locals := 43 }) (va_Pc [.ref h0, .int a1, .int a2] (pu_P (dC, dI) vwCl (mt_ cI cZ) (mw_ h0 q n (F 44 0) cI cZ F))) (pu_Q (.int (rM_canWrite n F a1 a2))) 0 0 pu_F := by
  refine Met.ofW (cc := cX8_canWrite) (maxL := 3) (ret := (some .boolean)) (by decide) rfl ?_
  intro p e s m args below meth c s₁ B hml hv
  obtain ⟨rfl, hP, hK⟩ := hv
  have hx := B.exec
  have hb := B.bytes
  have hr := B.returns
  have hts := atoms_spec (ws := wsX8_canWrite) B.pre
  have hown : s.vm.findClass RX8 = some m.cls := findClass_of_methodNamed B.named
  have hlocks := B.notSynchronized
  have hinX8 : ∀ w ∈ u_ws RX8 TX8 37, w ∈ wsX8_canWrite := by decide +kernel
  have hl := lv_entry ([.ref h0, .int a1, .int a2]) (n := 3) (Nat.le_of_ble_eq_true rfl)
  rw [lg_entry_eq]
  generalize (lg_sl ([.ref h0, .int a1, .int a2]) ++ List.replicate (3 - (lg_sl ([.ref h0, .int a1, .int a2])).length) Slot.unset).toArray = ls at hl ⊢
  have hl : lv_has ls 3 [(0, .ref h0), (1, .int a1), (2, .int a2)] := hl
  refine lv_aload_n hx hb dX8_canWrite_0 rfl (lv_at hl 0 rfl) ?_
  refine lv_iload_n hx hb dX8_canWrite_1 rfl (lv_at hl 1 rfl) ?_
  refine pu_call (va_runV (As := [.int a1]) (rest := []) ⟨hx, hb, hml, hown, hts⟩ (k_X8_isPost l dC dI h0 q n cI cZ F hI hN a1) (cwV 1 hts gX8_canWrite_X8_isPost rfl rfl rfl (by decide +kernel) ⟨Nat.le_of_ble_eq_true rfl, Nat.le_of_ble_eq_true rfl⟩) (pu_pre hP hK (ci := 7) (q0 := 0) rfl rfl) rfl rfl hl.1 rfl (lv_room (Nat.le_of_ble_eq_true rfl)) dX8_canWrite_2 ⟨Nat.le_of_ble_eq_true rfl, Nat.le_of_ble_eq_true rfl⟩) ?_
  rw [show rM_isPost n F a1 = (sp_in a1 0 ((nI (n 1)) - 1)) from rfl]
  refine lv_if_eq (tgt := 35) hx hb dX8_canWrite_5 (by decide) (fun h_1 => ?_) (fun h_1 => ?_)
  · skip
    refine lv_iconst (v := 0) hx hb dX8_canWrite_35 (by decide) ?_
    have hq2 : rM_canWrite n F a1 a2 = 0 := by exact (if_pos h_1)
    exact W.zret (v := 0) hx hb hr rfl (fun t ht hW => ⟨by rw [hq2], ht⟩) (fun q h => by cases h) dX8_canWrite_36
  · skip
    refine lv_aload_n hx hb dX8_canWrite_8 rfl (lv_at hl 0 rfl) ?_
    refine lv_iload_n hx hb dX8_canWrite_9 rfl (lv_at hl 2 rfl) ?_
    refine pu_call (va_runV (As := [.int a2]) (rest := []) ⟨hx, hb, hml, hown, hts⟩ (k_X8_isPost l dC dI h0 q n cI cZ F hI hN a2) (cwV 1 hts gX8_canWrite_X8_isPost rfl rfl rfl (by decide +kernel) ⟨Nat.le_of_ble_eq_true rfl, Nat.le_of_ble_eq_true rfl⟩) (pu_pre hP hK (ci := 7) (q0 := 0) rfl rfl) rfl rfl hl.1 rfl (lv_room (Nat.le_of_ble_eq_true rfl)) dX8_canWrite_10 ⟨Nat.le_of_ble_eq_true rfl, Nat.le_of_ble_eq_true rfl⟩) ?_
    rw [show rM_isPost n F a2 = (sp_in a2 0 ((nI (n 1)) - 1)) from rfl]
    refine lv_if_eq (tgt := 35) hx hb dX8_canWrite_13 (by decide) (fun h_3 => ?_) (fun h_3 => ?_)
    · skip
      refine lv_iconst (v := 0) hx hb dX8_canWrite_35 (by decide) ?_
      have hq4 : rM_canWrite n F a1 a2 = 0 := by exact (if_neg h_1).trans (if_pos h_3)
      exact W.zret (v := 0) hx hb hr rfl (fun t ht hW => ⟨by rw [hq4], ht⟩) (fun q h => by cases h) dX8_canWrite_36
    · skip
      refine lv_iload_n hx hb dX8_canWrite_16 rfl (lv_at hl 1 rfl) ?_
      refine lv_iload_n hx hb dX8_canWrite_17 rfl (lv_at hl 2 rfl) ?_
      refine lv_icmp_eq (tgt := 35) hx hb dX8_canWrite_18 (by decide) (fun h_5 => ?_) (fun h_5 => ?_)
      · skip
        refine lv_iconst (v := 0) hx hb dX8_canWrite_35 (by decide) ?_
        have hq6 : rM_canWrite n F a1 a2 = 0 := by exact (if_neg h_1).trans ((if_neg h_3).trans (if_pos h_5))
        exact W.zret (v := 0) hx hb hr rfl (fun t ht hW => ⟨by rw [hq6], ht⟩) (fun q h => by cases h) dX8_canWrite_36
      · skip
        refine lv_aload_n hx hb dX8_canWrite_21 rfl (lv_at hl 0 rfl) ?_
        refine va_get (D := (dC, dI)) (ci := 7) (v := .int (nI (n 4))) (C := RX8) (T := TX8) (N := 37) hx hb hts hinX8 hown hK hP 0 rfl rfl 25 (by decide) (hts (.fieldLink RX8 144 "FurPostsModel" "letters" "I") (by decide +kernel)) (fun _ h9 => h9) rfl dX8_canWrite_22 ?_
        refine lv_sipush (v := 300) hx hb dX8_canWrite_25 (by decide) ?_
        refine lv_icmp_ge (tgt := 35) hx hb dX8_canWrite_28 (by decide) (fun h_7 => ?_) (fun h_7 => ?_)
        · skip
          refine lv_iconst (v := 0) hx hb dX8_canWrite_35 (by decide) ?_
          have hq8 : rM_canWrite n F a1 a2 = 0 := by exact (if_neg h_1).trans ((if_neg h_3).trans ((if_neg h_5).trans (if_pos h_7)))
          exact W.zret (v := 0) hx hb hr rfl (fun t ht hW => ⟨by rw [hq8], ht⟩) (fun q h => by cases h) dX8_canWrite_36
        · skip
          refine lv_iconst (v := 1) hx hb dX8_canWrite_31 (by decide) ?_
          refine lv_goto (tgt := 36) hx hb dX8_canWrite_32 (by decide) ?_
          have hq9 : rM_canWrite n F a1 a2 = 1 := by exact (if_neg h_1).trans ((if_neg h_3).trans ((if_neg h_5).trans (if_neg h_7)))
          exact W.zret (v := 1) hx hb hr rfl (fun t ht hW => ⟨by rw [hq9], ht⟩) (fun q h => by cases h) dX8_canWrite_36

set_option maxHeartbeats 8000000 in
set_option maxRecDepth 100000 in
theorem k_X8_owes (l : Launch) (dC : Nat → ClassId) (dI : Nat → Nat → Nat) (h0 : Nat) (q n : Nat → Nat) (cI cZ : ClassId) (F : Nat → Nat → Int32) (hI : mi_ n F) (hN : nb_ n) (a1 : Int32) (a2 : Int32) : Met l yX8_owes wsX8_owes ({ frames := 2, cells := 0, slots := 0, locals := 43 }) (va_Pc [.ref h0, .int a1, .int a2] (pu_P (dC, dI) vwCl (mt_ cI cZ) (mw_ h0 q n (F 44 0) cI cZ F))) (pu_Q (.int (rM_owes n F a1 a2))) 0 0 pu_F := by
  refine Met.ofW (cc := cX8_owes) (maxL := 3) (ret := (some .int)) (by decide) rfl ?_
  intro p e s m args below meth c s₁ B hml hv
  obtain ⟨rfl, hP, hK⟩ := hv
  have hx := B.exec
  have hb := B.bytes
  have hr := B.returns
  have hts := atoms_spec (ws := wsX8_owes) B.pre
  have hown : s.vm.findClass RX8 = some m.cls := findClass_of_methodNamed B.named
  have hlocks := B.notSynchronized
  have hinX8 : ∀ w ∈ u_ws RX8 TX8 37, w ∈ wsX8_owes := by decide +kernel
  have hl := lv_entry ([.ref h0, .int a1, .int a2]) (n := 3) (Nat.le_of_ble_eq_true rfl)
  rw [lg_entry_eq]
  generalize (lg_sl ([.ref h0, .int a1, .int a2]) ++ List.replicate (3 - (lg_sl ([.ref h0, .int a1, .int a2])).length) Slot.unset).toArray = ls at hl ⊢
  have hl : lv_has ls 3 [(0, .ref h0), (1, .int a1), (2, .int a2)] := hl
  refine lv_aload_n hx hb dX8_owes_0 rfl (lv_at hl 0 rfl) ?_
  refine lv_iload_n hx hb dX8_owes_1 rfl (lv_at hl 1 rfl) ?_
  refine pu_call (va_runV (As := [.int a1]) (rest := []) ⟨hx, hb, hml, hown, hts⟩ (k_X8_isPost l dC dI h0 q n cI cZ F hI hN a1) (cwV 1 hts gX8_owes_X8_isPost rfl rfl rfl (by decide +kernel) ⟨Nat.le_of_ble_eq_true rfl, Nat.le_of_ble_eq_true rfl⟩) (pu_pre hP hK (ci := 7) (q0 := 0) rfl rfl) rfl rfl hl.1 rfl (lv_room (Nat.le_of_ble_eq_true rfl)) dX8_owes_2 ⟨Nat.le_of_ble_eq_true rfl, Nat.le_of_ble_eq_true rfl⟩) ?_
  rw [show rM_isPost n F a1 = (sp_in a1 0 ((nI (n 1)) - 1)) from rfl]
  refine lv_if_eq (tgt := 32) hx hb dX8_owes_5 (by decide) (fun h_1 => ?_) (fun h_1 => ?_)
  · skip
    refine lv_iconst (v := 0) hx hb dX8_owes_32 (by decide) ?_
    have hq2 : rM_owes n F a1 a2 = 0 := by exact (if_pos h_1)
    exact W.iret (v := 0) hx hb hr (fun t ht hW => ⟨by rw [hq2], ht⟩) (fun q h => by cases h) dX8_owes_33
  · skip
    refine lv_iload_n hx hb dX8_owes_8 rfl (lv_at hl 2 rfl) ?_
    refine lv_iconst (v := 0) hx hb dX8_owes_9 (by decide) ?_
    refine lv_bipush (v := 11) hx hb dX8_owes_10 (by decide) ?_
    refine pu_call (va_runS (As := [.int a2, .int 0, .int 11]) (rest := []) ⟨hx, hb, hml, hown, hts⟩ (c_X8_in l a2 0 11) (va_cwS 3 hts gX8_owes_X8_in rfl rfl rfl (by decide +kernel) ⟨Nat.le_of_ble_eq_true rfl, Nat.le_of_ble_eq_true rfl⟩) pu_preS rfl rfl hl.1 rfl (lv_room (Nat.le_of_ble_eq_true rfl)) dX8_owes_12 ⟨Nat.le_of_ble_eq_true rfl, Nat.le_of_ble_eq_true rfl⟩) ?_
    refine lv_if_eq (tgt := 32) hx hb dX8_owes_15 (by decide) (fun h_3 => ?_) (fun h_3 => ?_)
    · skip
      refine lv_iconst (v := 0) hx hb dX8_owes_32 (by decide) ?_
      have hq4 : rM_owes n F a1 a2 = 0 := by exact (if_neg h_1).trans (if_pos h_3)
      exact W.iret (v := 0) hx hb hr (fun t ht hW => ⟨by rw [hq4], ht⟩) (fun q h => by cases h) dX8_owes_33
    · skip
      refine lv_aload_n hx hb dX8_owes_18 rfl (lv_at hl 0 rfl) ?_
      refine va_get (D := (dC, dI)) (ci := 7) (v := .ref (q 4)) (C := RX8) (T := TX8) (N := 37) hx hb hts hinX8 hown hK hP 0 rfl rfl 4 (by decide) (hts (.fieldLink RX8 16 "FurPostsModel" "owes" "[I") (by decide +kernel)) (fun _ h9 => h9) rfl dX8_owes_19 ?_
      refine lv_bipush (v := 12) hx hb dX8_owes_22 (by decide) ?_
      refine lv_iload_n hx hb dX8_owes_24 rfl (lv_at hl 1 rfl) ?_
      refine lv_imul hx hb dX8_owes_25 ?_
      refine lv_iload_n hx hb dX8_owes_26 rfl (lv_at hl 2 rfl) ?_
      refine lv_iadd hx hb dX8_owes_27 ?_
      refine va_iald hx hb hK hP 3 0 rfl rfl (i := ((12 * a1) + a2)) (vp_lin (a := 8) (b := 12) (m := 12) (sp_vpn h_1 (show n 1 ≤ 8 by omega) (by decide)) (sp_vp h_3 rfl) rfl (by decide)) dX8_owes_28 ?_
      refine lv_topi (fun v5 (e5 : v5 = F 4 ((12 * a1) + a2).toNatClampNeg) => ?_)
      rw [(tn_lin (k := 12) (a := 8) (b := 12) (m := 12) (sp_vpn h_1 (show n 1 ≤ 8 by omega) (by decide)) (sp_vp h_3 rfl) rfl (by decide))] at e5
      refine lv_goto (tgt := 33) hx hb dX8_owes_29 (by decide) ?_
      have hq6 : rM_owes n F a1 a2 = v5 := by subst e5; exact (if_neg h_1).trans (if_neg h_3)
      exact W.iret (v := v5) hx hb hr (fun t ht hW => ⟨by rw [hq6], ht⟩) (fun q h => by cases h) dX8_owes_33

set_option maxHeartbeats 8000000 in
set_option maxRecDepth 100000 in
theorem k_X8_price (l : Launch) (dC : Nat → ClassId) (dI : Nat → Nat → Nat) (h0 : Nat) (q n : Nat → Nat) (cI cZ : ClassId) (F : Nat → Nat → Int32) (hI : mi_ n F) (hN : nb_ n) (a1 : Int32) (a2 : Int32) : Met l yX8_price wsX8_price ({ frames := 2, cells := 0, slots := 0, locals := 43 }) (va_Pc [.ref h0, .int a1, .int a2] (pu_P (dC, dI) vwCl (mt_ cI cZ) (mw_ h0 q n (F 44 0) cI cZ F))) (pu_Q (.int (rM_price n F a1 a2))) 0 0 pu_F := by
  refine Met.ofW (cc := cX8_price) (maxL := 3) (ret := (some .int)) (by decide) rfl ?_
  intro p e s m args below meth c s₁ B hml hv
  obtain ⟨rfl, hP, hK⟩ := hv
  have hx := B.exec
  have hb := B.bytes
  have hr := B.returns
  have hts := atoms_spec (ws := wsX8_price) B.pre
  have hown : s.vm.findClass RX8 = some m.cls := findClass_of_methodNamed B.named
  have hlocks := B.notSynchronized
  have hinX8 : ∀ w ∈ u_ws RX8 TX8 37, w ∈ wsX8_price := by decide +kernel
  have hl := lv_entry ([.ref h0, .int a1, .int a2]) (n := 3) (Nat.le_of_ble_eq_true rfl)
  rw [lg_entry_eq]
  generalize (lg_sl ([.ref h0, .int a1, .int a2]) ++ List.replicate (3 - (lg_sl ([.ref h0, .int a1, .int a2])).length) Slot.unset).toArray = ls at hl ⊢
  have hl : lv_has ls 3 [(0, .ref h0), (1, .int a1), (2, .int a2)] := hl
  refine lv_aload_n hx hb dX8_price_0 rfl (lv_at hl 0 rfl) ?_
  refine lv_iload_n hx hb dX8_price_1 rfl (lv_at hl 1 rfl) ?_
  refine pu_call (va_runV (As := [.int a1]) (rest := []) ⟨hx, hb, hml, hown, hts⟩ (k_X8_isPost l dC dI h0 q n cI cZ F hI hN a1) (cwV 1 hts gX8_price_X8_isPost rfl rfl rfl (by decide +kernel) ⟨Nat.le_of_ble_eq_true rfl, Nat.le_of_ble_eq_true rfl⟩) (pu_pre hP hK (ci := 7) (q0 := 0) rfl rfl) rfl rfl hl.1 rfl (lv_room (Nat.le_of_ble_eq_true rfl)) dX8_price_2 ⟨Nat.le_of_ble_eq_true rfl, Nat.le_of_ble_eq_true rfl⟩) ?_
  rw [show rM_isPost n F a1 = (sp_in a1 0 ((nI (n 1)) - 1)) from rfl]
  refine lv_if_eq (tgt := 29) hx hb dX8_price_5 (by decide) (fun h_1 => ?_) (fun h_1 => ?_)
  · skip
    refine lv_iconst (v := (-1)) hx hb dX8_price_29 (by decide) ?_
    have hq2 : rM_price n F a1 a2 = (-1) := by exact (if_pos h_1)
    exact W.iret (v := (-1)) hx hb hr (fun t ht hW => ⟨by rw [hq2], ht⟩) (fun q h => by cases h) dX8_price_30
  · skip
    refine lv_iload_n hx hb dX8_price_8 rfl (lv_at hl 2 rfl) ?_
    refine pu_call (va_runS (As := [.int a2]) (rest := []) ⟨hx, hb, hml, hown, hts⟩ (c_X8_isWare l a2) (va_cwS 1 hts gX8_price_X8_isWare rfl rfl rfl (by decide +kernel) ⟨Nat.le_of_ble_eq_true rfl, Nat.le_of_ble_eq_true rfl⟩) pu_preS rfl rfl hl.1 rfl (lv_room (Nat.le_of_ble_eq_true rfl)) dX8_price_9 ⟨Nat.le_of_ble_eq_true rfl, Nat.le_of_ble_eq_true rfl⟩) ?_
    refine lv_if_eq (tgt := 29) hx hb dX8_price_12 (by decide) (fun h_3 => ?_) (fun h_3 => ?_)
    · skip
      refine lv_iconst (v := (-1)) hx hb dX8_price_29 (by decide) ?_
      have hq4 : rM_price n F a1 a2 = (-1) := by exact (if_neg h_1).trans (if_pos h_3)
      exact W.iret (v := (-1)) hx hb hr (fun t ht hW => ⟨by rw [hq4], ht⟩) (fun q h => by cases h) dX8_price_30
    · skip
      refine lv_aload_n hx hb dX8_price_15 rfl (lv_at hl 0 rfl) ?_
      refine va_get (D := (dC, dI)) (ci := 7) (v := .ref (q 3)) (C := RX8) (T := TX8) (N := 37) hx hb hts hinX8 hown hK hP 0 rfl rfl 3 (by decide) (hts (.fieldLink RX8 13 "FurPostsModel" "price" "[I") (by decide +kernel)) (fun _ h9 => h9) rfl dX8_price_16 ?_
      refine lv_bipush (v := 6) hx hb dX8_price_19 (by decide) ?_
      refine lv_iload_n hx hb dX8_price_21 rfl (lv_at hl 1 rfl) ?_
      refine lv_imul hx hb dX8_price_22 ?_
      refine lv_iload_n hx hb dX8_price_23 rfl (lv_at hl 2 rfl) ?_
      refine lv_iadd hx hb dX8_price_24 ?_
      refine va_iald hx hb hK hP 2 0 rfl rfl (i := ((6 * a1) + a2)) (vp_lin (a := 8) (b := 6) (m := 6) (sp_vpn h_1 (show n 1 ≤ 8 by omega) (by decide)) (sp_vp h_3 rfl) rfl (by decide)) dX8_price_25 ?_
      refine lv_topi (fun v5 (e5 : v5 = F 3 ((6 * a1) + a2).toNatClampNeg) => ?_)
      rw [(tn_lin (k := 6) (a := 8) (b := 6) (m := 6) (sp_vpn h_1 (show n 1 ≤ 8 by omega) (by decide)) (sp_vp h_3 rfl) rfl (by decide))] at e5
      refine lv_goto (tgt := 30) hx hb dX8_price_26 (by decide) ?_
      have hq6 : rM_price n F a1 a2 = v5 := by subst e5; exact (if_neg h_1).trans (if_neg h_3)
      exact W.iret (v := v5) hx hb hr (fun t ht hW => ⟨by rw [hq6], ht⟩) (fun q h => by cases h) dX8_price_30

set_option maxHeartbeats 8000000 in
set_option maxRecDepth 100000 in
theorem k_X8_known (l : Launch) (dC : Nat → ClassId) (dI : Nat → Nat → Nat) (h0 : Nat) (q n : Nat → Nat) (cI cZ : ClassId) (F : Nat → Nat → Int32) (hI : mi_ n F) (hN : nb_ n) (a1 : Int32) (a2 : Int32) (a3 : Int32) : Met l yX8_known wsX8_known ({ frames := 2, cells := 0, slots := 0, locals := 43 }) (va_Pc [.ref h0, .int a1, .int a2, .int a3] (pu_P (dC, dI) vwCl (mt_ cI cZ) (mw_ h0 q n (F 44 0) cI cZ F))) (pu_Q (.int (rM_known n F a1 a2 a3))) 0 0 pu_F := by
  refine Met.ofW (cc := cX8_known) (maxL := 5) (ret := (some .int)) (by decide) rfl ?_
  intro p e s m args below meth c s₁ B hml hv
  obtain ⟨rfl, hP, hK⟩ := hv
  have hx := B.exec
  have hb := B.bytes
  have hr := B.returns
  have hts := atoms_spec (ws := wsX8_known) B.pre
  have hown : s.vm.findClass RX8 = some m.cls := findClass_of_methodNamed B.named
  have hlocks := B.notSynchronized
  have hinX8 : ∀ w ∈ u_ws RX8 TX8 37, w ∈ wsX8_known := by decide +kernel
  have hl := lv_entry ([.ref h0, .int a1, .int a2, .int a3]) (n := 5) (Nat.le_of_ble_eq_true rfl)
  rw [lg_entry_eq]
  generalize (lg_sl ([.ref h0, .int a1, .int a2, .int a3]) ++ List.replicate (5 - (lg_sl ([.ref h0, .int a1, .int a2, .int a3])).length) Slot.unset).toArray = ls at hl ⊢
  have hl : lv_has ls 5 [(0, .ref h0), (1, .int a1), (2, .int a2), (3, .int a3)] := hl
  refine lv_aload_n hx hb dX8_known_0 rfl (lv_at hl 0 rfl) ?_
  refine lv_iload_n hx hb dX8_known_1 rfl (lv_at hl 1 rfl) ?_
  refine pu_call (va_runV (As := [.int a1]) (rest := []) ⟨hx, hb, hml, hown, hts⟩ (k_X8_isPost l dC dI h0 q n cI cZ F hI hN a1) (cwV 1 hts gX8_known_X8_isPost rfl rfl rfl (by decide +kernel) ⟨Nat.le_of_ble_eq_true rfl, Nat.le_of_ble_eq_true rfl⟩) (pu_pre hP hK (ci := 7) (q0 := 0) rfl rfl) rfl rfl hl.1 rfl (lv_room (Nat.le_of_ble_eq_true rfl)) dX8_known_2 ⟨Nat.le_of_ble_eq_true rfl, Nat.le_of_ble_eq_true rfl⟩) ?_
  rw [show rM_isPost n F a1 = (sp_in a1 0 ((nI (n 1)) - 1)) from rfl]
  refine lv_if_eq (tgt := 23) hx hb dX8_known_5 (by decide) (fun h_1 => ?_) (fun h_1 => ?_)
  · skip
    refine lv_iconst (v := (-1)) hx hb dX8_known_23 (by decide) ?_
    have hq2 : rM_known n F a1 a2 a3 = (-1) := by exact (if_pos h_1)
    exact W.iret (v := (-1)) hx hb hr (fun t ht hW => ⟨by rw [hq2], ht⟩) (fun q h => by cases h) dX8_known_24
  · skip
    refine lv_aload_n hx hb dX8_known_8 rfl (lv_at hl 0 rfl) ?_
    refine lv_iload_n hx hb dX8_known_9 rfl (lv_at hl 2 rfl) ?_
    refine pu_call (va_runV (As := [.int a2]) (rest := []) ⟨hx, hb, hml, hown, hts⟩ (k_X8_isPost l dC dI h0 q n cI cZ F hI hN a2) (cwV 1 hts gX8_known_X8_isPost rfl rfl rfl (by decide +kernel) ⟨Nat.le_of_ble_eq_true rfl, Nat.le_of_ble_eq_true rfl⟩) (pu_pre hP hK (ci := 7) (q0 := 0) rfl rfl) rfl rfl hl.1 rfl (lv_room (Nat.le_of_ble_eq_true rfl)) dX8_known_10 ⟨Nat.le_of_ble_eq_true rfl, Nat.le_of_ble_eq_true rfl⟩) ?_
    rw [show rM_isPost n F a2 = (sp_in a2 0 ((nI (n 1)) - 1)) from rfl]
    refine lv_if_eq (tgt := 23) hx hb dX8_known_13 (by decide) (fun h_3 => ?_) (fun h_3 => ?_)
    · skip
      refine lv_iconst (v := (-1)) hx hb dX8_known_23 (by decide) ?_
      have hq4 : rM_known n F a1 a2 a3 = (-1) := by exact (if_neg h_1).trans (if_pos h_3)
      exact W.iret (v := (-1)) hx hb hr (fun t ht hW => ⟨by rw [hq4], ht⟩) (fun q h => by cases h) dX8_known_24
    · skip
      refine lv_iload_n hx hb dX8_known_16 rfl (lv_at hl 3 rfl) ?_
      refine pu_call (va_runS (As := [.int a3]) (rest := []) ⟨hx, hb, hml, hown, hts⟩ (c_X8_isWare l a3) (va_cwS 1 hts gX8_known_X8_isWare rfl rfl rfl (by decide +kernel) ⟨Nat.le_of_ble_eq_true rfl, Nat.le_of_ble_eq_true rfl⟩) pu_preS rfl rfl hl.1 rfl (lv_room (Nat.le_of_ble_eq_true rfl)) dX8_known_17 ⟨Nat.le_of_ble_eq_true rfl, Nat.le_of_ble_eq_true rfl⟩) ?_
      refine lv_if_ne (tgt := 25) hx hb dX8_known_20 (by decide) (fun h_5 => ?_) (fun h_5 => ?_)
      · skip
        refine lv_iload_n hx hb dX8_known_25 rfl (lv_at hl 1 rfl) ?_
        refine lv_iload_n hx hb dX8_known_26 rfl (lv_at hl 2 rfl) ?_
        refine lv_icmp_ne (tgt := 37) hx hb dX8_known_27 (by decide) (fun h_6 => ?_) (fun h_6 => ?_)
        · skip
          refine lv_aload_n hx hb dX8_known_37 rfl (lv_at hl 0 rfl) ?_
          refine va_get (D := (dC, dI)) (ci := 7) (v := .ref (q 32)) (C := RX8) (T := TX8) (N := 37) hx hb hts hinX8 hown hK hP 0 rfl rfl 32 (by decide) (hts (.fieldLink RX8 92 "FurPostsModel" "reported" "[I") (by decide +kernel)) (fun _ h9 => h9) rfl dX8_known_38 ?_
          refine lv_bipush (v := 8) hx hb dX8_known_41 (by decide) ?_
          refine lv_iload_n hx hb dX8_known_43 rfl (lv_at hl 1 rfl) ?_
          refine lv_imul hx hb dX8_known_44 ?_
          refine lv_iload_n hx hb dX8_known_45 rfl (lv_at hl 2 rfl) ?_
          refine lv_iadd hx hb dX8_known_46 ?_
          refine va_iald hx hb hK hP 28 0 rfl rfl (i := ((8 * a1) + a2)) (vp_lin (a := 8) (b := 8) (m := 8) (sp_vpn h_1 (show n 1 ≤ 8 by omega) (by decide)) (sp_vpn h_3 (show n 1 ≤ 8 by omega) (by decide)) rfl (by decide)) dX8_known_47 ?_
          refine lv_topi (fun v7 (e7 : v7 = F 32 ((8 * a1) + a2).toNatClampNeg) => ?_)
          rw [(tn_lin (k := 8) (a := 8) (b := 8) (m := 8) (sp_vpn h_1 (show n 1 ≤ 8 by omega) (by decide)) (sp_vpn h_3 (show n 1 ≤ 8 by omega) (by decide)) rfl (by decide))] at e7
          refine lv_istore (lv' := [(4, .int v7), (0, .ref h0), (1, .int a1), (2, .int a2), (3, .int a3)]) hx hb dX8_known_48 hl (by decide) rfl (fun ls hl => ?_)
          refine lv_iload hx hb dX8_known_50 (lv_at hl 0 rfl) ?_
          refine lv_iconst (v := (-1)) hx hb dX8_known_52 (by decide) ?_
          refine lv_icmp_ne (tgt := 60) hx hb dX8_known_53 (by decide) (fun h_8 => ?_) (fun h_8 => ?_)
          · skip
            refine lv_aload_n hx hb dX8_known_60 rfl (lv_at hl 1 rfl) ?_
            refine va_get (D := (dC, dI)) (ci := 7) (v := .ref (q 31)) (C := RX8) (T := TX8) (N := 37) hx hb hts hinX8 hown hK hP 0 rfl rfl 31 (by decide) (hts (.fieldLink RX8 89 "FurPostsModel" "letterStore" "[I") (by decide +kernel)) (fun _ h9 => h9) rfl dX8_known_61 ?_
            refine lv_bipush (v := 6) hx hb dX8_known_64 (by decide) ?_
            refine lv_iload hx hb dX8_known_66 (lv_at hl 0 rfl) ?_
            refine lv_imul hx hb dX8_known_68 ?_
            refine lv_iload_n hx hb dX8_known_69 rfl (lv_at hl 4 rfl) ?_
            refine lv_iadd hx hb dX8_known_70 ?_
            refine va_iald hx hb hK hP 27 0 rfl rfl (i := ((6 * v7) + a3)) (vp_lin (a := 300) (b := 6) (m := 6) (by have z9 := h_8; rw [e7] at z9 ⊢; exact (hI.2.2.2.2.2.1 _).resolve_left z9) (sp_vp h_5 rfl) rfl (by decide)) dX8_known_71 ?_
            refine lv_topi (fun v9 (e9 : v9 = F 31 ((6 * v7) + a3).toNatClampNeg) => ?_)
            rw [(tn_lin (k := 6) (a := 300) (b := 6) (m := 6) (by have z9 := h_8; rw [e7] at z9 ⊢; exact (hI.2.2.2.2.2.1 _).resolve_left z9) (sp_vp h_5 rfl) rfl (by decide))] at e9
            have hq10 : rM_known n F a1 a2 a3 = v9 := by subst e9 e7; exact (if_neg h_1).trans ((if_neg h_3).trans ((if_neg h_5).trans ((if_neg h_6).trans (if_neg h_8))))
            exact W.iret (v := v9) hx hb hr (fun t ht hW => ⟨by rw [hq10], ht⟩) (fun q h => by cases h) dX8_known_72
          · skip
            refine lv_iconst (v := (-1)) hx hb dX8_known_56 (by decide) ?_
            refine lv_goto (tgt := 72) hx hb dX8_known_57 (by decide) ?_
            have hq11 : rM_known n F a1 a2 a3 = (-1) := by subst e7; exact (if_neg h_1).trans ((if_neg h_3).trans ((if_neg h_5).trans ((if_neg h_6).trans (if_pos h_8))))
            exact W.iret (v := (-1)) hx hb hr (fun t ht hW => ⟨by rw [hq11], ht⟩) (fun q h => by cases h) dX8_known_72
        · skip
          refine lv_aload_n hx hb dX8_known_30 rfl (lv_at hl 0 rfl) ?_
          refine lv_iload_n hx hb dX8_known_31 rfl (lv_at hl 1 rfl) ?_
          refine lv_iload_n hx hb dX8_known_32 rfl (lv_at hl 3 rfl) ?_
          refine pu_call (va_runV (As := [.int a1, .int a3]) (rest := []) ⟨hx, hb, hml, hown, hts⟩ (k_X8_stored l dC dI h0 q n cI cZ F hI hN a1 a3 (sp_vpn h_1 (show n 1 ≤ 8 by omega) (by decide)) (sp_vp h_5 rfl)) (cwV 2 hts gX8_known_X8_stored rfl rfl rfl (by decide +kernel) ⟨Nat.le_of_ble_eq_true rfl, Nat.le_of_ble_eq_true rfl⟩) (pu_pre hP hK (ci := 7) (q0 := 0) rfl rfl) rfl rfl hl.1 rfl (lv_room (Nat.le_of_ble_eq_true rfl)) dX8_known_33 ⟨Nat.le_of_ble_eq_true rfl, Nat.le_of_ble_eq_true rfl⟩) ?_
          refine lv_topi (fun r12 (e12 : r12 = rM_stored n F a1 a3) => ?_)
          have hq13 : rM_known n F a1 a2 a3 = r12 := by subst e12; exact (if_neg h_1).trans ((if_neg h_3).trans ((if_neg h_5).trans (if_pos h_6)))
          exact W.iret (v := r12) hx hb hr (fun t ht hW => ⟨by rw [hq13], ht⟩) (fun q h => by cases h) dX8_known_36
      · skip
        refine lv_iconst (v := (-1)) hx hb dX8_known_23 (by decide) ?_
        have hq14 : rM_known n F a1 a2 a3 = (-1) := by exact (if_neg h_1).trans ((if_neg h_3).trans (if_pos h_5))
        exact W.iret (v := (-1)) hx hb hr (fun t ht hW => ⟨by rw [hq14], ht⟩) (fun q h => by cases h) dX8_known_24

set_option maxHeartbeats 8000000 in
set_option maxRecDepth 100000 in
theorem k_X8_knownDay (l : Launch) (dC : Nat → ClassId) (dI : Nat → Nat → Nat) (h0 : Nat) (q n : Nat → Nat) (cI cZ : ClassId) (F : Nat → Nat → Int32) (hI : mi_ n F) (hN : nb_ n) (a1 : Int32) (a2 : Int32) : Met l yX8_knownDay wsX8_knownDay ({ frames := 2, cells := 0, slots := 0, locals := 43 }) (va_Pc [.ref h0, .int a1, .int a2] (pu_P (dC, dI) vwCl (mt_ cI cZ) (mw_ h0 q n (F 44 0) cI cZ F))) (pu_Q (.int (rM_knownDay n F a1 a2))) 0 0 pu_F := by
  refine Met.ofW (cc := cX8_knownDay) (maxL := 4) (ret := (some .int)) (by decide) rfl ?_
  intro p e s m args below meth c s₁ B hml hv
  obtain ⟨rfl, hP, hK⟩ := hv
  have hx := B.exec
  have hb := B.bytes
  have hr := B.returns
  have hts := atoms_spec (ws := wsX8_knownDay) B.pre
  have hown : s.vm.findClass RX8 = some m.cls := findClass_of_methodNamed B.named
  have hlocks := B.notSynchronized
  have hinX8 : ∀ w ∈ u_ws RX8 TX8 37, w ∈ wsX8_knownDay := by decide +kernel
  have hl := lv_entry ([.ref h0, .int a1, .int a2]) (n := 4) (Nat.le_of_ble_eq_true rfl)
  rw [lg_entry_eq]
  generalize (lg_sl ([.ref h0, .int a1, .int a2]) ++ List.replicate (4 - (lg_sl ([.ref h0, .int a1, .int a2])).length) Slot.unset).toArray = ls at hl ⊢
  have hl : lv_has ls 4 [(0, .ref h0), (1, .int a1), (2, .int a2)] := hl
  refine lv_aload_n hx hb dX8_knownDay_0 rfl (lv_at hl 0 rfl) ?_
  refine lv_iload_n hx hb dX8_knownDay_1 rfl (lv_at hl 1 rfl) ?_
  refine pu_call (va_runV (As := [.int a1]) (rest := []) ⟨hx, hb, hml, hown, hts⟩ (k_X8_isPost l dC dI h0 q n cI cZ F hI hN a1) (cwV 1 hts gX8_knownDay_X8_isPost rfl rfl rfl (by decide +kernel) ⟨Nat.le_of_ble_eq_true rfl, Nat.le_of_ble_eq_true rfl⟩) (pu_pre hP hK (ci := 7) (q0 := 0) rfl rfl) rfl rfl hl.1 rfl (lv_room (Nat.le_of_ble_eq_true rfl)) dX8_knownDay_2 ⟨Nat.le_of_ble_eq_true rfl, Nat.le_of_ble_eq_true rfl⟩) ?_
  rw [show rM_isPost n F a1 = (sp_in a1 0 ((nI (n 1)) - 1)) from rfl]
  refine lv_if_eq (tgt := 16) hx hb dX8_knownDay_5 (by decide) (fun h_1 => ?_) (fun h_1 => ?_)
  · skip
    refine lv_iconst (v := (-1)) hx hb dX8_knownDay_16 (by decide) ?_
    have hq2 : rM_knownDay n F a1 a2 = (-1) := by exact (if_pos h_1)
    exact W.iret (v := (-1)) hx hb hr (fun t ht hW => ⟨by rw [hq2], ht⟩) (fun q h => by cases h) dX8_knownDay_17
  · skip
    refine lv_aload_n hx hb dX8_knownDay_8 rfl (lv_at hl 0 rfl) ?_
    refine lv_iload_n hx hb dX8_knownDay_9 rfl (lv_at hl 2 rfl) ?_
    refine pu_call (va_runV (As := [.int a2]) (rest := []) ⟨hx, hb, hml, hown, hts⟩ (k_X8_isPost l dC dI h0 q n cI cZ F hI hN a2) (cwV 1 hts gX8_knownDay_X8_isPost rfl rfl rfl (by decide +kernel) ⟨Nat.le_of_ble_eq_true rfl, Nat.le_of_ble_eq_true rfl⟩) (pu_pre hP hK (ci := 7) (q0 := 0) rfl rfl) rfl rfl hl.1 rfl (lv_room (Nat.le_of_ble_eq_true rfl)) dX8_knownDay_10 ⟨Nat.le_of_ble_eq_true rfl, Nat.le_of_ble_eq_true rfl⟩) ?_
    rw [show rM_isPost n F a2 = (sp_in a2 0 ((nI (n 1)) - 1)) from rfl]
    refine lv_if_ne (tgt := 18) hx hb dX8_knownDay_13 (by decide) (fun h_3 => ?_) (fun h_3 => ?_)
    · skip
      refine lv_iload_n hx hb dX8_knownDay_18 rfl (lv_at hl 1 rfl) ?_
      refine lv_iload_n hx hb dX8_knownDay_19 rfl (lv_at hl 2 rfl) ?_
      refine lv_icmp_ne (tgt := 28) hx hb dX8_knownDay_20 (by decide) (fun h_4 => ?_) (fun h_4 => ?_)
      · skip
        refine lv_aload_n hx hb dX8_knownDay_28 rfl (lv_at hl 0 rfl) ?_
        refine va_get (D := (dC, dI)) (ci := 7) (v := .ref (q 32)) (C := RX8) (T := TX8) (N := 37) hx hb hts hinX8 hown hK hP 0 rfl rfl 32 (by decide) (hts (.fieldLink RX8 92 "FurPostsModel" "reported" "[I") (by decide +kernel)) (fun _ h9 => h9) rfl dX8_knownDay_29 ?_
        refine lv_bipush (v := 8) hx hb dX8_knownDay_32 (by decide) ?_
        refine lv_iload_n hx hb dX8_knownDay_34 rfl (lv_at hl 1 rfl) ?_
        refine lv_imul hx hb dX8_knownDay_35 ?_
        refine lv_iload_n hx hb dX8_knownDay_36 rfl (lv_at hl 2 rfl) ?_
        refine lv_iadd hx hb dX8_knownDay_37 ?_
        refine va_iald hx hb hK hP 28 0 rfl rfl (i := ((8 * a1) + a2)) (vp_lin (a := 8) (b := 8) (m := 8) (sp_vpn h_1 (show n 1 ≤ 8 by omega) (by decide)) (sp_vpn h_3 (show n 1 ≤ 8 by omega) (by decide)) rfl (by decide)) dX8_knownDay_38 ?_
        refine lv_topi (fun v5 (e5 : v5 = F 32 ((8 * a1) + a2).toNatClampNeg) => ?_)
        rw [(tn_lin (k := 8) (a := 8) (b := 8) (m := 8) (sp_vpn h_1 (show n 1 ≤ 8 by omega) (by decide)) (sp_vpn h_3 (show n 1 ≤ 8 by omega) (by decide)) rfl (by decide))] at e5
        refine lv_istore_n (lv' := [(3, .int v5), (0, .ref h0), (1, .int a1), (2, .int a2)]) hx hb dX8_knownDay_39 rfl hl (by decide) rfl (fun ls hl => ?_)
        refine lv_iload_n hx hb dX8_knownDay_40 rfl (lv_at hl 0 rfl) ?_
        refine lv_iconst (v := (-1)) hx hb dX8_knownDay_41 (by decide) ?_
        refine lv_icmp_ne (tgt := 49) hx hb dX8_knownDay_42 (by decide) (fun h_6 => ?_) (fun h_6 => ?_)
        · skip
          refine lv_aload_n hx hb dX8_knownDay_49 rfl (lv_at hl 1 rfl) ?_
          refine va_get (D := (dC, dI)) (ci := 7) (v := .ref (q 30)) (C := RX8) (T := TX8) (N := 37) hx hb hts hinX8 hown hK hP 0 rfl rfl 30 (by decide) (hts (.fieldLink RX8 86 "FurPostsModel" "letterTwo" "[I") (by decide +kernel)) (fun _ h9 => h9) rfl dX8_knownDay_50 ?_
          refine lv_iload_n hx hb dX8_knownDay_53 rfl (lv_at hl 0 rfl) ?_
          refine va_iald hx hb hK hP 26 0 rfl rfl (i := v5) (by have z9 := h_6; rw [e5] at z9 ⊢; exact (hI.2.2.2.2.2.1 _).resolve_left z9) dX8_knownDay_54 ?_
          refine lv_topi (fun v7 (e7 : v7 = F 30 v5.toNatClampNeg) => ?_)
          have hq8 : rM_knownDay n F a1 a2 = v7 := by subst e7 e5; exact (if_neg h_1).trans ((if_neg h_3).trans ((if_neg h_4).trans (if_neg h_6)))
          exact W.iret (v := v7) hx hb hr (fun t ht hW => ⟨by rw [hq8], ht⟩) (fun q h => by cases h) dX8_knownDay_55
        · skip
          refine lv_iconst (v := (-1)) hx hb dX8_knownDay_45 (by decide) ?_
          refine lv_goto (tgt := 55) hx hb dX8_knownDay_46 (by decide) ?_
          have hq9 : rM_knownDay n F a1 a2 = (-1) := by subst e5; exact (if_neg h_1).trans ((if_neg h_3).trans ((if_neg h_4).trans (if_pos h_6)))
          exact W.iret (v := (-1)) hx hb hr (fun t ht hW => ⟨by rw [hq9], ht⟩) (fun q h => by cases h) dX8_knownDay_55
      · skip
        refine lv_aload_n hx hb dX8_knownDay_23 rfl (lv_at hl 0 rfl) ?_
        refine va_get (D := (dC, dI)) (ci := 7) (v := .int (nI (n 0))) (C := RX8) (T := TX8) (N := 37) hx hb hts hinX8 hown hK hP 0 rfl rfl 0 (by decide) (hts (.fieldLink RX8 137 "FurPostsModel" "now" "I") (by decide +kernel)) (fun _ h9 => h9) rfl dX8_knownDay_24 ?_
        have hq10 : rM_knownDay n F a1 a2 = (nI (n 0)) := by exact (if_neg h_1).trans ((if_neg h_3).trans (if_pos h_4))
        exact W.iret (v := (nI (n 0))) hx hb hr (fun t ht hW => ⟨by rw [hq10], ht⟩) (fun q h => by cases h) dX8_knownDay_27
    · skip
      refine lv_iconst (v := (-1)) hx hb dX8_knownDay_16 (by decide) ?_
      have hq11 : rM_knownDay n F a1 a2 = (-1) := by exact (if_neg h_1).trans (if_pos h_3)
      exact W.iret (v := (-1)) hx hb hr (fun t ht hW => ⟨by rw [hq11], ht⟩) (fun q h => by cases h) dX8_knownDay_17

set_option maxHeartbeats 8000000 in
set_option maxRecDepth 100000 in
theorem k_X8_cost (l : Launch) (dC : Nat → ClassId) (dI : Nat → Nat → Nat) (h0 : Nat) (q n : Nat → Nat) (cI cZ : ClassId) (F : Nat → Nat → Int32) (hI : mi_ n F) (hN : nb_ n) (a1 : Int32) (a2 : Int32) (a3 : Int32) (a4 : Int32) (a5 : Int32) : Met l yX8_cost wsX8_cost ({ frames := 2, cells := 0, slots := 0, locals := 43 }) (va_Pc [.ref h0, .int a1, .int a2, .int a3, .int a4, .int a5] (pu_P (dC, dI) vwCl (mt_ cI cZ) (mw_ h0 q n (F 44 0) cI cZ F))) (pu_Q (.int (rM_cost n F a1 a2 a3 a4 a5))) 0 0 pu_F := by
  refine Met.ofW (cc := cX8_cost) (maxL := 10) (ret := (some .int)) (by decide) rfl ?_
  intro p e s m args below meth c s₁ B hml hv
  obtain ⟨rfl, hP, hK⟩ := hv
  have hx := B.exec
  have hb := B.bytes
  have hr := B.returns
  have hts := atoms_spec (ws := wsX8_cost) B.pre
  have hown : s.vm.findClass RX8 = some m.cls := findClass_of_methodNamed B.named
  have hlocks := B.notSynchronized
  have hinX8 : ∀ w ∈ u_ws RX8 TX8 37, w ∈ wsX8_cost := by decide +kernel
  have hl := lv_entry ([.ref h0, .int a1, .int a2, .int a3, .int a4, .int a5]) (n := 10) (Nat.le_of_ble_eq_true rfl)
  rw [lg_entry_eq]
  generalize (lg_sl ([.ref h0, .int a1, .int a2, .int a3, .int a4, .int a5]) ++ List.replicate (10 - (lg_sl ([.ref h0, .int a1, .int a2, .int a3, .int a4, .int a5])).length) Slot.unset).toArray = ls at hl ⊢
  have hl : lv_has ls 10 [(0, .ref h0), (1, .int a1), (2, .int a2), (3, .int a3), (4, .int a4), (5, .int a5)] := hl
  refine lv_aload_n hx hb dX8_cost_0 rfl (lv_at hl 0 rfl) ?_
  refine lv_iload_n hx hb dX8_cost_1 rfl (lv_at hl 1 rfl) ?_
  refine pu_call (va_runV (As := [.int a1]) (rest := []) ⟨hx, hb, hml, hown, hts⟩ (k_X8_isPost l dC dI h0 q n cI cZ F hI hN a1) (cwV 1 hts gX8_cost_X8_isPost rfl rfl rfl (by decide +kernel) ⟨Nat.le_of_ble_eq_true rfl, Nat.le_of_ble_eq_true rfl⟩) (pu_pre hP hK (ci := 7) (q0 := 0) rfl rfl) rfl rfl hl.1 rfl (lv_room (Nat.le_of_ble_eq_true rfl)) dX8_cost_2 ⟨Nat.le_of_ble_eq_true rfl, Nat.le_of_ble_eq_true rfl⟩) ?_
  rw [show rM_isPost n F a1 = (sp_in a1 0 ((nI (n 1)) - 1)) from rfl]
  refine lv_if_eq (tgt := 47) hx hb dX8_cost_5 (by decide) (fun h_1 => ?_) (fun h_1 => ?_)
  · skip
    refine lv_iconst (v := (-1)) hx hb dX8_cost_47 (by decide) ?_
    have hq2 : rM_cost n F a1 a2 a3 a4 a5 = (-1) := by exact (if_pos h_1)
    exact W.iret (v := (-1)) hx hb hr (fun t ht hW => ⟨by rw [hq2], ht⟩) (fun q h => by cases h) dX8_cost_48
  · skip
    refine lv_iload_n hx hb dX8_cost_8 rfl (lv_at hl 2 rfl) ?_
    refine pu_call (va_runS (As := [.int a2]) (rest := []) ⟨hx, hb, hml, hown, hts⟩ (c_X8_isWare l a2) (va_cwS 1 hts gX8_cost_X8_isWare rfl rfl rfl (by decide +kernel) ⟨Nat.le_of_ble_eq_true rfl, Nat.le_of_ble_eq_true rfl⟩) pu_preS rfl rfl hl.1 rfl (lv_room (Nat.le_of_ble_eq_true rfl)) dX8_cost_9 ⟨Nat.le_of_ble_eq_true rfl, Nat.le_of_ble_eq_true rfl⟩) ?_
    refine lv_if_eq (tgt := 47) hx hb dX8_cost_12 (by decide) (fun h_3 => ?_) (fun h_3 => ?_)
    · skip
      refine lv_iconst (v := (-1)) hx hb dX8_cost_47 (by decide) ?_
      have hq4 : rM_cost n F a1 a2 a3 a4 a5 = (-1) := by exact (if_neg h_1).trans (if_pos h_3)
      exact W.iret (v := (-1)) hx hb hr (fun t ht hW => ⟨by rw [hq4], ht⟩) (fun q h => by cases h) dX8_cost_48
    · skip
      refine lv_iload_n hx hb dX8_cost_15 rfl (lv_at hl 3 rfl) ?_
      refine lv_iconst (v := 0) hx hb dX8_cost_16 (by decide) ?_
      refine lv_bipush (v := 100) hx hb dX8_cost_17 (by decide) ?_
      refine pu_call (va_runS (As := [.int a3, .int 0, .int 100]) (rest := []) ⟨hx, hb, hml, hown, hts⟩ (c_X8_in l a3 0 100) (va_cwS 3 hts gX8_cost_X8_in rfl rfl rfl (by decide +kernel) ⟨Nat.le_of_ble_eq_true rfl, Nat.le_of_ble_eq_true rfl⟩) pu_preS rfl rfl hl.1 rfl (lv_room (Nat.le_of_ble_eq_true rfl)) dX8_cost_19 ⟨Nat.le_of_ble_eq_true rfl, Nat.le_of_ble_eq_true rfl⟩) ?_
      refine lv_if_eq (tgt := 47) hx hb dX8_cost_22 (by decide) (fun h_5 => ?_) (fun h_5 => ?_)
      · skip
        refine lv_iconst (v := (-1)) hx hb dX8_cost_47 (by decide) ?_
        have hq6 : rM_cost n F a1 a2 a3 a4 a5 = (-1) := by exact (if_neg h_1).trans ((if_neg h_3).trans (if_pos h_5))
        exact W.iret (v := (-1)) hx hb hr (fun t ht hW => ⟨by rw [hq6], ht⟩) (fun q h => by cases h) dX8_cost_48
      · skip
        refine lv_iload hx hb dX8_cost_25 (lv_at hl 4 rfl) ?_
        refine lv_iconst (v := 0) hx hb dX8_cost_27 (by decide) ?_
        refine lv_bipush (v := 100) hx hb dX8_cost_28 (by decide) ?_
        refine pu_call (va_runS (As := [.int a4, .int 0, .int 100]) (rest := []) ⟨hx, hb, hml, hown, hts⟩ (c_X8_in l a4 0 100) (va_cwS 3 hts gX8_cost_X8_in rfl rfl rfl (by decide +kernel) ⟨Nat.le_of_ble_eq_true rfl, Nat.le_of_ble_eq_true rfl⟩) pu_preS rfl rfl hl.1 rfl (lv_room (Nat.le_of_ble_eq_true rfl)) dX8_cost_30 ⟨Nat.le_of_ble_eq_true rfl, Nat.le_of_ble_eq_true rfl⟩) ?_
        refine lv_if_eq (tgt := 47) hx hb dX8_cost_33 (by decide) (fun h_7 => ?_) (fun h_7 => ?_)
        · skip
          refine lv_iconst (v := (-1)) hx hb dX8_cost_47 (by decide) ?_
          have hq8 : rM_cost n F a1 a2 a3 a4 a5 = (-1) := by exact (if_neg h_1).trans ((if_neg h_3).trans ((if_neg h_5).trans (if_pos h_7)))
          exact W.iret (v := (-1)) hx hb hr (fun t ht hW => ⟨by rw [hq8], ht⟩) (fun q h => by cases h) dX8_cost_48
        · skip
          refine lv_iload hx hb dX8_cost_36 (lv_at hl 5 rfl) ?_
          refine lv_iconst (v := 0) hx hb dX8_cost_38 (by decide) ?_
          refine lv_bipush (v := 20) hx hb dX8_cost_39 (by decide) ?_
          refine pu_call (va_runS (As := [.int a5, .int 0, .int 20]) (rest := []) ⟨hx, hb, hml, hown, hts⟩ (c_X8_in l a5 0 20) (va_cwS 3 hts gX8_cost_X8_in rfl rfl rfl (by decide +kernel) ⟨Nat.le_of_ble_eq_true rfl, Nat.le_of_ble_eq_true rfl⟩) pu_preS rfl rfl hl.1 rfl (lv_room (Nat.le_of_ble_eq_true rfl)) dX8_cost_41 ⟨Nat.le_of_ble_eq_true rfl, Nat.le_of_ble_eq_true rfl⟩) ?_
          refine lv_if_ne (tgt := 49) hx hb dX8_cost_44 (by decide) (fun h_9 => ?_) (fun h_9 => ?_)
          · skip
            refine lv_iconst (v := 0) hx hb dX8_cost_49 (by decide) ?_
            refine lv_istore (lv' := [(6, .int 0), (0, .ref h0), (1, .int a1), (2, .int a2), (3, .int a3), (4, .int a4), (5, .int a5)]) hx hb dX8_cost_50 hl (by decide) rfl (fun ls hl => ?_)
            refine lv_iconst (v := 0) hx hb dX8_cost_52 (by decide) ?_
            refine lv_istore (lv' := [(7, .int 0), (6, .int 0), (0, .ref h0), (1, .int a1), (2, .int a2), (3, .int a3), (4, .int a4), (5, .int a5)]) hx hb dX8_cost_53 hl (by decide) rfl (fun ls hl => ?_)
            have key55 : ∀ (k jL55 : Nat) (xL55_6 : Int32) (ls : Array Slot), jL55 + k = 21 → lv_has ls 10 [(7, .int (nI jL55)), (6, .int xL55_6), (0, .ref h0), (1, .int a1), (2, .int a2), (3, .int a3), (4, .int a4), (5, .int a5)] → (∀ (ls : Array Slot), lv_has ls 10 [(7, .int (nI 21)), (6, .int (rM_cost_L55 F a2 k jL55 xL55_6)), (0, .ref h0), (1, .int a1), (2, .int a2), (3, .int a3), (4, .int a4), (5, .int a5)] → W p l e (headSpec wsX8_cost ({ frames := 2, cells := 0, slots := 0, locals := 43 })).room s m [.ref h0, .int a1, .int a2, .int a3, .int a4, .int a5].toArray below meth c s.heap [] 0 0 (MQ below (pu_Q (.int (rM_cost n F a1 a2 a3 a4 a5))) [.ref h0, .int a1, .int a2, .int a3, .int a4, .int a5].toArray s 0 0 pu_F) (F0 m 85 ls [])) → 
                W p l e (headSpec wsX8_cost ({ frames := 2, cells := 0, slots := 0, locals := 43 })).room s m [.ref h0, .int a1, .int a2, .int a3, .int a4, .int a5].toArray below meth c s.heap [] 0 0 (MQ below (pu_Q (.int (rM_cost n F a1 a2 a3 a4 a5))) [.ref h0, .int a1, .int a2, .int a3, .int a4, .int a5].toArray s 0 0 pu_F) (F0 m 55 ls []) := by
              intro k
              induction k with
              | zero =>
                intro jL55 xL55_6 ls hj hl hex
                have hj : jL55 = 21 := by omega
                subst jL55
                refine lv_iload hx hb dX8_cost_55 (lv_at hl 0 rfl) ?_
                refine lv_bipush (v := 21) hx hb dX8_cost_57 (by decide) ?_
                refine lv_icmp_ge (tgt := 85) hx hb dX8_cost_59 (by decide) (fun h_10 => ?_) (fun h_10 => absurd (lp_ge0 (B := 21) rfl) h_10)
                exact hex ls (lv_sub hl [0, 1, 2, 3, 4, 5, 6, 7] rfl)
              | succ k ih55 =>
                intro jL55 xL55_6 ls hj hl hex
                have hj55 : jL55 < 21 := by omega
                refine lv_iload hx hb dX8_cost_55 (lv_at hl 0 rfl) ?_
                refine lv_bipush (v := 21) hx hb dX8_cost_57 (by decide) ?_
                refine lv_icmp_ge (tgt := 85) hx hb dX8_cost_59 (by decide) (fun h_11 => absurd h_11 (lp_ge (B := 21) (by omega) (by omega) rfl)) (fun h_11 => ?_)
                refine lv_iload hx hb dX8_cost_62 (lv_at hl 1 rfl) ?_
                refine lv_aload_n hx hb dX8_cost_64 rfl (lv_at hl 2 rfl) ?_
                refine va_get (D := (dC, dI)) (ci := 7) (v := .ref (q 33)) (C := RX8) (T := TX8) (N := 37) hx hb hts hinX8 hown hK hP 0 rfl rfl 33 (by decide) (hts (.fieldLink RX8 95 "FurPostsModel" "parts" "[I") (by decide +kernel)) (fun _ h9 => h9) rfl dX8_cost_65 ?_
                refine lv_bipush (v := 21) hx hb dX8_cost_68 (by decide) ?_
                refine lv_iload_n hx hb dX8_cost_70 rfl (lv_at hl 4 rfl) ?_
                refine lv_imul hx hb dX8_cost_71 ?_
                refine lv_iload hx hb dX8_cost_72 (lv_at hl 0 rfl) ?_
                refine lv_iadd hx hb dX8_cost_74 ?_
                refine va_iald hx hb hK hP 29 0 rfl rfl (i := ((21 * a2) + (nI jL55))) (vp_lin (a := 6) (b := 21) (m := 21) (sp_vp h_3 rfl) (vp_in_nI (show jL55 < 21 by omega) (by decide)) rfl (by decide)) dX8_cost_75 ?_
                refine lv_topi (fun v12 (e12 : v12 = F 33 ((21 * a2) + (nI jL55)).toNatClampNeg) => ?_)
                rw [((tn_lin (k := 21) (a := 6) (b := 21) (m := 21) (sp_vp h_3 rfl) (vp_in_nI (show jL55 < 21 by omega) (by decide)) rfl (by decide)).trans (by rw [(nI_clamp (by omega))]))] at e12
                refine lv_iadd hx hb dX8_cost_76 ?_
                refine lv_istore (lv' := [(6, .int (xL55_6 + v12)), (7, .int (nI jL55)), (0, .ref h0), (1, .int a1), (2, .int a2), (3, .int a3), (4, .int a4), (5, .int a5)]) hx hb dX8_cost_77 hl (by decide) rfl (fun ls hl => ?_)
                refine lv_iinc (v := (nI (jL55 + 1))) (lv' := [(7, .int (nI (jL55 + 1))), (6, .int (xL55_6 + v12)), (0, .ref h0), (1, .int a1), (2, .int a2), (3, .int a3), (4, .int a4), (5, .int a5)]) hx hb dX8_cost_79 hl (k := 1) rfl (show nI jL55 + 1 = nI (jL55 + 1) from nI_1 jL55) (by decide) rfl (fun ls hl => ?_)
                refine lv_goto (tgt := 55) hx hb dX8_cost_82 (by decide) ?_
                have hI55 : (rM_cost_L55 F a2 (k + 1) jL55 xL55_6) = (rM_cost_L55 F a2 k (jL55 + 1) (xL55_6 + v12)) := by subst e12; exact rfl
                exact ih55 (jL55 + 1) (xL55_6 + v12) ls (by omega) (lv_sub hl [0, 1, 2, 3, 4, 5, 6, 7] rfl) (by rw [← hI55]; exact hex)
            refine key55 21 0 0 ls (by omega) (lv_sub hl [0, 1, 2, 3, 4, 5, 6, 7] rfl) (fun ls hl => ?_)
            obtain ⟨v13, e13⟩ : ∃ v13 : Int32, v13 = (rM_cost_L55 F a2 21 0 0) := ⟨_, rfl⟩
            rw [← e13] at hl
            refine lv_iload hx hb dX8_cost_85 (lv_at hl 1 rfl) ?_
            refine lv_sipush (v := 1000) hx hb dX8_cost_87 (by decide) ?_
            refine lv_icmp_eq (tgt := 95) hx hb dX8_cost_90 (by decide) (fun h_14 => ?_) (fun h_14 => ?_)
            · skip
              refine lv_iconst (v := 0) hx hb dX8_cost_95 (by decide) ?_
              refine lv_istore (lv' := [(7, .int 0), (6, .int v13), (0, .ref h0), (1, .int a1), (2, .int a2), (3, .int a3), (4, .int a4), (5, .int a5)]) hx hb dX8_cost_96 hl (by decide) rfl (fun ls hl => ?_)
              refine lv_aload_n hx hb dX8_cost_98 rfl (lv_at hl 2 rfl) ?_
              refine lv_iload_n hx hb dX8_cost_99 rfl (lv_at hl 3 rfl) ?_
              refine lv_iload_n hx hb dX8_cost_100 rfl (lv_at hl 4 rfl) ?_
              refine pu_call (va_runV (As := [.int a1, .int a2]) (rest := []) ⟨hx, hb, hml, hown, hts⟩ (k_X8_stored l dC dI h0 q n cI cZ F hI hN a1 a2 (sp_vpn h_1 (show n 1 ≤ 8 by omega) (by decide)) (sp_vp h_3 rfl)) (cwV 2 hts gX8_cost_X8_stored rfl rfl rfl (by decide +kernel) ⟨Nat.le_of_ble_eq_true rfl, Nat.le_of_ble_eq_true rfl⟩) (pu_pre hP hK (ci := 7) (q0 := 0) rfl rfl) rfl rfl hl.1 rfl (lv_room (Nat.le_of_ble_eq_true rfl)) dX8_cost_101 ⟨Nat.le_of_ble_eq_true rfl, Nat.le_of_ble_eq_true rfl⟩) ?_
              refine lv_topi (fun r15 (e15 : r15 = rM_stored n F a1 a2) => ?_)
              refine lv_sipush (v := 1000) hx hb dX8_cost_104 (by decide) ?_
              have jn16 : ∀ v16 : Int32, v16 = (if (rM_stored n F a1 a2) ≤ 1000 then (rM_stored n F a1 a2) else 1000) → W p l e (headSpec wsX8_cost ({ frames := 2, cells := 0, slots := 0, locals := 43 })).room s m [.ref h0, .int a1, .int a2, .int a3, .int a4, .int a5].toArray below meth c s.heap [] 0 0 (MQ below (pu_Q (.int (rM_cost n F a1 a2 a3 a4 a5))) [.ref h0, .int a1, .int a2, .int a3, .int a4, .int a5].toArray s 0 0 pu_F) (F0 m 122 ls (.int v16 :: [])) := by
                intro v16 e16
                refine lv_iload hx hb dX8_cost_122 (lv_at hl 7 rfl) ?_
                refine lv_iadd hx hb dX8_cost_124 ?_
                refine lv_istore (lv' := [(8, .int (v16 + a5)), (7, .int 0), (6, .int v13), (0, .ref h0), (1, .int a1), (2, .int a2), (3, .int a3), (4, .int a4), (5, .int a5)]) hx hb dX8_cost_125 hl (by decide) rfl (fun ls hl => ?_)
                refine lv_iconst (v := 0) hx hb dX8_cost_127 (by decide) ?_
                refine lv_istore (lv' := [(9, .int 0), (8, .int (v16 + a5)), (7, .int 0), (6, .int v13), (0, .ref h0), (1, .int a1), (2, .int a2), (3, .int a3), (4, .int a4), (5, .int a5)]) hx hb dX8_cost_128 hl (by decide) rfl (fun ls hl => ?_)
                have key130 : ∀ (k jL130 : Nat) (xL130_7 : Int32) (ls : Array Slot), jL130 + k = 21 → lv_has ls 10 [(9, .int (nI jL130)), (8, .int (v16 + a5)), (7, .int xL130_7), (6, .int v13), (0, .ref h0), (1, .int a1), (2, .int a2), (3, .int a3), (4, .int a4), (5, .int a5)] → (∀ (ls : Array Slot), lv_has ls 10 [(9, .int (nI 21)), (8, .int (v16 + a5)), (7, .int (rM_cost_L130 n F a1 a2 a5 a4 a3 k jL130 xL130_7)), (6, .int v13), (0, .ref h0), (1, .int a1), (2, .int a2), (3, .int a3), (4, .int a4), (5, .int a5)] → W p l e (headSpec wsX8_cost ({ frames := 2, cells := 0, slots := 0, locals := 43 })).room s m [.ref h0, .int a1, .int a2, .int a3, .int a4, .int a5].toArray below meth c s.heap [] 0 0 (MQ below (pu_Q (.int (rM_cost n F a1 a2 a3 a4 a5))) [.ref h0, .int a1, .int a2, .int a3, .int a4, .int a5].toArray s 0 0 pu_F) (F0 m 199 ls [])) → 
                    W p l e (headSpec wsX8_cost ({ frames := 2, cells := 0, slots := 0, locals := 43 })).room s m [.ref h0, .int a1, .int a2, .int a3, .int a4, .int a5].toArray below meth c s.heap [] 0 0 (MQ below (pu_Q (.int (rM_cost n F a1 a2 a3 a4 a5))) [.ref h0, .int a1, .int a2, .int a3, .int a4, .int a5].toArray s 0 0 pu_F) (F0 m 130 ls []) := by
                  intro k
                  induction k with
                  | zero =>
                    intro jL130 xL130_7 ls hj hl hex
                    have hj : jL130 = 21 := by omega
                    subst jL130
                    refine lv_iload hx hb dX8_cost_130 (lv_at hl 0 rfl) ?_
                    refine lv_bipush (v := 21) hx hb dX8_cost_132 (by decide) ?_
                    refine lv_icmp_ge (tgt := 199) hx hb dX8_cost_134 (by decide) (fun h_17 => ?_) (fun h_17 => absurd (lp_ge0 (B := 21) rfl) h_17)
                    exact hex ls (lv_sub hl [0, 1, 2, 3, 4, 5, 6, 7, 8, 9] rfl)
                  | succ k ih130 =>
                    intro jL130 xL130_7 ls hj hl hex
                    have hj130 : jL130 < 21 := by omega
                    refine lv_iload hx hb dX8_cost_130 (lv_at hl 0 rfl) ?_
                    refine lv_bipush (v := 21) hx hb dX8_cost_132 (by decide) ?_
                    refine lv_icmp_ge (tgt := 199) hx hb dX8_cost_134 (by decide) (fun h_18 => absurd h_18 (lp_ge (B := 21) (by omega) (by omega) rfl)) (fun h_18 => ?_)
                    refine lv_iload hx hb dX8_cost_137 (lv_at hl 2 rfl) ?_
                    refine lv_iload hx hb dX8_cost_139 (lv_at hl 0 rfl) ?_
                    refine lv_iload hx hb dX8_cost_141 (lv_at hl 1 rfl) ?_
                    have jn19 : ∀ v19 : Int32, v19 = (if (nI jL130) ≤ ((if (rM_stored n F a1 a2) ≤ 1000 then (rM_stored n F a1 a2) else 1000) + a5) then (((F 33 (21 * a2.toNatClampNeg + jL130)) * a4) * (((if (rM_stored n F a1 a2) ≤ 1000 then (rM_stored n F a1 a2) else 1000) + a5) - (nI jL130))) else (((F 33 (21 * a2.toNatClampNeg + jL130)) * a3) * ((nI jL130) - ((if (rM_stored n F a1 a2) ≤ 1000 then (rM_stored n F a1 a2) else 1000) + a5)))) → W p l e (headSpec wsX8_cost ({ frames := 2, cells := 0, slots := 0, locals := 43 })).room s m [.ref h0, .int a1, .int a2, .int a3, .int a4, .int a5].toArray below meth c s.heap [] 0 0 (MQ below (pu_Q (.int (rM_cost n F a1 a2 a3 a4 a5))) [.ref h0, .int a1, .int a2, .int a3, .int a4, .int a5].toArray s 0 0 pu_F) (F0 m 190 ls (.int v19 :: [.int xL130_7])) := by
                      intro v19 e19
                      refine lv_iadd hx hb dX8_cost_190 ?_
                      refine lv_istore (lv' := [(7, .int (xL130_7 + v19)), (9, .int (nI jL130)), (8, .int (v16 + a5)), (6, .int v13), (0, .ref h0), (1, .int a1), (2, .int a2), (3, .int a3), (4, .int a4), (5, .int a5)]) hx hb dX8_cost_191 hl (by decide) rfl (fun ls hl => ?_)
                      refine lv_iinc (v := (nI (jL130 + 1))) (lv' := [(9, .int (nI (jL130 + 1))), (7, .int (xL130_7 + v19)), (8, .int (v16 + a5)), (6, .int v13), (0, .ref h0), (1, .int a1), (2, .int a2), (3, .int a3), (4, .int a4), (5, .int a5)]) hx hb dX8_cost_193 hl (k := 1) rfl (show nI jL130 + 1 = nI (jL130 + 1) from nI_1 jL130) (by decide) rfl (fun ls hl => ?_)
                      refine lv_goto (tgt := 130) hx hb dX8_cost_196 (by decide) ?_
                      have hI130 : (rM_cost_L130 n F a1 a2 a5 a4 a3 (k + 1) jL130 xL130_7) = (rM_cost_L130 n F a1 a2 a5 a4 a3 k (jL130 + 1) (xL130_7 + v19)) := by subst e19 e16 e15 e13; exact rfl
                      exact ih130 (jL130 + 1) (xL130_7 + v19) ls (by omega) (lv_sub hl [0, 2, 1, 3, 4, 5, 6, 7, 8, 9] rfl) (by rw [← hI130]; exact hex)
                    refine lv_icmp_le (tgt := 169) hx hb dX8_cost_143 (by decide) (fun h_20 => ?_) (fun h_20 => ?_)
                    · skip
                      refine lv_aload_n hx hb dX8_cost_169 rfl (lv_at hl 4 rfl) ?_
                      refine va_get (D := (dC, dI)) (ci := 7) (v := .ref (q 33)) (C := RX8) (T := TX8) (N := 37) hx hb hts hinX8 hown hK hP 0 rfl rfl 33 (by decide) (hts (.fieldLink RX8 95 "FurPostsModel" "parts" "[I") (by decide +kernel)) (fun _ h9 => h9) rfl dX8_cost_170 ?_
                      refine lv_bipush (v := 21) hx hb dX8_cost_173 (by decide) ?_
                      refine lv_iload_n hx hb dX8_cost_175 rfl (lv_at hl 6 rfl) ?_
                      refine lv_imul hx hb dX8_cost_176 ?_
                      refine lv_iload hx hb dX8_cost_177 (lv_at hl 0 rfl) ?_
                      refine lv_iadd hx hb dX8_cost_179 ?_
                      refine va_iald hx hb hK hP 29 0 rfl rfl (i := ((21 * a2) + (nI jL130))) (vp_lin (a := 6) (b := 21) (m := 21) (sp_vp h_3 rfl) (vp_in_nI (show jL130 < 21 by omega) (by decide)) rfl (by decide)) dX8_cost_180 ?_
                      refine lv_topi (fun v21 (e21 : v21 = F 33 ((21 * a2) + (nI jL130)).toNatClampNeg) => ?_)
                      rw [((tn_lin (k := 21) (a := 6) (b := 21) (m := 21) (sp_vp h_3 rfl) (vp_in_nI (show jL130 < 21 by omega) (by decide)) rfl (by decide)).trans (by rw [(nI_clamp (by omega))]))] at e21
                      refine lv_iload hx hb dX8_cost_181 (lv_at hl 8 rfl) ?_
                      refine lv_imul hx hb dX8_cost_183 ?_
                      refine lv_iload hx hb dX8_cost_184 (lv_at hl 1 rfl) ?_
                      refine lv_iload hx hb dX8_cost_186 (lv_at hl 0 rfl) ?_
                      refine lv_isub hx hb dX8_cost_188 ?_
                      refine lv_imul hx hb dX8_cost_189 ?_
                      exact jn19 _ (by subst e21 e16 e15 e13; exact ((if_pos h_20)).symm)
                    · skip
                      refine lv_aload_n hx hb dX8_cost_146 rfl (lv_at hl 4 rfl) ?_
                      refine va_get (D := (dC, dI)) (ci := 7) (v := .ref (q 33)) (C := RX8) (T := TX8) (N := 37) hx hb hts hinX8 hown hK hP 0 rfl rfl 33 (by decide) (hts (.fieldLink RX8 95 "FurPostsModel" "parts" "[I") (by decide +kernel)) (fun _ h9 => h9) rfl dX8_cost_147 ?_
                      refine lv_bipush (v := 21) hx hb dX8_cost_150 (by decide) ?_
                      refine lv_iload_n hx hb dX8_cost_152 rfl (lv_at hl 6 rfl) ?_
                      refine lv_imul hx hb dX8_cost_153 ?_
                      refine lv_iload hx hb dX8_cost_154 (lv_at hl 0 rfl) ?_
                      refine lv_iadd hx hb dX8_cost_156 ?_
                      refine va_iald hx hb hK hP 29 0 rfl rfl (i := ((21 * a2) + (nI jL130))) (vp_lin (a := 6) (b := 21) (m := 21) (sp_vp h_3 rfl) (vp_in_nI (show jL130 < 21 by omega) (by decide)) rfl (by decide)) dX8_cost_157 ?_
                      refine lv_topi (fun v22 (e22 : v22 = F 33 ((21 * a2) + (nI jL130)).toNatClampNeg) => ?_)
                      rw [((tn_lin (k := 21) (a := 6) (b := 21) (m := 21) (sp_vp h_3 rfl) (vp_in_nI (show jL130 < 21 by omega) (by decide)) rfl (by decide)).trans (by rw [(nI_clamp (by omega))]))] at e22
                      refine lv_iload_n hx hb dX8_cost_158 rfl (lv_at hl 7 rfl) ?_
                      refine lv_imul hx hb dX8_cost_159 ?_
                      refine lv_iload hx hb dX8_cost_160 (lv_at hl 0 rfl) ?_
                      refine lv_iload hx hb dX8_cost_162 (lv_at hl 1 rfl) ?_
                      refine lv_isub hx hb dX8_cost_164 ?_
                      refine lv_imul hx hb dX8_cost_165 ?_
                      refine lv_goto (tgt := 190) hx hb dX8_cost_166 (by decide) ?_
                      exact jn19 _ (by subst e22 e16 e15 e13; exact ((if_neg h_20)).symm)
                refine key130 21 0 0 ls (by omega) (lv_sub hl [0, 1, 2, 3, 4, 5, 6, 7, 8, 9] rfl) (fun ls hl => ?_)
                obtain ⟨v23, e23⟩ : ∃ v23 : Int32, v23 = (rM_cost_L130 n F a1 a2 a5 a4 a3 21 0 0) := ⟨_, rfl⟩
                rw [← e23] at hl
                refine lv_iload hx hb dX8_cost_199 (lv_at hl 2 rfl) ?_
                have hq24 : rM_cost n F a1 a2 a3 a4 a5 = v23 := by subst e23 e16 e15 e13; exact (if_neg h_1).trans ((if_neg h_3).trans ((if_neg h_5).trans ((if_neg h_7).trans ((if_neg h_9).trans (if_pos h_14)))))
                exact W.iret (v := v23) hx hb hr (fun t ht hW => ⟨by rw [hq24], ht⟩) (fun q h => by cases h) dX8_cost_201
              refine lv_icmp_le (tgt := 116) hx hb dX8_cost_107 (by decide) (fun h_25 => ?_) (fun h_25 => ?_)
              · skip
                refine lv_aload_n hx hb dX8_cost_116 rfl (lv_at hl 2 rfl) ?_
                refine lv_iload_n hx hb dX8_cost_117 rfl (lv_at hl 3 rfl) ?_
                refine lv_iload_n hx hb dX8_cost_118 rfl (lv_at hl 4 rfl) ?_
                refine pu_call (va_runV (As := [.int a1, .int a2]) (rest := []) ⟨hx, hb, hml, hown, hts⟩ (k_X8_stored l dC dI h0 q n cI cZ F hI hN a1 a2 (sp_vpn h_1 (show n 1 ≤ 8 by omega) (by decide)) (sp_vp h_3 rfl)) (cwV 2 hts gX8_cost_X8_stored rfl rfl rfl (by decide +kernel) ⟨Nat.le_of_ble_eq_true rfl, Nat.le_of_ble_eq_true rfl⟩) (pu_pre hP hK (ci := 7) (q0 := 0) rfl rfl) rfl rfl hl.1 rfl (lv_room (Nat.le_of_ble_eq_true rfl)) dX8_cost_119 ⟨Nat.le_of_ble_eq_true rfl, Nat.le_of_ble_eq_true rfl⟩) ?_
                refine lv_topi (fun r26 (e26 : r26 = rM_stored n F a1 a2) => ?_)
                exact jn16 _ (by subst e26 e15 e13; exact ((if_pos h_25)).symm)
              · skip
                refine lv_sipush (v := 1000) hx hb dX8_cost_110 (by decide) ?_
                refine lv_goto (tgt := 122) hx hb dX8_cost_113 (by decide) ?_
                exact jn16 _ (by subst e15 e13; exact ((if_neg h_25)).symm)
            · skip
              refine lv_iconst (v := (-1)) hx hb dX8_cost_93 (by decide) ?_
              have hq27 : rM_cost n F a1 a2 a3 a4 a5 = (-1) := by subst e13; exact (if_neg h_1).trans ((if_neg h_3).trans ((if_neg h_5).trans ((if_neg h_7).trans ((if_neg h_9).trans (if_neg h_14)))))
              exact W.iret (v := (-1)) hx hb hr (fun t ht hW => ⟨by rw [hq27], ht⟩) (fun q h => by cases h) dX8_cost_94
          · skip
            refine lv_iconst (v := (-1)) hx hb dX8_cost_47 (by decide) ?_
            have hq28 : rM_cost n F a1 a2 a3 a4 a5 = (-1) := by exact (if_neg h_1).trans ((if_neg h_3).trans ((if_neg h_5).trans ((if_neg h_7).trans (if_pos h_9))))
            exact W.iret (v := (-1)) hx hb hr (fun t ht hW => ⟨by rw [hq28], ht⟩) (fun q h => by cases h) dX8_cost_48

set_option maxHeartbeats 8000000 in
set_option maxRecDepth 100000 in
theorem k_X8_indent (l : Launch) (dC : Nat → ClassId) (dI : Nat → Nat → Nat) (h0 : Nat) (q n : Nat → Nat) (cI cZ : ClassId) (F : Nat → Nat → Int32) (hI : mi_ n F) (hN : nb_ n) (a1 : Int32) (a2 : Int32) (a3 : Int32) (a4 : Int32) : Met l yX8_indent wsX8_indent ({ frames := 3, cells := 0, slots := 0, locals := 72 }) (va_Pc [.ref h0, .int a1, .int a2, .int a3, .int a4] (pu_P (dC, dI) vwCl (mt_ cI cZ) (mw_ h0 q n (F 44 0) cI cZ F))) (pu_Q (.int (rM_indent n F a1 a2 a3 a4))) 0 0 pu_F := by
  refine Met.ofW (cc := cX8_indent) (maxL := 8) (ret := (some .int)) (by decide) rfl ?_
  intro p e s m args below meth c s₁ B hml hv
  obtain ⟨rfl, hP, hK⟩ := hv
  have hx := B.exec
  have hb := B.bytes
  have hr := B.returns
  have hts := atoms_spec (ws := wsX8_indent) B.pre
  have hown : s.vm.findClass RX8 = some m.cls := findClass_of_methodNamed B.named
  have hlocks := B.notSynchronized
  have hl := lv_entry ([.ref h0, .int a1, .int a2, .int a3, .int a4]) (n := 8) (Nat.le_of_ble_eq_true rfl)
  rw [lg_entry_eq]
  generalize (lg_sl ([.ref h0, .int a1, .int a2, .int a3, .int a4]) ++ List.replicate (8 - (lg_sl ([.ref h0, .int a1, .int a2, .int a3, .int a4])).length) Slot.unset).toArray = ls at hl ⊢
  have hl : lv_has ls 8 [(0, .ref h0), (1, .int a1), (2, .int a2), (3, .int a3), (4, .int a4)] := hl
  refine lv_iconst (v := (-1)) hx hb dX8_indent_0 (by decide) ?_
  refine lv_istore (lv' := [(5, .int (-1)), (0, .ref h0), (1, .int a1), (2, .int a2), (3, .int a3), (4, .int a4)]) hx hb dX8_indent_1 hl (by decide) rfl (fun ls hl => ?_)
  refine lv_iconst (v := 0) hx hb dX8_indent_3 (by decide) ?_
  refine lv_istore (lv' := [(6, .int 0), (5, .int (-1)), (0, .ref h0), (1, .int a1), (2, .int a2), (3, .int a3), (4, .int a4)]) hx hb dX8_indent_4 hl (by decide) rfl (fun ls hl => ?_)
  have key6 : ∀ (k jL6 : Nat) (xL6_5 : Int32) (ls : Array Slot), jL6 + k = 21 → rM_indent n F a1 a2 a3 a4 = (rM_indent_L6 n F a1 a2 a3 a4 k jL6 xL6_5) → lv_has ls 8 [(6, .int (nI jL6)), (5, .int xL6_5), (0, .ref h0), (1, .int a1), (2, .int a2), (3, .int a3), (4, .int a4)] → 
      W p l e (headSpec wsX8_indent ({ frames := 3, cells := 0, slots := 0, locals := 72 })).room s m [.ref h0, .int a1, .int a2, .int a3, .int a4].toArray below meth c s.heap [] 0 0 (MQ below (pu_Q (.int (rM_indent n F a1 a2 a3 a4))) [.ref h0, .int a1, .int a2, .int a3, .int a4].toArray s 0 0 pu_F) (F0 m 6 ls []) := by
    intro k
    induction k with
    | zero =>
      intro jL6 xL6_5 ls hj hE6 hl
      have hj : jL6 = 21 := by omega
      subst jL6
      refine lv_iload hx hb dX8_indent_6 (lv_at hl 0 rfl) ?_
      refine lv_bipush (v := 21) hx hb dX8_indent_8 (by decide) ?_
      refine lv_icmp_ge (tgt := 66) hx hb dX8_indent_10 (by decide) (fun h_1 => ?_) (fun h_1 => absurd (lp_ge0 (B := 21) rfl) h_1)
      refine lv_iload hx hb dX8_indent_66 (lv_at hl 1 rfl) ?_
      have hq2 : rM_indent n F a1 a2 a3 a4 = xL6_5 := by exact hE6
      exact W.iret (v := xL6_5) hx hb hr (fun t ht hW => ⟨by rw [hq2], ht⟩) (fun q h => by cases h) dX8_indent_68
    | succ k ih6 =>
      intro jL6 xL6_5 ls hj hE6 hl
      have hj6 : jL6 < 21 := by omega
      refine lv_iload hx hb dX8_indent_6 (lv_at hl 0 rfl) ?_
      refine lv_bipush (v := 21) hx hb dX8_indent_8 (by decide) ?_
      refine lv_icmp_ge (tgt := 66) hx hb dX8_indent_10 (by decide) (fun h_3 => absurd h_3 (lp_ge (B := 21) (by omega) (by omega) rfl)) (fun h_3 => ?_)
      refine lv_aload_n hx hb dX8_indent_13 rfl (lv_at hl 2 rfl) ?_
      refine lv_iload_n hx hb dX8_indent_14 rfl (lv_at hl 3 rfl) ?_
      refine lv_iload_n hx hb dX8_indent_15 rfl (lv_at hl 4 rfl) ?_
      refine lv_iload_n hx hb dX8_indent_16 rfl (lv_at hl 5 rfl) ?_
      refine lv_iload hx hb dX8_indent_17 (lv_at hl 6 rfl) ?_
      refine lv_iload hx hb dX8_indent_19 (lv_at hl 0 rfl) ?_
      refine pu_call (va_runV (As := [.int a1, .int a2, .int a3, .int a4, .int (nI jL6)]) (rest := []) ⟨hx, hb, hml, hown, hts⟩ (k_X8_cost l dC dI h0 q n cI cZ F hI hN a1 a2 a3 a4 (nI jL6)) (cwV 5 hts gX8_indent_X8_cost rfl rfl rfl (by decide +kernel) ⟨Nat.le_of_ble_eq_true rfl, Nat.le_of_ble_eq_true rfl⟩) (pu_pre hP hK (ci := 7) (q0 := 0) rfl rfl) rfl rfl hl.1 rfl (lv_room (Nat.le_of_ble_eq_true rfl)) dX8_indent_21 ⟨Nat.le_of_ble_eq_true rfl, Nat.le_of_ble_eq_true rfl⟩) ?_
      refine lv_topi (fun r4 (e4 : r4 = rM_cost n F a1 a2 a3 a4 (nI jL6)) => ?_)
      refine lv_istore (lv' := [(7, .int r4), (6, .int (nI jL6)), (5, .int xL6_5), (0, .ref h0), (1, .int a1), (2, .int a2), (3, .int a3), (4, .int a4)]) hx hb dX8_indent_24 hl (by decide) rfl (fun ls hl => ?_)
      refine lv_iload hx hb dX8_indent_26 (lv_at hl 0 rfl) ?_
      refine lv_iconst (v := (-1)) hx hb dX8_indent_28 (by decide) ?_
      refine lv_icmp_ne (tgt := 34) hx hb dX8_indent_29 (by decide) (fun h_5 => ?_) (fun h_5 => ?_)
      · skip
        refine lv_iload hx hb dX8_indent_34 (lv_at hl 2 rfl) ?_
        refine lv_iconst (v := (-1)) hx hb dX8_indent_36 (by decide) ?_
        refine lv_icmp_eq (tgt := 56) hx hb dX8_indent_37 (by decide) (fun h_6 => ?_) (fun h_6 => ?_)
        · skip
          refine lv_iload hx hb dX8_indent_56 (lv_at hl 1 rfl) ?_
          refine lv_istore (lv' := [(5, .int (nI jL6)), (7, .int r4), (6, .int (nI jL6)), (0, .ref h0), (1, .int a1), (2, .int a2), (3, .int a3), (4, .int a4)]) hx hb dX8_indent_58 hl (by decide) rfl (fun ls hl => ?_)
          refine lv_iinc (v := (nI (jL6 + 1))) (lv' := [(6, .int (nI (jL6 + 1))), (5, .int (nI jL6)), (7, .int r4), (0, .ref h0), (1, .int a1), (2, .int a2), (3, .int a3), (4, .int a4)]) hx hb dX8_indent_60 hl (k := 2) rfl (show nI jL6 + 1 = nI (jL6 + 1) from nI_1 jL6) (by decide) rfl (fun ls hl => ?_)
          refine lv_goto (tgt := 6) hx hb dX8_indent_63 (by decide) ?_
          exact ih6 (jL6 + 1) (nI jL6) ls (by omega) (by subst e4; exact hE6.trans ((if_neg h_5).trans (if_pos h_6))) (lv_sub hl [0, 1, 3, 4, 5, 6, 7] rfl)
        · skip
          refine lv_iload hx hb dX8_indent_40 (lv_at hl 0 rfl) ?_
          refine lv_aload_n hx hb dX8_indent_42 rfl (lv_at hl 3 rfl) ?_
          refine lv_iload_n hx hb dX8_indent_43 rfl (lv_at hl 4 rfl) ?_
          refine lv_iload_n hx hb dX8_indent_44 rfl (lv_at hl 5 rfl) ?_
          refine lv_iload_n hx hb dX8_indent_45 rfl (lv_at hl 6 rfl) ?_
          refine lv_iload hx hb dX8_indent_46 (lv_at hl 7 rfl) ?_
          refine lv_iload hx hb dX8_indent_48 (lv_at hl 2 rfl) ?_
          refine pu_call (va_runV (As := [.int a1, .int a2, .int a3, .int a4, .int xL6_5]) (rest := [.int r4]) ⟨hx, hb, hml, hown, hts⟩ (k_X8_cost l dC dI h0 q n cI cZ F hI hN a1 a2 a3 a4 xL6_5) (cwV 5 hts gX8_indent_X8_cost rfl rfl rfl (by decide +kernel) ⟨Nat.le_of_ble_eq_true rfl, Nat.le_of_ble_eq_true rfl⟩) (pu_pre hP hK (ci := 7) (q0 := 0) rfl rfl) rfl rfl hl.1 rfl (lv_room (Nat.le_of_ble_eq_true rfl)) dX8_indent_50 ⟨Nat.le_of_ble_eq_true rfl, Nat.le_of_ble_eq_true rfl⟩) ?_
          refine lv_topi (fun r7 (e7 : r7 = rM_cost n F a1 a2 a3 a4 xL6_5) => ?_)
          refine lv_icmp_ge (tgt := 60) hx hb dX8_indent_53 (by decide) (fun h_8 => ?_) (fun h_8 => ?_)
          · skip
            refine lv_iinc (v := (nI (jL6 + 1))) (lv' := [(6, .int (nI (jL6 + 1))), (7, .int r4), (5, .int xL6_5), (0, .ref h0), (1, .int a1), (2, .int a2), (3, .int a3), (4, .int a4)]) hx hb dX8_indent_60 hl (k := 1) rfl (show nI jL6 + 1 = nI (jL6 + 1) from nI_1 jL6) (by decide) rfl (fun ls hl => ?_)
            refine lv_goto (tgt := 6) hx hb dX8_indent_63 (by decide) ?_
            exact ih6 (jL6 + 1) xL6_5 ls (by omega) (by subst e7 e4; exact hE6.trans ((if_neg h_5).trans ((if_neg h_6).trans (if_pos h_8)))) (lv_sub hl [0, 2, 3, 4, 5, 6, 7] rfl)
          · skip
            refine lv_iload hx hb dX8_indent_56 (lv_at hl 1 rfl) ?_
            refine lv_istore (lv' := [(5, .int (nI jL6)), (7, .int r4), (6, .int (nI jL6)), (0, .ref h0), (1, .int a1), (2, .int a2), (3, .int a3), (4, .int a4)]) hx hb dX8_indent_58 hl (by decide) rfl (fun ls hl => ?_)
            refine lv_iinc (v := (nI (jL6 + 1))) (lv' := [(6, .int (nI (jL6 + 1))), (5, .int (nI jL6)), (7, .int r4), (0, .ref h0), (1, .int a1), (2, .int a2), (3, .int a3), (4, .int a4)]) hx hb dX8_indent_60 hl (k := 2) rfl (show nI jL6 + 1 = nI (jL6 + 1) from nI_1 jL6) (by decide) rfl (fun ls hl => ?_)
            refine lv_goto (tgt := 6) hx hb dX8_indent_63 (by decide) ?_
            exact ih6 (jL6 + 1) (nI jL6) ls (by omega) (by subst e7 e4; exact hE6.trans ((if_neg h_5).trans ((if_neg h_6).trans (if_neg h_8)))) (lv_sub hl [0, 1, 3, 4, 5, 6, 7] rfl)
      · skip
        refine lv_iconst (v := (-1)) hx hb dX8_indent_32 (by decide) ?_
        have hq9 : rM_indent n F a1 a2 a3 a4 = (-1) := by subst e4; exact hE6.trans (if_pos h_5)
        exact W.iret (v := (-1)) hx hb hr (fun t ht hW => ⟨by rw [hq9], ht⟩) (fun q h => by cases h) dX8_indent_33
  exact key6 21 0 (-1) ls (by omega) (by exact rfl) (lv_sub hl [0, 1, 2, 3, 4, 5, 6] rfl)

set_option maxHeartbeats 8000000 in
set_option maxRecDepth 100000 in
theorem k_X8_quarrel (l : Launch) (dC : Nat → ClassId) (dI : Nat → Nat → Nat) (h0 : Nat) (q n : Nat → Nat) (cI cZ : ClassId) (F : Nat → Nat → Int32) (hI : mi_ n F) (hN : nb_ n) (a1 : Int32) (a2 : Int32) : Met l yX8_quarrel wsX8_quarrel ({ frames := 2, cells := 0, slots := 0, locals := 43 }) (va_Pc [.ref h0, .int a1, .int a2] (pu_P (dC, dI) vwCl (mt_ cI cZ) (mw_ h0 q n (F 44 0) cI cZ F))) (pu_Q (.int (rM_quarrel n F a1 a2))) 0 0 pu_F := by
  refine Met.ofW (cc := cX8_quarrel) (maxL := 5) (ret := (some .int)) (by decide) rfl ?_
  intro p e s m args below meth c s₁ B hml hv
  obtain ⟨rfl, hP, hK⟩ := hv
  have hx := B.exec
  have hb := B.bytes
  have hr := B.returns
  have hts := atoms_spec (ws := wsX8_quarrel) B.pre
  have hown : s.vm.findClass RX8 = some m.cls := findClass_of_methodNamed B.named
  have hlocks := B.notSynchronized
  have hinX8 : ∀ w ∈ u_ws RX8 TX8 37, w ∈ wsX8_quarrel := by decide +kernel
  have hl := lv_entry ([.ref h0, .int a1, .int a2]) (n := 5) (Nat.le_of_ble_eq_true rfl)
  rw [lg_entry_eq]
  generalize (lg_sl ([.ref h0, .int a1, .int a2]) ++ List.replicate (5 - (lg_sl ([.ref h0, .int a1, .int a2])).length) Slot.unset).toArray = ls at hl ⊢
  have hl : lv_has ls 5 [(0, .ref h0), (1, .int a1), (2, .int a2)] := hl
  refine lv_aload_n hx hb dX8_quarrel_0 rfl (lv_at hl 0 rfl) ?_
  refine lv_iload_n hx hb dX8_quarrel_1 rfl (lv_at hl 1 rfl) ?_
  refine pu_call (va_runV (As := [.int a1]) (rest := []) ⟨hx, hb, hml, hown, hts⟩ (k_X8_isPost l dC dI h0 q n cI cZ F hI hN a1) (cwV 1 hts gX8_quarrel_X8_isPost rfl rfl rfl (by decide +kernel) ⟨Nat.le_of_ble_eq_true rfl, Nat.le_of_ble_eq_true rfl⟩) (pu_pre hP hK (ci := 7) (q0 := 0) rfl rfl) rfl rfl hl.1 rfl (lv_room (Nat.le_of_ble_eq_true rfl)) dX8_quarrel_2 ⟨Nat.le_of_ble_eq_true rfl, Nat.le_of_ble_eq_true rfl⟩) ?_
  rw [show rM_isPost n F a1 = (sp_in a1 0 ((nI (n 1)) - 1)) from rfl]
  refine lv_if_eq (tgt := 16) hx hb dX8_quarrel_5 (by decide) (fun h_1 => ?_) (fun h_1 => ?_)
  · skip
    refine lv_iconst (v := (-1)) hx hb dX8_quarrel_16 (by decide) ?_
    have hq2 : rM_quarrel n F a1 a2 = (-1) := by exact (if_pos h_1)
    exact W.iret (v := (-1)) hx hb hr (fun t ht hW => ⟨by rw [hq2], ht⟩) (fun q h => by cases h) dX8_quarrel_17
  · skip
    refine lv_aload_n hx hb dX8_quarrel_8 rfl (lv_at hl 0 rfl) ?_
    refine lv_iload_n hx hb dX8_quarrel_9 rfl (lv_at hl 2 rfl) ?_
    refine pu_call (va_runV (As := [.int a2]) (rest := []) ⟨hx, hb, hml, hown, hts⟩ (k_X8_isPost l dC dI h0 q n cI cZ F hI hN a2) (cwV 1 hts gX8_quarrel_X8_isPost rfl rfl rfl (by decide +kernel) ⟨Nat.le_of_ble_eq_true rfl, Nat.le_of_ble_eq_true rfl⟩) (pu_pre hP hK (ci := 7) (q0 := 0) rfl rfl) rfl rfl hl.1 rfl (lv_room (Nat.le_of_ble_eq_true rfl)) dX8_quarrel_10 ⟨Nat.le_of_ble_eq_true rfl, Nat.le_of_ble_eq_true rfl⟩) ?_
    rw [show rM_isPost n F a2 = (sp_in a2 0 ((nI (n 1)) - 1)) from rfl]
    refine lv_if_ne (tgt := 18) hx hb dX8_quarrel_13 (by decide) (fun h_3 => ?_) (fun h_3 => ?_)
    · skip
      refine lv_iconst (v := 0) hx hb dX8_quarrel_18 (by decide) ?_
      refine lv_istore_n (lv' := [(3, .int 0), (0, .ref h0), (1, .int a1), (2, .int a2)]) hx hb dX8_quarrel_19 rfl hl (by decide) rfl (fun ls hl => ?_)
      have key20 : ∀ (k jL20 : Nat) (ls : Array Slot), jL20 + k = (n 3) → rM_quarrel n F a1 a2 = (rM_quarrel_L20 F a1 a2 k jL20) → lv_has ls 5 [(3, .int (nI jL20)), (0, .ref h0), (1, .int a1), (2, .int a2)] → 
          W p l e (headSpec wsX8_quarrel ({ frames := 2, cells := 0, slots := 0, locals := 43 })).room s m [.ref h0, .int a1, .int a2].toArray below meth c s.heap [] 0 0 (MQ below (pu_Q (.int (rM_quarrel n F a1 a2))) [.ref h0, .int a1, .int a2].toArray s 0 0 pu_F) (F0 m 20 ls []) := by
        intro k
        induction k with
        | zero =>
          intro jL20 ls hj hE20 hl
          have hj : jL20 = (n 3) := by omega
          subst jL20
          refine lv_iload_n hx hb dX8_quarrel_20 rfl (lv_at hl 0 rfl) ?_
          refine lv_aload_n hx hb dX8_quarrel_21 rfl (lv_at hl 1 rfl) ?_
          refine va_get (D := (dC, dI)) (ci := 7) (v := .int (nI (n 3))) (C := RX8) (T := TX8) (N := 37) hx hb hts hinX8 hown hK hP 0 rfl rfl 13 (by decide) (hts (.fieldLink RX8 112 "FurPostsModel" "canoes" "I") (by decide +kernel)) (fun _ h9 => h9) rfl dX8_quarrel_22 ?_
          refine lv_icmp_ge (tgt := 117) hx hb dX8_quarrel_25 (by decide) (fun h_4 => ?_) (fun h_4 => absurd (lp_ge0 (B := (n 3)) rfl) h_4)
          refine lv_iconst (v := (-1)) hx hb dX8_quarrel_117 (by decide) ?_
          have hq5 : rM_quarrel n F a1 a2 = (-1) := by exact hE20
          exact W.iret (v := (-1)) hx hb hr (fun t ht hW => ⟨by rw [hq5], ht⟩) (fun q h => by cases h) dX8_quarrel_118
        | succ k ih20 =>
          intro jL20 ls hj hE20 hl
          have hj20 : jL20 < (n 3) := by omega
          refine lv_iload_n hx hb dX8_quarrel_20 rfl (lv_at hl 0 rfl) ?_
          refine lv_aload_n hx hb dX8_quarrel_21 rfl (lv_at hl 1 rfl) ?_
          refine va_get (D := (dC, dI)) (ci := 7) (v := .int (nI (n 3))) (C := RX8) (T := TX8) (N := 37) hx hb hts hinX8 hown hK hP 0 rfl rfl 13 (by decide) (hts (.fieldLink RX8 112 "FurPostsModel" "canoes" "I") (by decide +kernel)) (fun _ h9 => h9) rfl dX8_quarrel_22 ?_
          refine lv_icmp_ge (tgt := 117) hx hb dX8_quarrel_25 (by decide) (fun h_6 => absurd h_6 (lp_ge (B := (n 3)) (by omega) (by omega) rfl)) (fun h_6 => ?_)
          refine lv_aload_n hx hb dX8_quarrel_28 rfl (lv_at hl 1 rfl) ?_
          refine va_get (D := (dC, dI)) (ci := 7) (v := .ref (q 14)) (C := RX8) (T := TX8) (N := 37) hx hb hts hinX8 hown hK hP 0 rfl rfl 14 (by decide) (hts (.fieldLink RX8 40 "FurPostsModel" "from" "[I") (by decide +kernel)) (fun _ h9 => h9) rfl dX8_quarrel_29 ?_
          refine lv_iload_n hx hb dX8_quarrel_32 rfl (lv_at hl 0 rfl) ?_
          refine va_iald hx hb hK hP 11 0 rfl rfl (i := (nI jL20)) (vp_in_nI (show jL20 < 120 by omega) (by decide)) dX8_quarrel_33 ?_
          refine lv_topi (fun v7 (e7 : v7 = F 14 (nI jL20).toNatClampNeg) => ?_)
          rw [(nI_clamp (by omega))] at e7
          refine lv_iload_n hx hb dX8_quarrel_34 rfl (lv_at hl 2 rfl) ?_
          refine lv_icmp_ne (tgt := 48) hx hb dX8_quarrel_35 (by decide) (fun h_8 => ?_) (fun h_8 => ?_)
          · skip
            refine lv_aload_n hx hb dX8_quarrel_48 rfl (lv_at hl 1 rfl) ?_
            refine va_get (D := (dC, dI)) (ci := 7) (v := .ref (q 14)) (C := RX8) (T := TX8) (N := 37) hx hb hts hinX8 hown hK hP 0 rfl rfl 14 (by decide) (hts (.fieldLink RX8 40 "FurPostsModel" "from" "[I") (by decide +kernel)) (fun _ h9 => h9) rfl dX8_quarrel_49 ?_
            refine lv_iload_n hx hb dX8_quarrel_52 rfl (lv_at hl 0 rfl) ?_
            refine va_iald hx hb hK hP 11 0 rfl rfl (i := (nI jL20)) (vp_in_nI (show jL20 < 120 by omega) (by decide)) dX8_quarrel_53 ?_
            refine lv_topi (fun v9 (e9 : v9 = F 14 (nI jL20).toNatClampNeg) => ?_)
            rw [(nI_clamp (by omega))] at e9
            refine lv_iload_n hx hb dX8_quarrel_54 rfl (lv_at hl 3 rfl) ?_
            refine lv_icmp_ne (tgt := 72) hx hb dX8_quarrel_55 (by decide) (fun h_10 => ?_) (fun h_10 => ?_)
            · skip
              refine lv_iconst (v := 0) hx hb dX8_quarrel_72 (by decide) ?_
              refine lv_istore (lv' := [(4, .int 0), (3, .int (nI jL20)), (0, .ref h0), (1, .int a1), (2, .int a2)]) hx hb dX8_quarrel_73 hl (by decide) rfl (fun ls hl => ?_)
              refine lv_iload hx hb dX8_quarrel_75 (lv_at hl 0 rfl) ?_
              refine lv_if_eq (tgt := 111) hx hb dX8_quarrel_77 (by decide) (fun h_11 => ?_) (fun h_11 => absurd (by decide) h_11)
              refine lv_iinc (v := (nI (jL20 + 1))) (lv' := [(3, .int (nI (jL20 + 1))), (4, .int 0), (0, .ref h0), (1, .int a1), (2, .int a2)]) hx hb dX8_quarrel_111 hl (k := 1) rfl (show nI jL20 + 1 = nI (jL20 + 1) from nI_1 jL20) (by decide) rfl (fun ls hl => ?_)
              refine lv_goto (tgt := 20) hx hb dX8_quarrel_114 (by decide) ?_
              exact ih20 (jL20 + 1) ls (by omega) (by subst e9 e7; exact hE20.trans ((if_neg h_8).trans (if_neg h_10))) (lv_sub hl [0, 2, 3, 4] rfl)
            · skip
              refine lv_aload_n hx hb dX8_quarrel_58 rfl (lv_at hl 1 rfl) ?_
              refine va_get (D := (dC, dI)) (ci := 7) (v := .ref (q 15)) (C := RX8) (T := TX8) (N := 37) hx hb hts hinX8 hown hK hP 0 rfl rfl 15 (by decide) (hts (.fieldLink RX8 43 "FurPostsModel" "to" "[I") (by decide +kernel)) (fun _ h9 => h9) rfl dX8_quarrel_59 ?_
              refine lv_iload_n hx hb dX8_quarrel_62 rfl (lv_at hl 0 rfl) ?_
              refine va_iald hx hb hK hP 12 0 rfl rfl (i := (nI jL20)) (vp_in_nI (show jL20 < 120 by omega) (by decide)) dX8_quarrel_63 ?_
              refine lv_topi (fun v12 (e12 : v12 = F 15 (nI jL20).toNatClampNeg) => ?_)
              rw [(nI_clamp (by omega))] at e12
              refine lv_iload_n hx hb dX8_quarrel_64 rfl (lv_at hl 2 rfl) ?_
              refine lv_icmp_ne (tgt := 72) hx hb dX8_quarrel_65 (by decide) (fun h_13 => ?_) (fun h_13 => ?_)
              · skip
                refine lv_iconst (v := 0) hx hb dX8_quarrel_72 (by decide) ?_
                refine lv_istore (lv' := [(4, .int 0), (3, .int (nI jL20)), (0, .ref h0), (1, .int a1), (2, .int a2)]) hx hb dX8_quarrel_73 hl (by decide) rfl (fun ls hl => ?_)
                refine lv_iload hx hb dX8_quarrel_75 (lv_at hl 0 rfl) ?_
                refine lv_if_eq (tgt := 111) hx hb dX8_quarrel_77 (by decide) (fun h_14 => ?_) (fun h_14 => absurd (by decide) h_14)
                refine lv_iinc (v := (nI (jL20 + 1))) (lv' := [(3, .int (nI (jL20 + 1))), (4, .int 0), (0, .ref h0), (1, .int a1), (2, .int a2)]) hx hb dX8_quarrel_111 hl (k := 1) rfl (show nI jL20 + 1 = nI (jL20 + 1) from nI_1 jL20) (by decide) rfl (fun ls hl => ?_)
                refine lv_goto (tgt := 20) hx hb dX8_quarrel_114 (by decide) ?_
                exact ih20 (jL20 + 1) ls (by omega) (by subst e12 e9 e7; exact hE20.trans ((if_neg h_8).trans ((if_pos h_10).trans (if_neg h_13)))) (lv_sub hl [0, 2, 3, 4] rfl)
              · skip
                refine lv_iconst (v := 1) hx hb dX8_quarrel_68 (by decide) ?_
                refine lv_goto (tgt := 73) hx hb dX8_quarrel_69 (by decide) ?_
                refine lv_istore (lv' := [(4, .int 1), (3, .int (nI jL20)), (0, .ref h0), (1, .int a1), (2, .int a2)]) hx hb dX8_quarrel_73 hl (by decide) rfl (fun ls hl => ?_)
                refine lv_iload hx hb dX8_quarrel_75 (lv_at hl 0 rfl) ?_
                refine lv_if_eq (tgt := 111) hx hb dX8_quarrel_77 (by decide) (fun h_15 => absurd h_15 (by decide)) (fun h_15 => ?_)
                refine lv_aload_n hx hb dX8_quarrel_80 rfl (lv_at hl 2 rfl) ?_
                refine va_get (D := (dC, dI)) (ci := 7) (v := .ref (q 18)) (C := RX8) (T := TX8) (N := 37) hx hb hts hinX8 hown hK hP 0 rfl rfl 18 (by decide) (hts (.fieldLink RX8 52 "FurPostsModel" "state" "[I") (by decide +kernel)) (fun _ h9 => h9) rfl dX8_quarrel_81 ?_
                refine lv_iload_n hx hb dX8_quarrel_84 rfl (lv_at hl 1 rfl) ?_
                refine va_iald hx hb hK hP 15 0 rfl rfl (i := (nI jL20)) (vp_in_nI (show jL20 < 120 by omega) (by decide)) dX8_quarrel_85 ?_
                refine lv_topi (fun v16 (e16 : v16 = F 18 (nI jL20).toNatClampNeg) => ?_)
                rw [(nI_clamp (by omega))] at e16
                refine lv_iconst (v := 2) hx hb dX8_quarrel_86 (by decide) ?_
                refine lv_icmp_eq (tgt := 109) hx hb dX8_quarrel_87 (by decide) (fun h_17 => ?_) (fun h_17 => ?_)
                · skip
                  refine lv_iload_n hx hb dX8_quarrel_109 rfl (lv_at hl 1 rfl) ?_
                  have hq18 : rM_quarrel n F a1 a2 = (nI jL20) := by subst e16 e12 e9 e7; exact hE20.trans ((if_neg h_8).trans ((if_pos h_10).trans ((if_pos h_13).trans (if_pos h_17))))
                  exact W.iret (v := (nI jL20)) hx hb hr (fun t ht hW => ⟨by rw [hq18], ht⟩) (fun q h => by cases h) dX8_quarrel_110
                · skip
                  refine lv_aload_n hx hb dX8_quarrel_90 rfl (lv_at hl 2 rfl) ?_
                  refine va_get (D := (dC, dI)) (ci := 7) (v := .ref (q 18)) (C := RX8) (T := TX8) (N := 37) hx hb hts hinX8 hown hK hP 0 rfl rfl 18 (by decide) (hts (.fieldLink RX8 52 "FurPostsModel" "state" "[I") (by decide +kernel)) (fun _ h9 => h9) rfl dX8_quarrel_91 ?_
                  refine lv_iload_n hx hb dX8_quarrel_94 rfl (lv_at hl 1 rfl) ?_
                  refine va_iald hx hb hK hP 15 0 rfl rfl (i := (nI jL20)) (vp_in_nI (show jL20 < 120 by omega) (by decide)) dX8_quarrel_95 ?_
                  refine lv_topi (fun v19 (e19 : v19 = F 18 (nI jL20).toNatClampNeg) => ?_)
                  rw [(nI_clamp (by omega))] at e19
                  refine lv_iconst (v := 1) hx hb dX8_quarrel_96 (by decide) ?_
                  refine lv_icmp_ne (tgt := 111) hx hb dX8_quarrel_97 (by decide) (fun h_20 => ?_) (fun h_20 => ?_)
                  · skip
                    refine lv_iinc (v := (nI (jL20 + 1))) (lv' := [(3, .int (nI (jL20 + 1))), (4, .int 1), (0, .ref h0), (1, .int a1), (2, .int a2)]) hx hb dX8_quarrel_111 hl (k := 1) rfl (show nI jL20 + 1 = nI (jL20 + 1) from nI_1 jL20) (by decide) rfl (fun ls hl => ?_)
                    refine lv_goto (tgt := 20) hx hb dX8_quarrel_114 (by decide) ?_
                    exact ih20 (jL20 + 1) ls (by omega) (by subst e19 e16 e12 e9 e7; exact hE20.trans ((if_neg h_8).trans ((if_pos h_10).trans ((if_pos h_13).trans ((if_neg h_17).trans (if_neg h_20)))))) (lv_sub hl [0, 2, 3, 4] rfl)
                  · skip
                    refine lv_aload_n hx hb dX8_quarrel_100 rfl (lv_at hl 2 rfl) ?_
                    refine va_get (D := (dC, dI)) (ci := 7) (v := .ref (q 24)) (C := RX8) (T := TX8) (N := 37) hx hb hts hinX8 hown hK hP 0 rfl rfl 24 (by decide) (hts (.fieldLink RX8 70 "FurPostsModel" "isOther" "[Z") (by decide +kernel)) (fun _ h9 => h9) rfl dX8_quarrel_101 ?_
                    refine lv_iload_n hx hb dX8_quarrel_104 rfl (lv_at hl 1 rfl) ?_
                    refine va_zald hx hb hK hP 21 1 rfl rfl (i := (nI jL20)) (vp_in_nI (show jL20 < 120 by omega) (by decide)) dX8_quarrel_105 ?_
                    refine lv_topi (fun v21 (e21 : v21 = F 24 (nI jL20).toNatClampNeg) => ?_)
                    rw [(nI_clamp (by omega))] at e21
                    refine lv_if_eq (tgt := 111) hx hb dX8_quarrel_106 (by decide) (fun h_22 => ?_) (fun h_22 => ?_)
                    · skip
                      refine lv_iinc (v := (nI (jL20 + 1))) (lv' := [(3, .int (nI (jL20 + 1))), (4, .int 1), (0, .ref h0), (1, .int a1), (2, .int a2)]) hx hb dX8_quarrel_111 hl (k := 1) rfl (show nI jL20 + 1 = nI (jL20 + 1) from nI_1 jL20) (by decide) rfl (fun ls hl => ?_)
                      refine lv_goto (tgt := 20) hx hb dX8_quarrel_114 (by decide) ?_
                      exact ih20 (jL20 + 1) ls (by omega) (by subst e21 e19 e16 e12 e9 e7; exact hE20.trans ((if_neg h_8).trans ((if_pos h_10).trans ((if_pos h_13).trans ((if_neg h_17).trans ((if_pos h_20).trans (if_pos h_22))))))) (lv_sub hl [0, 2, 3, 4] rfl)
                    · skip
                      refine lv_iload_n hx hb dX8_quarrel_109 rfl (lv_at hl 1 rfl) ?_
                      have hq23 : rM_quarrel n F a1 a2 = (nI jL20) := by subst e21 e19 e16 e12 e9 e7; exact hE20.trans ((if_neg h_8).trans ((if_pos h_10).trans ((if_pos h_13).trans ((if_neg h_17).trans ((if_pos h_20).trans (if_neg h_22))))))
                      exact W.iret (v := (nI jL20)) hx hb hr (fun t ht hW => ⟨by rw [hq23], ht⟩) (fun q h => by cases h) dX8_quarrel_110
          · skip
            refine lv_aload_n hx hb dX8_quarrel_38 rfl (lv_at hl 1 rfl) ?_
            refine va_get (D := (dC, dI)) (ci := 7) (v := .ref (q 15)) (C := RX8) (T := TX8) (N := 37) hx hb hts hinX8 hown hK hP 0 rfl rfl 15 (by decide) (hts (.fieldLink RX8 43 "FurPostsModel" "to" "[I") (by decide +kernel)) (fun _ h9 => h9) rfl dX8_quarrel_39 ?_
            refine lv_iload_n hx hb dX8_quarrel_42 rfl (lv_at hl 0 rfl) ?_
            refine va_iald hx hb hK hP 12 0 rfl rfl (i := (nI jL20)) (vp_in_nI (show jL20 < 120 by omega) (by decide)) dX8_quarrel_43 ?_
            refine lv_topi (fun v24 (e24 : v24 = F 15 (nI jL20).toNatClampNeg) => ?_)
            rw [(nI_clamp (by omega))] at e24
            refine lv_iload_n hx hb dX8_quarrel_44 rfl (lv_at hl 3 rfl) ?_
            refine lv_icmp_eq (tgt := 68) hx hb dX8_quarrel_45 (by decide) (fun h_25 => ?_) (fun h_25 => ?_)
            · skip
              refine lv_iconst (v := 1) hx hb dX8_quarrel_68 (by decide) ?_
              refine lv_goto (tgt := 73) hx hb dX8_quarrel_69 (by decide) ?_
              refine lv_istore (lv' := [(4, .int 1), (3, .int (nI jL20)), (0, .ref h0), (1, .int a1), (2, .int a2)]) hx hb dX8_quarrel_73 hl (by decide) rfl (fun ls hl => ?_)
              refine lv_iload hx hb dX8_quarrel_75 (lv_at hl 0 rfl) ?_
              refine lv_if_eq (tgt := 111) hx hb dX8_quarrel_77 (by decide) (fun h_26 => absurd h_26 (by decide)) (fun h_26 => ?_)
              refine lv_aload_n hx hb dX8_quarrel_80 rfl (lv_at hl 2 rfl) ?_
              refine va_get (D := (dC, dI)) (ci := 7) (v := .ref (q 18)) (C := RX8) (T := TX8) (N := 37) hx hb hts hinX8 hown hK hP 0 rfl rfl 18 (by decide) (hts (.fieldLink RX8 52 "FurPostsModel" "state" "[I") (by decide +kernel)) (fun _ h9 => h9) rfl dX8_quarrel_81 ?_
              refine lv_iload_n hx hb dX8_quarrel_84 rfl (lv_at hl 1 rfl) ?_
              refine va_iald hx hb hK hP 15 0 rfl rfl (i := (nI jL20)) (vp_in_nI (show jL20 < 120 by omega) (by decide)) dX8_quarrel_85 ?_
              refine lv_topi (fun v27 (e27 : v27 = F 18 (nI jL20).toNatClampNeg) => ?_)
              rw [(nI_clamp (by omega))] at e27
              refine lv_iconst (v := 2) hx hb dX8_quarrel_86 (by decide) ?_
              refine lv_icmp_eq (tgt := 109) hx hb dX8_quarrel_87 (by decide) (fun h_28 => ?_) (fun h_28 => ?_)
              · skip
                refine lv_iload_n hx hb dX8_quarrel_109 rfl (lv_at hl 1 rfl) ?_
                have hq29 : rM_quarrel n F a1 a2 = (nI jL20) := by subst e27 e24 e7; exact hE20.trans ((if_pos h_8).trans ((if_pos h_25).trans (if_pos h_28)))
                exact W.iret (v := (nI jL20)) hx hb hr (fun t ht hW => ⟨by rw [hq29], ht⟩) (fun q h => by cases h) dX8_quarrel_110
              · skip
                refine lv_aload_n hx hb dX8_quarrel_90 rfl (lv_at hl 2 rfl) ?_
                refine va_get (D := (dC, dI)) (ci := 7) (v := .ref (q 18)) (C := RX8) (T := TX8) (N := 37) hx hb hts hinX8 hown hK hP 0 rfl rfl 18 (by decide) (hts (.fieldLink RX8 52 "FurPostsModel" "state" "[I") (by decide +kernel)) (fun _ h9 => h9) rfl dX8_quarrel_91 ?_
                refine lv_iload_n hx hb dX8_quarrel_94 rfl (lv_at hl 1 rfl) ?_
                refine va_iald hx hb hK hP 15 0 rfl rfl (i := (nI jL20)) (vp_in_nI (show jL20 < 120 by omega) (by decide)) dX8_quarrel_95 ?_
                refine lv_topi (fun v30 (e30 : v30 = F 18 (nI jL20).toNatClampNeg) => ?_)
                rw [(nI_clamp (by omega))] at e30
                refine lv_iconst (v := 1) hx hb dX8_quarrel_96 (by decide) ?_
                refine lv_icmp_ne (tgt := 111) hx hb dX8_quarrel_97 (by decide) (fun h_31 => ?_) (fun h_31 => ?_)
                · skip
                  refine lv_iinc (v := (nI (jL20 + 1))) (lv' := [(3, .int (nI (jL20 + 1))), (4, .int 1), (0, .ref h0), (1, .int a1), (2, .int a2)]) hx hb dX8_quarrel_111 hl (k := 1) rfl (show nI jL20 + 1 = nI (jL20 + 1) from nI_1 jL20) (by decide) rfl (fun ls hl => ?_)
                  refine lv_goto (tgt := 20) hx hb dX8_quarrel_114 (by decide) ?_
                  exact ih20 (jL20 + 1) ls (by omega) (by subst e30 e27 e24 e7; exact hE20.trans ((if_pos h_8).trans ((if_pos h_25).trans ((if_neg h_28).trans (if_neg h_31))))) (lv_sub hl [0, 2, 3, 4] rfl)
                · skip
                  refine lv_aload_n hx hb dX8_quarrel_100 rfl (lv_at hl 2 rfl) ?_
                  refine va_get (D := (dC, dI)) (ci := 7) (v := .ref (q 24)) (C := RX8) (T := TX8) (N := 37) hx hb hts hinX8 hown hK hP 0 rfl rfl 24 (by decide) (hts (.fieldLink RX8 70 "FurPostsModel" "isOther" "[Z") (by decide +kernel)) (fun _ h9 => h9) rfl dX8_quarrel_101 ?_
                  refine lv_iload_n hx hb dX8_quarrel_104 rfl (lv_at hl 1 rfl) ?_
                  refine va_zald hx hb hK hP 21 1 rfl rfl (i := (nI jL20)) (vp_in_nI (show jL20 < 120 by omega) (by decide)) dX8_quarrel_105 ?_
                  refine lv_topi (fun v32 (e32 : v32 = F 24 (nI jL20).toNatClampNeg) => ?_)
                  rw [(nI_clamp (by omega))] at e32
                  refine lv_if_eq (tgt := 111) hx hb dX8_quarrel_106 (by decide) (fun h_33 => ?_) (fun h_33 => ?_)
                  · skip
                    refine lv_iinc (v := (nI (jL20 + 1))) (lv' := [(3, .int (nI (jL20 + 1))), (4, .int 1), (0, .ref h0), (1, .int a1), (2, .int a2)]) hx hb dX8_quarrel_111 hl (k := 1) rfl (show nI jL20 + 1 = nI (jL20 + 1) from nI_1 jL20) (by decide) rfl (fun ls hl => ?_)
                    refine lv_goto (tgt := 20) hx hb dX8_quarrel_114 (by decide) ?_
                    exact ih20 (jL20 + 1) ls (by omega) (by subst e32 e30 e27 e24 e7; exact hE20.trans ((if_pos h_8).trans ((if_pos h_25).trans ((if_neg h_28).trans ((if_pos h_31).trans (if_pos h_33)))))) (lv_sub hl [0, 2, 3, 4] rfl)
                  · skip
                    refine lv_iload_n hx hb dX8_quarrel_109 rfl (lv_at hl 1 rfl) ?_
                    have hq34 : rM_quarrel n F a1 a2 = (nI jL20) := by subst e32 e30 e27 e24 e7; exact hE20.trans ((if_pos h_8).trans ((if_pos h_25).trans ((if_neg h_28).trans ((if_pos h_31).trans (if_neg h_33)))))
                    exact W.iret (v := (nI jL20)) hx hb hr (fun t ht hW => ⟨by rw [hq34], ht⟩) (fun q h => by cases h) dX8_quarrel_110
            · skip
              refine lv_aload_n hx hb dX8_quarrel_48 rfl (lv_at hl 1 rfl) ?_
              refine va_get (D := (dC, dI)) (ci := 7) (v := .ref (q 14)) (C := RX8) (T := TX8) (N := 37) hx hb hts hinX8 hown hK hP 0 rfl rfl 14 (by decide) (hts (.fieldLink RX8 40 "FurPostsModel" "from" "[I") (by decide +kernel)) (fun _ h9 => h9) rfl dX8_quarrel_49 ?_
              refine lv_iload_n hx hb dX8_quarrel_52 rfl (lv_at hl 0 rfl) ?_
              refine va_iald hx hb hK hP 11 0 rfl rfl (i := (nI jL20)) (vp_in_nI (show jL20 < 120 by omega) (by decide)) dX8_quarrel_53 ?_
              refine lv_topi (fun v35 (e35 : v35 = F 14 (nI jL20).toNatClampNeg) => ?_)
              rw [(nI_clamp (by omega))] at e35
              refine lv_iload_n hx hb dX8_quarrel_54 rfl (lv_at hl 3 rfl) ?_
              refine lv_icmp_ne (tgt := 72) hx hb dX8_quarrel_55 (by decide) (fun h_36 => ?_) (fun h_36 => ?_)
              · skip
                refine lv_iconst (v := 0) hx hb dX8_quarrel_72 (by decide) ?_
                refine lv_istore (lv' := [(4, .int 0), (3, .int (nI jL20)), (0, .ref h0), (1, .int a1), (2, .int a2)]) hx hb dX8_quarrel_73 hl (by decide) rfl (fun ls hl => ?_)
                refine lv_iload hx hb dX8_quarrel_75 (lv_at hl 0 rfl) ?_
                refine lv_if_eq (tgt := 111) hx hb dX8_quarrel_77 (by decide) (fun h_37 => ?_) (fun h_37 => absurd (by decide) h_37)
                refine lv_iinc (v := (nI (jL20 + 1))) (lv' := [(3, .int (nI (jL20 + 1))), (4, .int 0), (0, .ref h0), (1, .int a1), (2, .int a2)]) hx hb dX8_quarrel_111 hl (k := 1) rfl (show nI jL20 + 1 = nI (jL20 + 1) from nI_1 jL20) (by decide) rfl (fun ls hl => ?_)
                refine lv_goto (tgt := 20) hx hb dX8_quarrel_114 (by decide) ?_
                exact ih20 (jL20 + 1) ls (by omega) (by subst e35 e24 e7; exact hE20.trans ((if_pos h_8).trans ((if_neg h_25).trans (if_neg h_36)))) (lv_sub hl [0, 2, 3, 4] rfl)
              · skip
                refine lv_aload_n hx hb dX8_quarrel_58 rfl (lv_at hl 1 rfl) ?_
                refine va_get (D := (dC, dI)) (ci := 7) (v := .ref (q 15)) (C := RX8) (T := TX8) (N := 37) hx hb hts hinX8 hown hK hP 0 rfl rfl 15 (by decide) (hts (.fieldLink RX8 43 "FurPostsModel" "to" "[I") (by decide +kernel)) (fun _ h9 => h9) rfl dX8_quarrel_59 ?_
                refine lv_iload_n hx hb dX8_quarrel_62 rfl (lv_at hl 0 rfl) ?_
                refine va_iald hx hb hK hP 12 0 rfl rfl (i := (nI jL20)) (vp_in_nI (show jL20 < 120 by omega) (by decide)) dX8_quarrel_63 ?_
                refine lv_topi (fun v38 (e38 : v38 = F 15 (nI jL20).toNatClampNeg) => ?_)
                rw [(nI_clamp (by omega))] at e38
                refine lv_iload_n hx hb dX8_quarrel_64 rfl (lv_at hl 2 rfl) ?_
                refine lv_icmp_ne (tgt := 72) hx hb dX8_quarrel_65 (by decide) (fun h_39 => ?_) (fun h_39 => ?_)
                · skip
                  refine lv_iconst (v := 0) hx hb dX8_quarrel_72 (by decide) ?_
                  refine lv_istore (lv' := [(4, .int 0), (3, .int (nI jL20)), (0, .ref h0), (1, .int a1), (2, .int a2)]) hx hb dX8_quarrel_73 hl (by decide) rfl (fun ls hl => ?_)
                  refine lv_iload hx hb dX8_quarrel_75 (lv_at hl 0 rfl) ?_
                  refine lv_if_eq (tgt := 111) hx hb dX8_quarrel_77 (by decide) (fun h_40 => ?_) (fun h_40 => absurd (by decide) h_40)
                  refine lv_iinc (v := (nI (jL20 + 1))) (lv' := [(3, .int (nI (jL20 + 1))), (4, .int 0), (0, .ref h0), (1, .int a1), (2, .int a2)]) hx hb dX8_quarrel_111 hl (k := 1) rfl (show nI jL20 + 1 = nI (jL20 + 1) from nI_1 jL20) (by decide) rfl (fun ls hl => ?_)
                  refine lv_goto (tgt := 20) hx hb dX8_quarrel_114 (by decide) ?_
                  exact ih20 (jL20 + 1) ls (by omega) (by subst e38 e35 e24 e7; exact hE20.trans ((if_pos h_8).trans ((if_neg h_25).trans ((if_pos h_36).trans (if_neg h_39))))) (lv_sub hl [0, 2, 3, 4] rfl)
                · skip
                  refine lv_iconst (v := 1) hx hb dX8_quarrel_68 (by decide) ?_
                  refine lv_goto (tgt := 73) hx hb dX8_quarrel_69 (by decide) ?_
                  refine lv_istore (lv' := [(4, .int 1), (3, .int (nI jL20)), (0, .ref h0), (1, .int a1), (2, .int a2)]) hx hb dX8_quarrel_73 hl (by decide) rfl (fun ls hl => ?_)
                  refine lv_iload hx hb dX8_quarrel_75 (lv_at hl 0 rfl) ?_
                  refine lv_if_eq (tgt := 111) hx hb dX8_quarrel_77 (by decide) (fun h_41 => absurd h_41 (by decide)) (fun h_41 => ?_)
                  refine lv_aload_n hx hb dX8_quarrel_80 rfl (lv_at hl 2 rfl) ?_
                  refine va_get (D := (dC, dI)) (ci := 7) (v := .ref (q 18)) (C := RX8) (T := TX8) (N := 37) hx hb hts hinX8 hown hK hP 0 rfl rfl 18 (by decide) (hts (.fieldLink RX8 52 "FurPostsModel" "state" "[I") (by decide +kernel)) (fun _ h9 => h9) rfl dX8_quarrel_81 ?_
                  refine lv_iload_n hx hb dX8_quarrel_84 rfl (lv_at hl 1 rfl) ?_
                  refine va_iald hx hb hK hP 15 0 rfl rfl (i := (nI jL20)) (vp_in_nI (show jL20 < 120 by omega) (by decide)) dX8_quarrel_85 ?_
                  refine lv_topi (fun v42 (e42 : v42 = F 18 (nI jL20).toNatClampNeg) => ?_)
                  rw [(nI_clamp (by omega))] at e42
                  refine lv_iconst (v := 2) hx hb dX8_quarrel_86 (by decide) ?_
                  refine lv_icmp_eq (tgt := 109) hx hb dX8_quarrel_87 (by decide) (fun h_43 => ?_) (fun h_43 => ?_)
                  · skip
                    refine lv_iload_n hx hb dX8_quarrel_109 rfl (lv_at hl 1 rfl) ?_
                    have hq44 : rM_quarrel n F a1 a2 = (nI jL20) := by subst e42 e38 e35 e24 e7; exact hE20.trans ((if_pos h_8).trans ((if_neg h_25).trans ((if_pos h_36).trans ((if_pos h_39).trans (if_pos h_43)))))
                    exact W.iret (v := (nI jL20)) hx hb hr (fun t ht hW => ⟨by rw [hq44], ht⟩) (fun q h => by cases h) dX8_quarrel_110
                  · skip
                    refine lv_aload_n hx hb dX8_quarrel_90 rfl (lv_at hl 2 rfl) ?_
                    refine va_get (D := (dC, dI)) (ci := 7) (v := .ref (q 18)) (C := RX8) (T := TX8) (N := 37) hx hb hts hinX8 hown hK hP 0 rfl rfl 18 (by decide) (hts (.fieldLink RX8 52 "FurPostsModel" "state" "[I") (by decide +kernel)) (fun _ h9 => h9) rfl dX8_quarrel_91 ?_
                    refine lv_iload_n hx hb dX8_quarrel_94 rfl (lv_at hl 1 rfl) ?_
                    refine va_iald hx hb hK hP 15 0 rfl rfl (i := (nI jL20)) (vp_in_nI (show jL20 < 120 by omega) (by decide)) dX8_quarrel_95 ?_
                    refine lv_topi (fun v45 (e45 : v45 = F 18 (nI jL20).toNatClampNeg) => ?_)
                    rw [(nI_clamp (by omega))] at e45
                    refine lv_iconst (v := 1) hx hb dX8_quarrel_96 (by decide) ?_
                    refine lv_icmp_ne (tgt := 111) hx hb dX8_quarrel_97 (by decide) (fun h_46 => ?_) (fun h_46 => ?_)
                    · skip
                      refine lv_iinc (v := (nI (jL20 + 1))) (lv' := [(3, .int (nI (jL20 + 1))), (4, .int 1), (0, .ref h0), (1, .int a1), (2, .int a2)]) hx hb dX8_quarrel_111 hl (k := 1) rfl (show nI jL20 + 1 = nI (jL20 + 1) from nI_1 jL20) (by decide) rfl (fun ls hl => ?_)
                      refine lv_goto (tgt := 20) hx hb dX8_quarrel_114 (by decide) ?_
                      exact ih20 (jL20 + 1) ls (by omega) (by subst e45 e42 e38 e35 e24 e7; exact hE20.trans ((if_pos h_8).trans ((if_neg h_25).trans ((if_pos h_36).trans ((if_pos h_39).trans ((if_neg h_43).trans (if_neg h_46))))))) (lv_sub hl [0, 2, 3, 4] rfl)
                    · skip
                      refine lv_aload_n hx hb dX8_quarrel_100 rfl (lv_at hl 2 rfl) ?_
                      refine va_get (D := (dC, dI)) (ci := 7) (v := .ref (q 24)) (C := RX8) (T := TX8) (N := 37) hx hb hts hinX8 hown hK hP 0 rfl rfl 24 (by decide) (hts (.fieldLink RX8 70 "FurPostsModel" "isOther" "[Z") (by decide +kernel)) (fun _ h9 => h9) rfl dX8_quarrel_101 ?_
                      refine lv_iload_n hx hb dX8_quarrel_104 rfl (lv_at hl 1 rfl) ?_
                      refine va_zald hx hb hK hP 21 1 rfl rfl (i := (nI jL20)) (vp_in_nI (show jL20 < 120 by omega) (by decide)) dX8_quarrel_105 ?_
                      refine lv_topi (fun v47 (e47 : v47 = F 24 (nI jL20).toNatClampNeg) => ?_)
                      rw [(nI_clamp (by omega))] at e47
                      refine lv_if_eq (tgt := 111) hx hb dX8_quarrel_106 (by decide) (fun h_48 => ?_) (fun h_48 => ?_)
                      · skip
                        refine lv_iinc (v := (nI (jL20 + 1))) (lv' := [(3, .int (nI (jL20 + 1))), (4, .int 1), (0, .ref h0), (1, .int a1), (2, .int a2)]) hx hb dX8_quarrel_111 hl (k := 1) rfl (show nI jL20 + 1 = nI (jL20 + 1) from nI_1 jL20) (by decide) rfl (fun ls hl => ?_)
                        refine lv_goto (tgt := 20) hx hb dX8_quarrel_114 (by decide) ?_
                        exact ih20 (jL20 + 1) ls (by omega) (by subst e47 e45 e42 e38 e35 e24 e7; exact hE20.trans ((if_pos h_8).trans ((if_neg h_25).trans ((if_pos h_36).trans ((if_pos h_39).trans ((if_neg h_43).trans ((if_pos h_46).trans (if_pos h_48)))))))) (lv_sub hl [0, 2, 3, 4] rfl)
                      · skip
                        refine lv_iload_n hx hb dX8_quarrel_109 rfl (lv_at hl 1 rfl) ?_
                        have hq49 : rM_quarrel n F a1 a2 = (nI jL20) := by subst e47 e45 e42 e38 e35 e24 e7; exact hE20.trans ((if_pos h_8).trans ((if_neg h_25).trans ((if_pos h_36).trans ((if_pos h_39).trans ((if_neg h_43).trans ((if_pos h_46).trans (if_neg h_48)))))))
                        exact W.iret (v := (nI jL20)) hx hb hr (fun t ht hW => ⟨by rw [hq49], ht⟩) (fun q h => by cases h) dX8_quarrel_110
      exact key20 (n 3) 0 ls (by omega) (by exact (if_neg h_1).trans (if_neg h_3)) (lv_sub hl [0, 1, 2, 3] rfl)
    · skip
      refine lv_iconst (v := (-1)) hx hb dX8_quarrel_16 (by decide) ?_
      have hq50 : rM_quarrel n F a1 a2 = (-1) := by exact (if_neg h_1).trans (if_pos h_3)
      exact W.iret (v := (-1)) hx hb hr (fun t ht hW => ⟨by rw [hq50], ht⟩) (fun q h => by cases h) dX8_quarrel_17

set_option maxHeartbeats 8000000 in
set_option maxRecDepth 100000 in
theorem k_X8_canoe (l : Launch) (dC : Nat → ClassId) (dI : Nat → Nat → Nat) (h0 : Nat) (q n : Nat → Nat) (cI cZ : ClassId) (F : Nat → Nat → Int32) (hI : mi_ n F) (hN : nb_ n) (a1 : Int32) (a2 : Int32) : Met l yX8_canoe wsX8_canoe ({ frames := 2, cells := 0, slots := 0, locals := 43 }) (va_Pc [.ref h0, .int a1, .int a2] (pu_P (dC, dI) vwCl (mt_ cI cZ) (mw_ h0 q n (F 44 0) cI cZ F))) (pu_Q (.int (rM_canoe n F a1 a2))) 0 0 pu_F := by
  refine Met.ofW (cc := cX8_canoe) (maxL := 3) (ret := (some .int)) (by decide) rfl ?_
  intro p e s m args below meth c s₁ B hml hv
  obtain ⟨rfl, hP, hK⟩ := hv
  have hx := B.exec
  have hb := B.bytes
  have hr := B.returns
  have hts := atoms_spec (ws := wsX8_canoe) B.pre
  have hown : s.vm.findClass RX8 = some m.cls := findClass_of_methodNamed B.named
  have hlocks := B.notSynchronized
  have hinX8 : ∀ w ∈ u_ws RX8 TX8 37, w ∈ wsX8_canoe := by decide +kernel
  have hl := lv_entry ([.ref h0, .int a1, .int a2]) (n := 3) (Nat.le_of_ble_eq_true rfl)
  rw [lg_entry_eq]
  generalize (lg_sl ([.ref h0, .int a1, .int a2]) ++ List.replicate (3 - (lg_sl ([.ref h0, .int a1, .int a2])).length) Slot.unset).toArray = ls at hl ⊢
  have hl : lv_has ls 3 [(0, .ref h0), (1, .int a1), (2, .int a2)] := hl
  refine lv_aload_n hx hb dX8_canoe_0 rfl (lv_at hl 0 rfl) ?_
  refine lv_iload_n hx hb dX8_canoe_1 rfl (lv_at hl 1 rfl) ?_
  refine pu_call (va_runV (As := [.int a1]) (rest := []) ⟨hx, hb, hml, hown, hts⟩ (k_X8_isCanoe l dC dI h0 q n cI cZ F hI hN a1) (cwV 1 hts gX8_canoe_X8_isCanoe rfl rfl rfl (by decide +kernel) ⟨Nat.le_of_ble_eq_true rfl, Nat.le_of_ble_eq_true rfl⟩) (pu_pre hP hK (ci := 7) (q0 := 0) rfl rfl) rfl rfl hl.1 rfl (lv_room (Nat.le_of_ble_eq_true rfl)) dX8_canoe_2 ⟨Nat.le_of_ble_eq_true rfl, Nat.le_of_ble_eq_true rfl⟩) ?_
  rw [show rM_isCanoe n F a1 = (sp_in a1 0 ((nI (n 3)) - 1)) from rfl]
  refine lv_if_ne (tgt := 10) hx hb dX8_canoe_5 (by decide) (fun h_1 => ?_) (fun h_1 => ?_)
  · skip
    refine lv_iload_n hx hb dX8_canoe_10 rfl (lv_at hl 2 rfl) ?_
    refine lv_bipush (v := 10) hx hb dX8_canoe_11 (by decide) ?_
    refine lv_bipush (v := 15) hx hb dX8_canoe_13 (by decide) ?_
    refine pu_call (va_runS (As := [.int a2, .int 10, .int 15]) (rest := []) ⟨hx, hb, hml, hown, hts⟩ (c_X8_in l a2 10 15) (va_cwS 3 hts gX8_canoe_X8_in rfl rfl rfl (by decide +kernel) ⟨Nat.le_of_ble_eq_true rfl, Nat.le_of_ble_eq_true rfl⟩) pu_preS rfl rfl hl.1 rfl (lv_room (Nat.le_of_ble_eq_true rfl)) dX8_canoe_15 ⟨Nat.le_of_ble_eq_true rfl, Nat.le_of_ble_eq_true rfl⟩) ?_
    refine lv_if_eq (tgt := 36) hx hb dX8_canoe_18 (by decide) (fun h_2 => ?_) (fun h_2 => ?_)
    · skip
      refine lv_iload_n hx hb dX8_canoe_36 rfl (lv_at hl 2 rfl) ?_
      refine lv_bipush (v := 20) hx hb dX8_canoe_37 (by decide) ?_
      refine lv_bipush (v := 25) hx hb dX8_canoe_39 (by decide) ?_
      refine pu_call (va_runS (As := [.int a2, .int 20, .int 25]) (rest := []) ⟨hx, hb, hml, hown, hts⟩ (c_X8_in l a2 20 25) (va_cwS 3 hts gX8_canoe_X8_in rfl rfl rfl (by decide +kernel) ⟨Nat.le_of_ble_eq_true rfl, Nat.le_of_ble_eq_true rfl⟩) pu_preS rfl rfl hl.1 rfl (lv_room (Nat.le_of_ble_eq_true rfl)) dX8_canoe_41 ⟨Nat.le_of_ble_eq_true rfl, Nat.le_of_ble_eq_true rfl⟩) ?_
      refine lv_if_eq (tgt := 62) hx hb dX8_canoe_44 (by decide) (fun h_3 => ?_) (fun h_3 => ?_)
      · skip
        refine lv_iload_n hx hb dX8_canoe_62 rfl (lv_at hl 2 rfl) ?_
        rcases (Decidable.em (a2 = 0)) with q_4 | q_4
        · refine lv_tableIn (off := 45) (tgt := 108) hx hb dX8_canoe_63 (by rw [q_4]; decide) (by rw [q_4]; decide) (by rw [q_4]; rfl) (by decide) ?_
          refine lv_aload_n hx hb dX8_canoe_108 rfl (lv_at hl 0 rfl) ?_
          refine va_get (D := (dC, dI)) (ci := 7) (v := .ref (q 14)) (C := RX8) (T := TX8) (N := 37) hx hb hts hinX8 hown hK hP 0 rfl rfl 14 (by decide) (hts (.fieldLink RX8 40 "FurPostsModel" "from" "[I") (by decide +kernel)) (fun _ h9 => h9) rfl dX8_canoe_109 ?_
          refine lv_iload_n hx hb dX8_canoe_112 rfl (lv_at hl 1 rfl) ?_
          refine va_iald hx hb hK hP 11 0 rfl rfl (i := a1) (sp_vpn h_1 (show n 3 ≤ 120 by omega) (by decide)) dX8_canoe_113 ?_
          refine lv_topi (fun v5 (e5 : v5 = F 14 a1.toNatClampNeg) => ?_)
          have hq6 : rM_canoe n F a1 a2 = v5 := by subst e5; exact (if_neg h_1).trans ((if_pos h_2).trans ((if_pos h_3).trans (if_pos q_4)))
          exact W.iret (v := v5) hx hb hr (fun t ht hW => ⟨by rw [hq6], ht⟩) (fun q h => by cases h) dX8_canoe_114
        rcases (Decidable.em (a2 = 1)) with q_7 | q_7
        · refine lv_tableIn (off := 52) (tgt := 115) hx hb dX8_canoe_63 (by rw [q_7]; decide) (by rw [q_7]; decide) (by rw [q_7]; rfl) (by decide) ?_
          refine lv_aload_n hx hb dX8_canoe_115 rfl (lv_at hl 0 rfl) ?_
          refine va_get (D := (dC, dI)) (ci := 7) (v := .ref (q 15)) (C := RX8) (T := TX8) (N := 37) hx hb hts hinX8 hown hK hP 0 rfl rfl 15 (by decide) (hts (.fieldLink RX8 43 "FurPostsModel" "to" "[I") (by decide +kernel)) (fun _ h9 => h9) rfl dX8_canoe_116 ?_
          refine lv_iload_n hx hb dX8_canoe_119 rfl (lv_at hl 1 rfl) ?_
          refine va_iald hx hb hK hP 12 0 rfl rfl (i := a1) (sp_vpn h_1 (show n 3 ≤ 120 by omega) (by decide)) dX8_canoe_120 ?_
          refine lv_topi (fun v8 (e8 : v8 = F 15 a1.toNatClampNeg) => ?_)
          have hq9 : rM_canoe n F a1 a2 = v8 := by subst e8; exact (if_neg h_1).trans ((if_pos h_2).trans ((if_pos h_3).trans ((if_neg q_4).trans (if_pos q_7))))
          exact W.iret (v := v8) hx hb hr (fun t ht hW => ⟨by rw [hq9], ht⟩) (fun q h => by cases h) dX8_canoe_121
        rcases (Decidable.em (a2 = 2)) with q_10 | q_10
        · refine lv_tableIn (off := 59) (tgt := 122) hx hb dX8_canoe_63 (by rw [q_10]; decide) (by rw [q_10]; decide) (by rw [q_10]; rfl) (by decide) ?_
          refine lv_aload_n hx hb dX8_canoe_122 rfl (lv_at hl 0 rfl) ?_
          refine va_get (D := (dC, dI)) (ci := 7) (v := .ref (q 16)) (C := RX8) (T := TX8) (N := 37) hx hb hts hinX8 hown hK hP 0 rfl rfl 16 (by decide) (hts (.fieldLink RX8 46 "FurPostsModel" "wayOf" "[I") (by decide +kernel)) (fun _ h9 => h9) rfl dX8_canoe_123 ?_
          refine lv_iload_n hx hb dX8_canoe_126 rfl (lv_at hl 1 rfl) ?_
          refine va_iald hx hb hK hP 13 0 rfl rfl (i := a1) (sp_vpn h_1 (show n 3 ≤ 120 by omega) (by decide)) dX8_canoe_127 ?_
          refine lv_topi (fun v11 (e11 : v11 = F 16 a1.toNatClampNeg) => ?_)
          have hq12 : rM_canoe n F a1 a2 = v11 := by subst e11; exact (if_neg h_1).trans ((if_pos h_2).trans ((if_pos h_3).trans ((if_neg q_4).trans ((if_neg q_7).trans (if_pos q_10)))))
          exact W.iret (v := v11) hx hb hr (fun t ht hW => ⟨by rw [hq12], ht⟩) (fun q h => by cases h) dX8_canoe_128
        rcases (Decidable.em (a2 = 3)) with q_13 | q_13
        · refine lv_tableIn (off := 66) (tgt := 129) hx hb dX8_canoe_63 (by rw [q_13]; decide) (by rw [q_13]; decide) (by rw [q_13]; rfl) (by decide) ?_
          refine lv_aload_n hx hb dX8_canoe_129 rfl (lv_at hl 0 rfl) ?_
          refine va_get (D := (dC, dI)) (ci := 7) (v := .ref (q 18)) (C := RX8) (T := TX8) (N := 37) hx hb hts hinX8 hown hK hP 0 rfl rfl 18 (by decide) (hts (.fieldLink RX8 52 "FurPostsModel" "state" "[I") (by decide +kernel)) (fun _ h9 => h9) rfl dX8_canoe_130 ?_
          refine lv_iload_n hx hb dX8_canoe_133 rfl (lv_at hl 1 rfl) ?_
          refine va_iald hx hb hK hP 15 0 rfl rfl (i := a1) (sp_vpn h_1 (show n 3 ≤ 120 by omega) (by decide)) dX8_canoe_134 ?_
          refine lv_topi (fun v14 (e14 : v14 = F 18 a1.toNatClampNeg) => ?_)
          refine lv_if_ne (tgt := 147) hx hb dX8_canoe_135 (by decide) (fun h_15 => ?_) (fun h_15 => ?_)
          · skip
            refine lv_iconst (v := 0) hx hb dX8_canoe_147 (by decide) ?_
            have hq16 : rM_canoe n F a1 a2 = 0 := by subst e14; exact (if_neg h_1).trans ((if_pos h_2).trans ((if_pos h_3).trans ((if_neg q_4).trans ((if_neg q_7).trans ((if_neg q_10).trans ((if_pos q_13).trans (if_neg h_15)))))))
            exact W.iret (v := 0) hx hb hr (fun t ht hW => ⟨by rw [hq16], ht⟩) (fun q h => by cases h) dX8_canoe_148
          · skip
            refine lv_aload_n hx hb dX8_canoe_138 rfl (lv_at hl 0 rfl) ?_
            refine va_get (D := (dC, dI)) (ci := 7) (v := .ref (q 17)) (C := RX8) (T := TX8) (N := 37) hx hb hts hinX8 hown hK hP 0 rfl rfl 17 (by decide) (hts (.fieldLink RX8 49 "FurPostsModel" "toGo" "[I") (by decide +kernel)) (fun _ h9 => h9) rfl dX8_canoe_139 ?_
            refine lv_iload_n hx hb dX8_canoe_142 rfl (lv_at hl 1 rfl) ?_
            refine va_iald hx hb hK hP 14 0 rfl rfl (i := a1) (sp_vpn h_1 (show n 3 ≤ 120 by omega) (by decide)) dX8_canoe_143 ?_
            refine lv_topi (fun v17 (e17 : v17 = F 17 a1.toNatClampNeg) => ?_)
            refine lv_goto (tgt := 148) hx hb dX8_canoe_144 (by decide) ?_
            have hq18 : rM_canoe n F a1 a2 = v17 := by subst e17 e14; exact (if_neg h_1).trans ((if_pos h_2).trans ((if_pos h_3).trans ((if_neg q_4).trans ((if_neg q_7).trans ((if_neg q_10).trans ((if_pos q_13).trans (if_pos h_15)))))))
            exact W.iret (v := v17) hx hb hr (fun t ht hW => ⟨by rw [hq18], ht⟩) (fun q h => by cases h) dX8_canoe_148
        rcases (Decidable.em (a2 = 4)) with q_19 | q_19
        · refine lv_tableIn (off := 86) (tgt := 149) hx hb dX8_canoe_63 (by rw [q_19]; decide) (by rw [q_19]; decide) (by rw [q_19]; rfl) (by decide) ?_
          refine lv_aload_n hx hb dX8_canoe_149 rfl (lv_at hl 0 rfl) ?_
          refine va_get (D := (dC, dI)) (ci := 7) (v := .ref (q 18)) (C := RX8) (T := TX8) (N := 37) hx hb hts hinX8 hown hK hP 0 rfl rfl 18 (by decide) (hts (.fieldLink RX8 52 "FurPostsModel" "state" "[I") (by decide +kernel)) (fun _ h9 => h9) rfl dX8_canoe_150 ?_
          refine lv_iload_n hx hb dX8_canoe_153 rfl (lv_at hl 1 rfl) ?_
          refine va_iald hx hb hK hP 15 0 rfl rfl (i := a1) (sp_vpn h_1 (show n 3 ≤ 120 by omega) (by decide)) dX8_canoe_154 ?_
          refine lv_topi (fun v20 (e20 : v20 = F 18 a1.toNatClampNeg) => ?_)
          have hq21 : rM_canoe n F a1 a2 = v20 := by subst e20; exact (if_neg h_1).trans ((if_pos h_2).trans ((if_pos h_3).trans ((if_neg q_4).trans ((if_neg q_7).trans ((if_neg q_10).trans ((if_neg q_13).trans (if_pos q_19)))))))
          exact W.iret (v := v20) hx hb hr (fun t ht hW => ⟨by rw [hq21], ht⟩) (fun q h => by cases h) dX8_canoe_155
        rcases (Decidable.em (a2 = 5)) with q_22 | q_22
        · refine lv_tableIn (off := 93) (tgt := 156) hx hb dX8_canoe_63 (by rw [q_22]; decide) (by rw [q_22]; decide) (by rw [q_22]; rfl) (by decide) ?_
          refine lv_aload_n hx hb dX8_canoe_156 rfl (lv_at hl 0 rfl) ?_
          refine va_get (D := (dC, dI)) (ci := 7) (v := .ref (q 19)) (C := RX8) (T := TX8) (N := 37) hx hb hts hinX8 hown hK hP 0 rfl rfl 19 (by decide) (hts (.fieldLink RX8 55 "FurPostsModel" "sentOn" "[I") (by decide +kernel)) (fun _ h9 => h9) rfl dX8_canoe_157 ?_
          refine lv_iload_n hx hb dX8_canoe_160 rfl (lv_at hl 1 rfl) ?_
          refine va_iald hx hb hK hP 16 0 rfl rfl (i := a1) (sp_vpn h_1 (show n 3 ≤ 120 by omega) (by decide)) dX8_canoe_161 ?_
          refine lv_topi (fun v23 (e23 : v23 = F 19 a1.toNatClampNeg) => ?_)
          have hq24 : rM_canoe n F a1 a2 = v23 := by subst e23; exact (if_neg h_1).trans ((if_pos h_2).trans ((if_pos h_3).trans ((if_neg q_4).trans ((if_neg q_7).trans ((if_neg q_10).trans ((if_neg q_13).trans ((if_neg q_19).trans (if_pos q_22))))))))
          exact W.iret (v := v23) hx hb hr (fun t ht hW => ⟨by rw [hq24], ht⟩) (fun q h => by cases h) dX8_canoe_162
        rcases (Decidable.em (a2 = 6)) with q_25 | q_25
        · refine lv_tableIn (off := 100) (tgt := 163) hx hb dX8_canoe_63 (by rw [q_25]; decide) (by rw [q_25]; decide) (by rw [q_25]; rfl) (by decide) ?_
          refine lv_aload_n hx hb dX8_canoe_163 rfl (lv_at hl 0 rfl) ?_
          refine va_get (D := (dC, dI)) (ci := 7) (v := .ref (q 20)) (C := RX8) (T := TX8) (N := 37) hx hb hts hinX8 hown hK hP 0 rfl rfl 20 (by decide) (hts (.fieldLink RX8 58 "FurPostsModel" "cameOn" "[I") (by decide +kernel)) (fun _ h9 => h9) rfl dX8_canoe_164 ?_
          refine lv_iload_n hx hb dX8_canoe_167 rfl (lv_at hl 1 rfl) ?_
          refine va_iald hx hb hK hP 17 0 rfl rfl (i := a1) (sp_vpn h_1 (show n 3 ≤ 120 by omega) (by decide)) dX8_canoe_168 ?_
          refine lv_topi (fun v26 (e26 : v26 = F 20 a1.toNatClampNeg) => ?_)
          have hq27 : rM_canoe n F a1 a2 = v26 := by subst e26; exact (if_neg h_1).trans ((if_pos h_2).trans ((if_pos h_3).trans ((if_neg q_4).trans ((if_neg q_7).trans ((if_neg q_10).trans ((if_neg q_13).trans ((if_neg q_19).trans ((if_neg q_22).trans (if_pos q_25)))))))))
          exact W.iret (v := v26) hx hb hr (fun t ht hW => ⟨by rw [hq27], ht⟩) (fun q h => by cases h) dX8_canoe_169
        rcases (Decidable.em (a2 = 7)) with q_28 | q_28
        · refine lv_tableIn (off := 107) (tgt := 170) hx hb dX8_canoe_63 (by rw [q_28]; decide) (by rw [q_28]; decide) (by rw [q_28]; rfl) (by decide) ?_
          refine lv_aload_n hx hb dX8_canoe_170 rfl (lv_at hl 0 rfl) ?_
          refine va_get (D := (dC, dI)) (ci := 7) (v := .ref (q 21)) (C := RX8) (T := TX8) (N := 37) hx hb hts hinX8 hown hK hP 0 rfl rfl 21 (by decide) (hts (.fieldLink RX8 61 "FurPostsModel" "withLetters" "[I") (by decide +kernel)) (fun _ h9 => h9) rfl dX8_canoe_171 ?_
          refine lv_iload_n hx hb dX8_canoe_174 rfl (lv_at hl 1 rfl) ?_
          refine va_iald hx hb hK hP 18 0 rfl rfl (i := a1) (sp_vpn h_1 (show n 3 ≤ 120 by omega) (by decide)) dX8_canoe_175 ?_
          refine lv_topi (fun v29 (e29 : v29 = F 21 a1.toNatClampNeg) => ?_)
          have hq30 : rM_canoe n F a1 a2 = v29 := by subst e29; exact (if_neg h_1).trans ((if_pos h_2).trans ((if_pos h_3).trans ((if_neg q_4).trans ((if_neg q_7).trans ((if_neg q_10).trans ((if_neg q_13).trans ((if_neg q_19).trans ((if_neg q_22).trans ((if_neg q_25).trans (if_pos q_28))))))))))
          exact W.iret (v := v29) hx hb hr (fun t ht hW => ⟨by rw [hq30], ht⟩) (fun q h => by cases h) dX8_canoe_176
        refine lv_tableOut (tgt := 177) hx hb dX8_canoe_63 (by have j_0 := sw_n (n := 0) (k := 0) q_4 (by decide); have j_1 := sw_n (n := 1) (k := 1) q_7 (by decide); have j_2 := sw_n (n := 2) (k := 2) q_10 (by decide); have j_3 := sw_n (n := 3) (k := 3) q_13 (by decide); have j_4 := sw_n (n := 4) (k := 4) q_19 (by decide); have j_5 := sw_n (n := 5) (k := 5) q_22 (by decide); have j_6 := sw_n (n := 6) (k := 6) q_25 (by decide); have j_7 := sw_n (n := 7) (k := 7) q_28 (by decide); omega) (by decide) ?_
        refine lv_iconst (v := (-1)) hx hb dX8_canoe_177 (by decide) ?_
        have hq31 : rM_canoe n F a1 a2 = (-1) := by exact (if_neg h_1).trans ((if_pos h_2).trans ((if_pos h_3).trans ((if_neg q_4).trans ((if_neg q_7).trans ((if_neg q_10).trans ((if_neg q_13).trans ((if_neg q_19).trans ((if_neg q_22).trans ((if_neg q_25).trans (if_neg q_28))))))))))
        exact W.iret (v := (-1)) hx hb hr (fun t ht hW => ⟨by rw [hq31], ht⟩) (fun q h => by cases h) dX8_canoe_178
      · skip
        refine lv_aload_n hx hb dX8_canoe_47 rfl (lv_at hl 0 rfl) ?_
        refine va_get (D := (dC, dI)) (ci := 7) (v := .ref (q 23)) (C := RX8) (T := TX8) (N := 37) hx hb hts hinX8 hown hK hP 0 rfl rfl 23 (by decide) (hts (.fieldLink RX8 67 "FurPostsModel" "sent" "[I") (by decide +kernel)) (fun _ h9 => h9) rfl dX8_canoe_48 ?_
        refine lv_bipush (v := 6) hx hb dX8_canoe_51 (by decide) ?_
        refine lv_iload_n hx hb dX8_canoe_53 rfl (lv_at hl 1 rfl) ?_
        refine lv_imul hx hb dX8_canoe_54 ?_
        refine lv_iload_n hx hb dX8_canoe_55 rfl (lv_at hl 2 rfl) ?_
        refine lv_iadd hx hb dX8_canoe_56 ?_
        refine lv_bipush (v := 20) hx hb dX8_canoe_57 (by decide) ?_
        refine lv_isub hx hb dX8_canoe_59 ?_
        refine va_iald hx hb hK hP 20 0 rfl rfl (i := (((6 * a1) + a2) - 20)) (cn_in (sp_vpn h_1 (show n 3 ≤ 120 by omega) (by decide)) (k := 20) h_3 rfl rfl (by decide)) dX8_canoe_60 ?_
        refine lv_topi (fun v32 (e32 : v32 = F 23 (((6 * a1) + a2) - 20).toNatClampNeg) => ?_)
        rw [(tn_cn (k := 20) (sp_vpn h_1 (show n 3 ≤ 120 by omega) (by decide)) h_3 rfl rfl (by decide))] at e32
        have hq33 : rM_canoe n F a1 a2 = v32 := by subst e32; exact (if_neg h_1).trans ((if_pos h_2).trans (if_neg h_3))
        exact W.iret (v := v32) hx hb hr (fun t ht hW => ⟨by rw [hq33], ht⟩) (fun q h => by cases h) dX8_canoe_61
    · skip
      refine lv_aload_n hx hb dX8_canoe_21 rfl (lv_at hl 0 rfl) ?_
      refine va_get (D := (dC, dI)) (ci := 7) (v := .ref (q 22)) (C := RX8) (T := TX8) (N := 37) hx hb hts hinX8 hown hK hP 0 rfl rfl 22 (by decide) (hts (.fieldLink RX8 64 "FurPostsModel" "has" "[I") (by decide +kernel)) (fun _ h9 => h9) rfl dX8_canoe_22 ?_
      refine lv_bipush (v := 6) hx hb dX8_canoe_25 (by decide) ?_
      refine lv_iload_n hx hb dX8_canoe_27 rfl (lv_at hl 1 rfl) ?_
      refine lv_imul hx hb dX8_canoe_28 ?_
      refine lv_iload_n hx hb dX8_canoe_29 rfl (lv_at hl 2 rfl) ?_
      refine lv_iadd hx hb dX8_canoe_30 ?_
      refine lv_bipush (v := 10) hx hb dX8_canoe_31 (by decide) ?_
      refine lv_isub hx hb dX8_canoe_33 ?_
      refine va_iald hx hb hK hP 19 0 rfl rfl (i := (((6 * a1) + a2) - 10)) (cn_in (sp_vpn h_1 (show n 3 ≤ 120 by omega) (by decide)) (k := 10) h_2 rfl rfl (by decide)) dX8_canoe_34 ?_
      refine lv_topi (fun v34 (e34 : v34 = F 22 (((6 * a1) + a2) - 10).toNatClampNeg) => ?_)
      rw [(tn_cn (k := 10) (sp_vpn h_1 (show n 3 ≤ 120 by omega) (by decide)) h_2 rfl rfl (by decide))] at e34
      have hq35 : rM_canoe n F a1 a2 = v34 := by subst e34; exact (if_neg h_1).trans (if_neg h_2)
      exact W.iret (v := v34) hx hb hr (fun t ht hW => ⟨by rw [hq35], ht⟩) (fun q h => by cases h) dX8_canoe_35
  · skip
    refine lv_iconst (v := (-1)) hx hb dX8_canoe_8 (by decide) ?_
    have hq36 : rM_canoe n F a1 a2 = (-1) := by exact (if_pos h_1)
    exact W.iret (v := (-1)) hx hb hr (fun t ht hW => ⟨by rw [hq36], ht⟩) (fun q h => by cases h) dX8_canoe_9

set_option maxHeartbeats 8000000 in
set_option maxRecDepth 100000 in
theorem k_X8_told (l : Launch) (dC : Nat → ClassId) (dI : Nat → Nat → Nat) (h0 : Nat) (q n : Nat → Nat) (cI cZ : ClassId) (F : Nat → Nat → Int32) (hI : mi_ n F) (hN : nb_ n) (a1 : Int32) (a2 : Int32) : Met l yX8_told wsX8_told ({ frames := 3, cells := 0, slots := 0, locals := 65 }) (va_Pc [.ref h0, .int a1, .int a2] (pu_P (dC, dI) vwCl (mt_ cI cZ) (mw_ h0 q n (F 44 0) cI cZ F))) (pu_Q (.int (rM_told n F a1 a2))) 0 0 pu_F := by
  refine Met.ofW (cc := cX8_told) (maxL := 5) (ret := (some .int)) (by decide) rfl ?_
  intro p e s m args below meth c s₁ B hml hv
  obtain ⟨rfl, hP, hK⟩ := hv
  have hx := B.exec
  have hb := B.bytes
  have hr := B.returns
  have hts := atoms_spec (ws := wsX8_told) B.pre
  have hown : s.vm.findClass RX8 = some m.cls := findClass_of_methodNamed B.named
  have hlocks := B.notSynchronized
  have hinX8 : ∀ w ∈ u_ws RX8 TX8 37, w ∈ wsX8_told := by decide +kernel
  have hl := lv_entry ([.ref h0, .int a1, .int a2]) (n := 5) (Nat.le_of_ble_eq_true rfl)
  rw [lg_entry_eq]
  generalize (lg_sl ([.ref h0, .int a1, .int a2]) ++ List.replicate (5 - (lg_sl ([.ref h0, .int a1, .int a2])).length) Slot.unset).toArray = ls at hl ⊢
  have hl : lv_has ls 5 [(0, .ref h0), (1, .int a1), (2, .int a2)] := hl
  refine lv_aload_n hx hb dX8_told_0 rfl (lv_at hl 0 rfl) ?_
  refine lv_iload_n hx hb dX8_told_1 rfl (lv_at hl 1 rfl) ?_
  refine pu_call (va_runV (As := [.int a1]) (rest := []) ⟨hx, hb, hml, hown, hts⟩ (k_X8_isPost l dC dI h0 q n cI cZ F hI hN a1) (cwV 1 hts gX8_told_X8_isPost rfl rfl rfl (by decide +kernel) ⟨Nat.le_of_ble_eq_true rfl, Nat.le_of_ble_eq_true rfl⟩) (pu_pre hP hK (ci := 7) (q0 := 0) rfl rfl) rfl rfl hl.1 rfl (lv_room (Nat.le_of_ble_eq_true rfl)) dX8_told_2 ⟨Nat.le_of_ble_eq_true rfl, Nat.le_of_ble_eq_true rfl⟩) ?_
  rw [show rM_isPost n F a1 = (sp_in a1 0 ((nI (n 1)) - 1)) from rfl]
  refine lv_if_ne (tgt := 10) hx hb dX8_told_5 (by decide) (fun h_1 => ?_) (fun h_1 => ?_)
  · skip
    refine lv_iload_n hx hb dX8_told_10 rfl (lv_at hl 2 rfl) ?_
    refine lv_iconst (v := 0) hx hb dX8_told_11 (by decide) ?_
    refine lv_iconst (v := 5) hx hb dX8_told_12 (by decide) ?_
    refine pu_call (va_runS (As := [.int a2, .int 0, .int 5]) (rest := []) ⟨hx, hb, hml, hown, hts⟩ (c_X8_in l a2 0 5) (va_cwS 3 hts gX8_told_X8_in rfl rfl rfl (by decide +kernel) ⟨Nat.le_of_ble_eq_true rfl, Nat.le_of_ble_eq_true rfl⟩) pu_preS rfl rfl hl.1 rfl (lv_room (Nat.le_of_ble_eq_true rfl)) dX8_told_13 ⟨Nat.le_of_ble_eq_true rfl, Nat.le_of_ble_eq_true rfl⟩) ?_
    refine lv_if_eq (tgt := 26) hx hb dX8_told_16 (by decide) (fun h_2 => ?_) (fun h_2 => ?_)
    · skip
      refine lv_iconst (v := 0) hx hb dX8_told_26 (by decide) ?_
      refine lv_istore_n (lv' := [(3, .int 0), (0, .ref h0), (1, .int a1), (2, .int a2)]) hx hb dX8_told_27 rfl hl (by decide) rfl (fun ls hl => ?_)
      refine lv_iload_n hx hb dX8_told_28 rfl (lv_at hl 3 rfl) ?_
      refine lv_bipush (v := 6) hx hb dX8_told_29 (by decide) ?_
      refine lv_icmp_ne (tgt := 73) hx hb dX8_told_31 (by decide) (fun h_3 => ?_) (fun h_3 => ?_)
      · skip
        refine lv_iconst (v := 0) hx hb dX8_told_73 (by decide) ?_
        refine lv_istore (lv' := [(4, .int 0), (3, .int 0), (0, .ref h0), (1, .int a1), (2, .int a2)]) hx hb dX8_told_74 hl (by decide) rfl (fun ls hl => ?_)
        have key76 : ∀ (k jL76 : Nat) (xL76_3 : Int32) (ls : Array Slot), jL76 + k = 12 → lv_has ls 5 [(4, .int (nI jL76)), (3, .int xL76_3), (0, .ref h0), (1, .int a1), (2, .int a2)] → (∀ (ls : Array Slot), lv_has ls 5 [(4, .int (nI 12)), (3, .int (rM_told_L76 n F a1 k jL76 xL76_3)), (0, .ref h0), (1, .int a1), (2, .int a2)] → W p l e (headSpec wsX8_told ({ frames := 3, cells := 0, slots := 0, locals := 65 })).room s m [.ref h0, .int a1, .int a2].toArray below meth c s.heap [] 0 0 (MQ below (pu_Q (.int (rM_told n F a1 a2))) [.ref h0, .int a1, .int a2].toArray s 0 0 pu_F) (F0 m 99 ls [])) → 
            W p l e (headSpec wsX8_told ({ frames := 3, cells := 0, slots := 0, locals := 65 })).room s m [.ref h0, .int a1, .int a2].toArray below meth c s.heap [] 0 0 (MQ below (pu_Q (.int (rM_told n F a1 a2))) [.ref h0, .int a1, .int a2].toArray s 0 0 pu_F) (F0 m 76 ls []) := by
          intro k
          induction k with
          | zero =>
            intro jL76 xL76_3 ls hj hl hex
            have hj : jL76 = 12 := by omega
            subst jL76
            refine lv_iload hx hb dX8_told_76 (lv_at hl 0 rfl) ?_
            refine lv_bipush (v := 12) hx hb dX8_told_78 (by decide) ?_
            refine lv_icmp_ge (tgt := 99) hx hb dX8_told_80 (by decide) (fun h_4 => ?_) (fun h_4 => absurd (lp_ge0 (B := 12) rfl) h_4)
            exact hex ls (lv_sub hl [0, 1, 2, 3, 4] rfl)
          | succ k ih76 =>
            intro jL76 xL76_3 ls hj hl hex
            have hj76 : jL76 < 12 := by omega
            refine lv_iload hx hb dX8_told_76 (lv_at hl 0 rfl) ?_
            refine lv_bipush (v := 12) hx hb dX8_told_78 (by decide) ?_
            refine lv_icmp_ge (tgt := 99) hx hb dX8_told_80 (by decide) (fun h_5 => absurd h_5 (lp_ge (B := 12) (by omega) (by omega) rfl)) (fun h_5 => ?_)
            refine lv_iload_n hx hb dX8_told_83 rfl (lv_at hl 1 rfl) ?_
            refine lv_aload_n hx hb dX8_told_84 rfl (lv_at hl 2 rfl) ?_
            refine lv_iload_n hx hb dX8_told_85 rfl (lv_at hl 3 rfl) ?_
            refine lv_iload hx hb dX8_told_86 (lv_at hl 0 rfl) ?_
            refine pu_call (va_runV (As := [.int a1, .int (nI jL76)]) (rest := [.int xL76_3]) ⟨hx, hb, hml, hown, hts⟩ (k_X8_owes l dC dI h0 q n cI cZ F hI hN a1 (nI jL76)) (cwV 2 hts gX8_told_X8_owes rfl rfl rfl (by decide +kernel) ⟨Nat.le_of_ble_eq_true rfl, Nat.le_of_ble_eq_true rfl⟩) (pu_pre hP hK (ci := 7) (q0 := 0) rfl rfl) rfl rfl hl.1 rfl (lv_room (Nat.le_of_ble_eq_true rfl)) dX8_told_88 ⟨Nat.le_of_ble_eq_true rfl, Nat.le_of_ble_eq_true rfl⟩) ?_
            refine lv_topi (fun r6 (e6 : r6 = rM_owes n F a1 (nI jL76)) => ?_)
            refine lv_iadd hx hb dX8_told_91 ?_
            refine lv_istore_n (lv' := [(3, .int (xL76_3 + r6)), (4, .int (nI jL76)), (0, .ref h0), (1, .int a1), (2, .int a2)]) hx hb dX8_told_92 rfl hl (by decide) rfl (fun ls hl => ?_)
            refine lv_iinc (v := (nI (jL76 + 1))) (lv' := [(4, .int (nI (jL76 + 1))), (3, .int (xL76_3 + r6)), (0, .ref h0), (1, .int a1), (2, .int a2)]) hx hb dX8_told_93 hl (k := 1) rfl (show nI jL76 + 1 = nI (jL76 + 1) from nI_1 jL76) (by decide) rfl (fun ls hl => ?_)
            refine lv_goto (tgt := 76) hx hb dX8_told_96 (by decide) ?_
            have hI76 : (rM_told_L76 n F a1 (k + 1) jL76 xL76_3) = (rM_told_L76 n F a1 k (jL76 + 1) (xL76_3 + r6)) := by subst e6; exact rfl
            exact ih76 (jL76 + 1) (xL76_3 + r6) ls (by omega) (lv_sub hl [0, 1, 2, 3, 4] rfl) (by rw [← hI76]; exact hex)
        refine key76 12 0 0 ls (by omega) (lv_sub hl [0, 1, 2, 3, 4] rfl) (fun ls hl => ?_)
        obtain ⟨v7, e7⟩ : ∃ v7 : Int32, v7 = (rM_told_L76 n F a1 12 0 0) := ⟨_, rfl⟩
        rw [← e7] at hl
        refine lv_iload_n hx hb dX8_told_99 rfl (lv_at hl 4 rfl) ?_
        refine lv_bipush (v := 7) hx hb dX8_told_100 (by decide) ?_
        refine lv_icmp_ne (tgt := 109) hx hb dX8_told_102 (by decide) (fun h_8 => ?_) (fun h_8 => ?_)
        · skip
          refine lv_iconst (v := (-1)) hx hb dX8_told_109 (by decide) ?_
          have hq9 : rM_told n F a1 a2 = (-1) := by subst e7; exact (if_neg h_1).trans ((if_pos h_2).trans ((if_neg h_3).trans (if_neg h_8)))
          exact W.iret (v := (-1)) hx hb hr (fun t ht hW => ⟨by rw [hq9], ht⟩) (fun q h => by cases h) dX8_told_110
        · skip
          refine lv_iload_n hx hb dX8_told_105 rfl (lv_at hl 1 rfl) ?_
          refine lv_goto (tgt := 110) hx hb dX8_told_106 (by decide) ?_
          have hq10 : rM_told n F a1 a2 = v7 := by subst e7; exact (if_neg h_1).trans ((if_pos h_2).trans ((if_neg h_3).trans (if_pos h_8)))
          exact W.iret (v := v7) hx hb hr (fun t ht hW => ⟨by rw [hq10], ht⟩) (fun q h => by cases h) dX8_told_110
      · skip
        refine lv_iconst (v := 0) hx hb dX8_told_34 (by decide) ?_
        refine lv_istore (lv' := [(4, .int 0), (3, .int 0), (0, .ref h0), (1, .int a1), (2, .int a2)]) hx hb dX8_told_35 hl (by decide) rfl (fun ls hl => ?_)
        have key37 : ∀ (k jL37 : Nat) (xL37_3 : Int32) (ls : Array Slot), jL37 + k = (n 4) → lv_has ls 5 [(4, .int (nI jL37)), (3, .int xL37_3), (0, .ref h0), (1, .int a1), (2, .int a2)] → (∀ (ls : Array Slot), lv_has ls 5 [(4, .int (nI (n 4))), (3, .int (rM_told_L37 F a1 k jL37 xL37_3)), (0, .ref h0), (1, .int a1), (2, .int a2)] → W p l e (headSpec wsX8_told ({ frames := 3, cells := 0, slots := 0, locals := 65 })).room s m [.ref h0, .int a1, .int a2].toArray below meth c s.heap [] 0 0 (MQ below (pu_Q (.int (rM_told n F a1 a2))) [.ref h0, .int a1, .int a2].toArray s 0 0 pu_F) (F0 m 71 ls [])) → 
            W p l e (headSpec wsX8_told ({ frames := 3, cells := 0, slots := 0, locals := 65 })).room s m [.ref h0, .int a1, .int a2].toArray below meth c s.heap [] 0 0 (MQ below (pu_Q (.int (rM_told n F a1 a2))) [.ref h0, .int a1, .int a2].toArray s 0 0 pu_F) (F0 m 37 ls []) := by
          intro k
          induction k with
          | zero =>
            intro jL37 xL37_3 ls hj hl hex
            have hj : jL37 = (n 4) := by omega
            subst jL37
            refine lv_iload hx hb dX8_told_37 (lv_at hl 0 rfl) ?_
            refine lv_aload_n hx hb dX8_told_39 rfl (lv_at hl 2 rfl) ?_
            refine va_get (D := (dC, dI)) (ci := 7) (v := .int (nI (n 4))) (C := RX8) (T := TX8) (N := 37) hx hb hts hinX8 hown hK hP 0 rfl rfl 25 (by decide) (hts (.fieldLink RX8 144 "FurPostsModel" "letters" "I") (by decide +kernel)) (fun _ h9 => h9) rfl dX8_told_40 ?_
            refine lv_icmp_ge (tgt := 71) hx hb dX8_told_43 (by decide) (fun h_11 => ?_) (fun h_11 => absurd (lp_ge0 (B := (n 4)) rfl) h_11)
            exact hex ls (lv_sub hl [0, 1, 2, 3, 4] rfl)
          | succ k ih37 =>
            intro jL37 xL37_3 ls hj hl hex
            have hj37 : jL37 < (n 4) := by omega
            refine lv_iload hx hb dX8_told_37 (lv_at hl 0 rfl) ?_
            refine lv_aload_n hx hb dX8_told_39 rfl (lv_at hl 2 rfl) ?_
            refine va_get (D := (dC, dI)) (ci := 7) (v := .int (nI (n 4))) (C := RX8) (T := TX8) (N := 37) hx hb hts hinX8 hown hK hP 0 rfl rfl 25 (by decide) (hts (.fieldLink RX8 144 "FurPostsModel" "letters" "I") (by decide +kernel)) (fun _ h9 => h9) rfl dX8_told_40 ?_
            refine lv_icmp_ge (tgt := 71) hx hb dX8_told_43 (by decide) (fun h_12 => absurd h_12 (lp_ge (B := (n 4)) (by omega) (by omega) rfl)) (fun h_12 => ?_)
            refine lv_iload_n hx hb dX8_told_46 rfl (lv_at hl 1 rfl) ?_
            refine lv_aload_n hx hb dX8_told_47 rfl (lv_at hl 2 rfl) ?_
            refine va_get (D := (dC, dI)) (ci := 7) (v := .ref (q 28)) (C := RX8) (T := TX8) (N := 37) hx hb hts hinX8 hown hK hP 0 rfl rfl 28 (by decide) (hts (.fieldLink RX8 80 "FurPostsModel" "letterAt" "[I") (by decide +kernel)) (fun _ h9 => h9) rfl dX8_told_48 ?_
            refine lv_iload hx hb dX8_told_51 (lv_at hl 0 rfl) ?_
            refine va_iald hx hb hK hP 24 0 rfl rfl (i := (nI jL37)) (vp_in_nI (show jL37 < 300 by omega) (by decide)) dX8_told_53 ?_
            refine lv_topi (fun v13 (e13 : v13 = F 28 (nI jL37).toNatClampNeg) => ?_)
            rw [(nI_clamp (by omega))] at e13
            refine lv_iload_n hx hb dX8_told_54 rfl (lv_at hl 3 rfl) ?_
            refine lv_icmp_ne (tgt := 62) hx hb dX8_told_55 (by decide) (fun h_14 => ?_) (fun h_14 => ?_)
            · skip
              refine lv_iconst (v := 0) hx hb dX8_told_62 (by decide) ?_
              refine lv_iadd hx hb dX8_told_63 ?_
              refine lv_istore_n (lv' := [(3, .int (xL37_3 + 0)), (4, .int (nI jL37)), (0, .ref h0), (1, .int a1), (2, .int a2)]) hx hb dX8_told_64 rfl hl (by decide) rfl (fun ls hl => ?_)
              refine lv_iinc (v := (nI (jL37 + 1))) (lv' := [(4, .int (nI (jL37 + 1))), (3, .int (xL37_3 + 0)), (0, .ref h0), (1, .int a1), (2, .int a2)]) hx hb dX8_told_65 hl (k := 1) rfl (show nI jL37 + 1 = nI (jL37 + 1) from nI_1 jL37) (by decide) rfl (fun ls hl => ?_)
              refine lv_goto (tgt := 37) hx hb dX8_told_68 (by decide) ?_
              have hI37 : (rM_told_L37 F a1 (k + 1) jL37 xL37_3) = (rM_told_L37 F a1 k (jL37 + 1) (xL37_3 + 0)) := by subst e13; exact (if_neg h_14)
              exact ih37 (jL37 + 1) (xL37_3 + 0) ls (by omega) (lv_sub hl [0, 1, 2, 3, 4] rfl) (by rw [← hI37]; exact hex)
            · skip
              refine lv_iconst (v := 1) hx hb dX8_told_58 (by decide) ?_
              refine lv_goto (tgt := 63) hx hb dX8_told_59 (by decide) ?_
              refine lv_iadd hx hb dX8_told_63 ?_
              refine lv_istore_n (lv' := [(3, .int (xL37_3 + 1)), (4, .int (nI jL37)), (0, .ref h0), (1, .int a1), (2, .int a2)]) hx hb dX8_told_64 rfl hl (by decide) rfl (fun ls hl => ?_)
              refine lv_iinc (v := (nI (jL37 + 1))) (lv' := [(4, .int (nI (jL37 + 1))), (3, .int (xL37_3 + 1)), (0, .ref h0), (1, .int a1), (2, .int a2)]) hx hb dX8_told_65 hl (k := 1) rfl (show nI jL37 + 1 = nI (jL37 + 1) from nI_1 jL37) (by decide) rfl (fun ls hl => ?_)
              refine lv_goto (tgt := 37) hx hb dX8_told_68 (by decide) ?_
              have hI37 : (rM_told_L37 F a1 (k + 1) jL37 xL37_3) = (rM_told_L37 F a1 k (jL37 + 1) (xL37_3 + 1)) := by subst e13; exact (if_pos h_14)
              exact ih37 (jL37 + 1) (xL37_3 + 1) ls (by omega) (lv_sub hl [0, 1, 2, 3, 4] rfl) (by rw [← hI37]; exact hex)
        refine key37 (n 4) 0 0 ls (by omega) (lv_sub hl [0, 1, 2, 3, 4] rfl) (fun ls hl => ?_)
        obtain ⟨v15, e15⟩ : ∃ v15 : Int32, v15 = (rM_told_L37 F a1 (n 4) 0 0) := ⟨_, rfl⟩
        rw [← e15] at hl
        refine lv_iload_n hx hb dX8_told_71 rfl (lv_at hl 1 rfl) ?_
        have hq16 : rM_told n F a1 a2 = v15 := by subst e15; exact (if_neg h_1).trans ((if_pos h_2).trans (if_pos h_3))
        exact W.iret (v := v15) hx hb hr (fun t ht hW => ⟨by rw [hq16], ht⟩) (fun q h => by cases h) dX8_told_72
    · skip
      refine lv_aload_n hx hb dX8_told_19 rfl (lv_at hl 0 rfl) ?_
      refine lv_iload_n hx hb dX8_told_20 rfl (lv_at hl 1 rfl) ?_
      refine lv_iload_n hx hb dX8_told_21 rfl (lv_at hl 2 rfl) ?_
      refine pu_call (va_runV (As := [.int a1, .int a2]) (rest := []) ⟨hx, hb, hml, hown, hts⟩ (k_X8_stored l dC dI h0 q n cI cZ F hI hN a1 a2 (sp_vpn h_1 (show n 1 ≤ 8 by omega) (by decide)) (sp_vp h_2 rfl)) (cwV 2 hts gX8_told_X8_stored rfl rfl rfl (by decide +kernel) ⟨Nat.le_of_ble_eq_true rfl, Nat.le_of_ble_eq_true rfl⟩) (pu_pre hP hK (ci := 7) (q0 := 0) rfl rfl) rfl rfl hl.1 rfl (lv_room (Nat.le_of_ble_eq_true rfl)) dX8_told_22 ⟨Nat.le_of_ble_eq_true rfl, Nat.le_of_ble_eq_true rfl⟩) ?_
      refine lv_topi (fun r17 (e17 : r17 = rM_stored n F a1 a2) => ?_)
      have hq18 : rM_told n F a1 a2 = r17 := by subst e17; exact (if_neg h_1).trans (if_neg h_2)
      exact W.iret (v := r17) hx hb hr (fun t ht hW => ⟨by rw [hq18], ht⟩) (fun q h => by cases h) dX8_told_25
  · skip
    refine lv_iconst (v := (-1)) hx hb dX8_told_8 (by decide) ?_
    have hq19 : rM_told n F a1 a2 = (-1) := by exact (if_pos h_1)
    exact W.iret (v := (-1)) hx hb hr (fun t ht hW => ⟨by rw [hq19], ht⟩) (fun q h => by cases h) dX8_told_9

set_option maxHeartbeats 8000000 in
set_option maxRecDepth 100000 in
theorem k_X8_count (l : Launch) (dC : Nat → ClassId) (dI : Nat → Nat → Nat) (h0 : Nat) (q n : Nat → Nat) (cI cZ : ClassId) (F : Nat → Nat → Int32) (hI : mi_ n F) (hN : nb_ n) (a1 : Int32) (a2 : Int32) : Met l yX8_count wsX8_count ({ frames := 2, cells := 0, slots := 0, locals := 42 }) (va_Pc [.ref h0, .int a1, .int a2] (pu_P (dC, dI) vwCl (mt_ cI cZ) (mw_ h0 q n (F 44 0) cI cZ F))) (pu_Q (.int (rM_count n F a1 a2))) 0 0 pu_F := by
  refine Met.ofW (cc := cX8_count) (maxL := 3) (ret := (some .int)) (by decide) rfl ?_
  intro p e s m args below meth c s₁ B hml hv
  obtain ⟨rfl, hP, hK⟩ := hv
  have hx := B.exec
  have hb := B.bytes
  have hr := B.returns
  have hts := atoms_spec (ws := wsX8_count) B.pre
  have hown : s.vm.findClass RX8 = some m.cls := findClass_of_methodNamed B.named
  have hlocks := B.notSynchronized
  have hinX8 : ∀ w ∈ u_ws RX8 TX8 37, w ∈ wsX8_count := by decide +kernel
  have hl := lv_entry ([.ref h0, .int a1, .int a2]) (n := 3) (Nat.le_of_ble_eq_true rfl)
  rw [lg_entry_eq]
  generalize (lg_sl ([.ref h0, .int a1, .int a2]) ++ List.replicate (3 - (lg_sl ([.ref h0, .int a1, .int a2])).length) Slot.unset).toArray = ls at hl ⊢
  have hl : lv_has ls 3 [(0, .ref h0), (1, .int a1), (2, .int a2)] := hl
  refine lv_iload_n hx hb dX8_count_0 rfl (lv_at hl 2 rfl) ?_
  refine lv_iconst (v := 0) hx hb dX8_count_1 (by decide) ?_
  refine lv_iconst (v := 5) hx hb dX8_count_2 (by decide) ?_
  refine pu_call (va_runS (As := [.int a2, .int 0, .int 5]) (rest := []) ⟨hx, hb, hml, hown, hts⟩ (c_X8_in l a2 0 5) (va_cwS 3 hts gX8_count_X8_in rfl rfl rfl (by decide +kernel) ⟨Nat.le_of_ble_eq_true rfl, Nat.le_of_ble_eq_true rfl⟩) pu_preS rfl rfl hl.1 rfl (lv_room (Nat.le_of_ble_eq_true rfl)) dX8_count_3 ⟨Nat.le_of_ble_eq_true rfl, Nat.le_of_ble_eq_true rfl⟩) ?_
  refine lv_if_ne (tgt := 11) hx hb dX8_count_6 (by decide) (fun h_1 => ?_) (fun h_1 => ?_)
  · skip
    refine lv_iload_n hx hb dX8_count_11 rfl (lv_at hl 1 rfl) ?_
    refine pu_call (va_runS (As := [.int a1]) (rest := []) ⟨hx, hb, hml, hown, hts⟩ (c_X8_isWare l a1) (va_cwS 1 hts gX8_count_X8_isWare rfl rfl rfl (by decide +kernel) ⟨Nat.le_of_ble_eq_true rfl, Nat.le_of_ble_eq_true rfl⟩) pu_preS rfl rfl hl.1 rfl (lv_room (Nat.le_of_ble_eq_true rfl)) dX8_count_12 ⟨Nat.le_of_ble_eq_true rfl, Nat.le_of_ble_eq_true rfl⟩) ?_
    refine lv_if_eq (tgt := 30) hx hb dX8_count_15 (by decide) (fun h_2 => ?_) (fun h_2 => ?_)
    · skip
      refine lv_iload_n hx hb dX8_count_30 rfl (lv_at hl 1 rfl) ?_
      refine lv_iconst (v := (-1)) hx hb dX8_count_31 (by decide) ?_
      refine lv_icmp_eq (tgt := 37) hx hb dX8_count_32 (by decide) (fun h_3 => ?_) (fun h_3 => ?_)
      · skip
        refine lv_iload_n hx hb dX8_count_37 rfl (lv_at hl 2 rfl) ?_
        rcases (Decidable.em (a2 = 0)) with q_4 | q_4
        · refine lv_tableIn (off := 34) (tgt := 72) hx hb dX8_count_38 (by rw [q_4]; decide) (by rw [q_4]; decide) (by rw [q_4]; rfl) (by decide) ?_
          refine lv_aload_n hx hb dX8_count_72 rfl (lv_at hl 0 rfl) ?_
          refine va_get (D := (dC, dI)) (ci := 7) (v := .int (nI (n 0))) (C := RX8) (T := TX8) (N := 37) hx hb hts hinX8 hown hK hP 0 rfl rfl 0 (by decide) (hts (.fieldLink RX8 137 "FurPostsModel" "now" "I") (by decide +kernel)) (fun _ h9 => h9) rfl dX8_count_73 ?_
          have hq5 : rM_count n F a1 a2 = (nI (n 0)) := by exact (if_neg h_1).trans ((if_pos h_2).trans ((if_pos h_3).trans (if_pos q_4)))
          exact W.iret (v := (nI (n 0))) hx hb hr (fun t ht hW => ⟨by rw [hq5], ht⟩) (fun q h => by cases h) dX8_count_76
        rcases (Decidable.em (a2 = 1)) with q_6 | q_6
        · refine lv_tableIn (off := 39) (tgt := 77) hx hb dX8_count_38 (by rw [q_6]; decide) (by rw [q_6]; decide) (by rw [q_6]; rfl) (by decide) ?_
          refine lv_aload_n hx hb dX8_count_77 rfl (lv_at hl 0 rfl) ?_
          refine va_get (D := (dC, dI)) (ci := 7) (v := .int (nI (n 1))) (C := RX8) (T := TX8) (N := 37) hx hb hts hinX8 hown hK hP 0 rfl rfl 1 (by decide) (hts (.fieldLink RX8 104 "FurPostsModel" "posts" "I") (by decide +kernel)) (fun _ h9 => h9) rfl dX8_count_78 ?_
          have hq7 : rM_count n F a1 a2 = (nI (n 1)) := by exact (if_neg h_1).trans ((if_pos h_2).trans ((if_pos h_3).trans ((if_neg q_4).trans (if_pos q_6))))
          exact W.iret (v := (nI (n 1))) hx hb hr (fun t ht hW => ⟨by rw [hq7], ht⟩) (fun q h => by cases h) dX8_count_81
        rcases (Decidable.em (a2 = 2)) with q_8 | q_8
        · refine lv_tableIn (off := 44) (tgt := 82) hx hb dX8_count_38 (by rw [q_8]; decide) (by rw [q_8]; decide) (by rw [q_8]; rfl) (by decide) ?_
          refine lv_aload_n hx hb dX8_count_82 rfl (lv_at hl 0 rfl) ?_
          refine va_get (D := (dC, dI)) (ci := 7) (v := .int (nI (n 2))) (C := RX8) (T := TX8) (N := 37) hx hb hts hinX8 hown hK hP 0 rfl rfl 5 (by decide) (hts (.fieldLink RX8 115 "FurPostsModel" "ways" "I") (by decide +kernel)) (fun _ h9 => h9) rfl dX8_count_83 ?_
          have hq9 : rM_count n F a1 a2 = (nI (n 2)) := by exact (if_neg h_1).trans ((if_pos h_2).trans ((if_pos h_3).trans ((if_neg q_4).trans ((if_neg q_6).trans (if_pos q_8)))))
          exact W.iret (v := (nI (n 2))) hx hb hr (fun t ht hW => ⟨by rw [hq9], ht⟩) (fun q h => by cases h) dX8_count_86
        rcases (Decidable.em (a2 = 3)) with q_10 | q_10
        · refine lv_tableIn (off := 49) (tgt := 87) hx hb dX8_count_38 (by rw [q_10]; decide) (by rw [q_10]; decide) (by rw [q_10]; rfl) (by decide) ?_
          refine lv_aload_n hx hb dX8_count_87 rfl (lv_at hl 0 rfl) ?_
          refine va_get (D := (dC, dI)) (ci := 7) (v := .int (nI (n 3))) (C := RX8) (T := TX8) (N := 37) hx hb hts hinX8 hown hK hP 0 rfl rfl 13 (by decide) (hts (.fieldLink RX8 112 "FurPostsModel" "canoes" "I") (by decide +kernel)) (fun _ h9 => h9) rfl dX8_count_88 ?_
          have hq11 : rM_count n F a1 a2 = (nI (n 3)) := by exact (if_neg h_1).trans ((if_pos h_2).trans ((if_pos h_3).trans ((if_neg q_4).trans ((if_neg q_6).trans ((if_neg q_8).trans (if_pos q_10))))))
          exact W.iret (v := (nI (n 3))) hx hb hr (fun t ht hW => ⟨by rw [hq11], ht⟩) (fun q h => by cases h) dX8_count_91
        rcases (Decidable.em (a2 = 4)) with q_12 | q_12
        · refine lv_tableIn (off := 54) (tgt := 92) hx hb dX8_count_38 (by rw [q_12]; decide) (by rw [q_12]; decide) (by rw [q_12]; rfl) (by decide) ?_
          refine lv_aload_n hx hb dX8_count_92 rfl (lv_at hl 0 rfl) ?_
          refine va_get (D := (dC, dI)) (ci := 7) (v := .int (nI (n 4))) (C := RX8) (T := TX8) (N := 37) hx hb hts hinX8 hown hK hP 0 rfl rfl 25 (by decide) (hts (.fieldLink RX8 144 "FurPostsModel" "letters" "I") (by decide +kernel)) (fun _ h9 => h9) rfl dX8_count_93 ?_
          have hq13 : rM_count n F a1 a2 = (nI (n 4)) := by exact (if_neg h_1).trans ((if_pos h_2).trans ((if_pos h_3).trans ((if_neg q_4).trans ((if_neg q_6).trans ((if_neg q_8).trans ((if_neg q_10).trans (if_pos q_12)))))))
          exact W.iret (v := (nI (n 4))) hx hb hr (fun t ht hW => ⟨by rw [hq13], ht⟩) (fun q h => by cases h) dX8_count_96
        refine lv_tableOut (tgt := 97) hx hb dX8_count_38 (by have j_0 := sw_n (n := 0) (k := 0) q_4 (by decide); have j_1 := sw_n (n := 1) (k := 1) q_6 (by decide); have j_2 := sw_n (n := 2) (k := 2) q_8 (by decide); have j_3 := sw_n (n := 3) (k := 3) q_10 (by decide); have j_4 := sw_n (n := 4) (k := 4) q_12 (by decide); omega) (by decide) ?_
        refine lv_aload_n hx hb dX8_count_97 rfl (lv_at hl 0 rfl) ?_
        refine va_get (D := (dC, dI)) (ci := 7) (v := .int (F 44 0)) (C := RX8) (T := TX8) (N := 37) hx hb hts hinX8 hown hK hP 0 rfl rfl 35 (by decide) (hts (.fieldLink RX8 156 "FurPostsModel" "debtsLost" "I") (by decide +kernel)) (fun _ h9 => h9) rfl dX8_count_98 ?_
        refine lv_topi (fun v14 (e14 : v14 = F 44 0) => ?_)
        have hq15 : rM_count n F a1 a2 = v14 := by subst e14; exact (if_neg h_1).trans ((if_pos h_2).trans ((if_pos h_3).trans ((if_neg q_4).trans ((if_neg q_6).trans ((if_neg q_8).trans ((if_neg q_10).trans (if_neg q_12)))))))
        exact W.iret (v := v14) hx hb hr (fun t ht hW => ⟨by rw [hq15], ht⟩) (fun q h => by cases h) dX8_count_101
      · skip
        refine lv_iconst (v := (-1)) hx hb dX8_count_35 (by decide) ?_
        have hq16 : rM_count n F a1 a2 = (-1) := by exact (if_neg h_1).trans ((if_pos h_2).trans (if_neg h_3))
        exact W.iret (v := (-1)) hx hb hr (fun t ht hW => ⟨by rw [hq16], ht⟩) (fun q h => by cases h) dX8_count_36
    · skip
      refine lv_aload_n hx hb dX8_count_18 rfl (lv_at hl 0 rfl) ?_
      refine va_get (D := (dC, dI)) (ci := 7) (v := .ref (q 34)) (C := RX8) (T := TX8) (N := 37) hx hb hts hinX8 hown hK hP 0 rfl rfl 34 (by decide) (hts (.fieldLink RX8 98 "FurPostsModel" "sums" "[I") (by decide +kernel)) (fun _ h9 => h9) rfl dX8_count_19 ?_
      refine lv_bipush (v := 6) hx hb dX8_count_22 (by decide) ?_
      refine lv_iload_n hx hb dX8_count_24 rfl (lv_at hl 2 rfl) ?_
      refine lv_imul hx hb dX8_count_25 ?_
      refine lv_iload_n hx hb dX8_count_26 rfl (lv_at hl 1 rfl) ?_
      refine lv_iadd hx hb dX8_count_27 ?_
      refine va_iald hx hb hK hP 30 0 rfl rfl (i := ((6 * a2) + a1)) (vp_lin (a := 6) (b := 6) (m := 6) (sp_vp h_1 rfl) (sp_vp h_2 rfl) rfl (by decide)) dX8_count_28 ?_
      refine lv_topi (fun v17 (e17 : v17 = F 34 ((6 * a2) + a1).toNatClampNeg) => ?_)
      rw [(tn_lin (k := 6) (a := 6) (b := 6) (m := 6) (sp_vp h_1 rfl) (sp_vp h_2 rfl) rfl (by decide))] at e17
      have hq18 : rM_count n F a1 a2 = v17 := by subst e17; exact (if_neg h_1).trans (if_neg h_2)
      exact W.iret (v := v17) hx hb hr (fun t ht hW => ⟨by rw [hq18], ht⟩) (fun q h => by cases h) dX8_count_29
  · skip
    refine lv_iconst (v := (-1)) hx hb dX8_count_9 (by decide) ?_
    have hq19 : rM_count n F a1 a2 = (-1) := by exact (if_pos h_1)
    exact W.iret (v := (-1)) hx hb hr (fun t ht hW => ⟨by rw [hq19], ht⟩) (fun q h => by cases h) dX8_count_10
