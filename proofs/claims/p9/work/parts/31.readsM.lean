set_option maxHeartbeats 4000000 in
set_option maxRecDepth 100000 in
theorem k_X8_isPost (l : Launch) (dC : Nat → ClassId) (dI : Nat → Nat → Nat) (h0 : Nat) (q n : Nat → Nat) (dl : Int32) (cI cZ : ClassId) (F : Nat → Nat → Int32) (hI : mi_ n F) (hN : nb_ n) (a1 : Int32) : Met l yX8_isPost wsX8_isPost ({ frames := 1, cells := 0, slots := 0, locals := 22 }) (va_Pc [.ref h0, .int a1] (pu_P (dC, dI) vwCl (mt_ cI cZ) (mw_ h0 q n dl cI cZ F))) (pg_Q (gi_ (fun r => ¬ r = 0 → vp_in a1 8))) 0 0 pu_F := by
  refine Met.ofW (cc := cX8_isPost) (maxL := 2) (ret := (some .boolean)) (by decide) rfl ?_
  intro p e s m args below meth c s₁ B hml hv
  obtain ⟨rfl, hP, hK⟩ := hv
  have hx := B.exec
  have hb := B.bytes
  have hr := B.returns
  have hts := atoms_spec (ws := wsX8_isPost) B.pre
  have hown : s.vm.findClass RX8 = some m.cls := findClass_of_methodNamed B.named
  have hlocks := B.notSynchronized
  have hinX8 : ∀ w ∈ u_ws RX8 TX8 37, w ∈ wsX8_isPost := by decide +kernel
  have hl := lv_entry ([.ref h0, .int a1]) (n := 2) (Nat.le_of_ble_eq_true rfl)
  rw [lg_entry_eq]
  generalize (lg_sl ([.ref h0, .int a1]) ++ List.replicate (2 - (lg_sl ([.ref h0, .int a1])).length) Slot.unset).toArray = ls at hl ⊢
  have hl : lv_has ls 2 [(0, .ref h0), (1, .int a1)] := hl
  refine lv_iload_n hx hb dX8_isPost_0 rfl (lv_at hl 1 rfl) ?_
  refine lv_iconst (v := 0) hx hb dX8_isPost_1 (by decide) ?_
  refine lv_aload_n hx hb dX8_isPost_2 rfl (lv_at hl 0 rfl) ?_
  refine va_get (D := (dC, dI)) (ci := 7) (v := .int (nI (n 1))) (C := RX8) (T := TX8) (N := 37) hx hb hts hinX8 hown hK hP 0 rfl rfl 1 (by decide) (hts (.fieldLink RX8 104 "FurPostsModel" "posts" "I") (by decide +kernel)) (fun _ h9 => h9) rfl dX8_isPost_3 ?_
  refine lv_iconst (v := 1) hx hb dX8_isPost_6 (by decide) ?_
  refine lv_isub hx hb dX8_isPost_7 ?_
  refine pu_call (va_runS (As := [.int a1, .int 0, .int ((nI (n 1)) - 1)]) (rest := []) ⟨hx, hb, hml, hown, hts⟩ (c_X8_in l a1 0 ((nI (n 1)) - 1)) (va_cwS 3 hts gX8_isPost_X8_in rfl rfl rfl (by decide +kernel) ⟨Nat.le_of_ble_eq_true rfl, Nat.le_of_ble_eq_true rfl⟩) pu_preS rfl rfl hl.1 rfl (lv_room (Nat.le_of_ble_eq_true rfl)) dX8_isPost_8 ⟨Nat.le_of_ble_eq_true rfl, Nat.le_of_ble_eq_true rfl⟩) ?_
  exact W.zret (v := (sp_in a1 0 ((nI (n 1)) - 1))) hx hb hr (sp_narrow _ _ _) (fun t ht hW => ⟨_, rfl, ⟨(sp_in a1 0 ((nI (n 1)) - 1)), rfl, (fun z => sp_vpn z (show n 1 ≤ 8 by omega) (by decide))⟩, ht⟩) (fun q h => by cases h) dX8_isPost_11

set_option maxHeartbeats 4000000 in
set_option maxRecDepth 100000 in
theorem k_X8_isCanoe (l : Launch) (dC : Nat → ClassId) (dI : Nat → Nat → Nat) (h0 : Nat) (q n : Nat → Nat) (dl : Int32) (cI cZ : ClassId) (F : Nat → Nat → Int32) (hI : mi_ n F) (hN : nb_ n) (a1 : Int32) : Met l yX8_isCanoe wsX8_isCanoe ({ frames := 1, cells := 0, slots := 0, locals := 22 }) (va_Pc [.ref h0, .int a1] (pu_P (dC, dI) vwCl (mt_ cI cZ) (mw_ h0 q n dl cI cZ F))) (pg_Q (gi_ (fun r => ¬ r = 0 → vp_in a1 120))) 0 0 pu_F := by
  refine Met.ofW (cc := cX8_isCanoe) (maxL := 2) (ret := (some .boolean)) (by decide) rfl ?_
  intro p e s m args below meth c s₁ B hml hv
  obtain ⟨rfl, hP, hK⟩ := hv
  have hx := B.exec
  have hb := B.bytes
  have hr := B.returns
  have hts := atoms_spec (ws := wsX8_isCanoe) B.pre
  have hown : s.vm.findClass RX8 = some m.cls := findClass_of_methodNamed B.named
  have hlocks := B.notSynchronized
  have hinX8 : ∀ w ∈ u_ws RX8 TX8 37, w ∈ wsX8_isCanoe := by decide +kernel
  have hl := lv_entry ([.ref h0, .int a1]) (n := 2) (Nat.le_of_ble_eq_true rfl)
  rw [lg_entry_eq]
  generalize (lg_sl ([.ref h0, .int a1]) ++ List.replicate (2 - (lg_sl ([.ref h0, .int a1])).length) Slot.unset).toArray = ls at hl ⊢
  have hl : lv_has ls 2 [(0, .ref h0), (1, .int a1)] := hl
  refine lv_iload_n hx hb dX8_isCanoe_0 rfl (lv_at hl 1 rfl) ?_
  refine lv_iconst (v := 0) hx hb dX8_isCanoe_1 (by decide) ?_
  refine lv_aload_n hx hb dX8_isCanoe_2 rfl (lv_at hl 0 rfl) ?_
  refine va_get (D := (dC, dI)) (ci := 7) (v := .int (nI (n 3))) (C := RX8) (T := TX8) (N := 37) hx hb hts hinX8 hown hK hP 0 rfl rfl 13 (by decide) (hts (.fieldLink RX8 112 "FurPostsModel" "canoes" "I") (by decide +kernel)) (fun _ h9 => h9) rfl dX8_isCanoe_3 ?_
  refine lv_iconst (v := 1) hx hb dX8_isCanoe_6 (by decide) ?_
  refine lv_isub hx hb dX8_isCanoe_7 ?_
  refine pu_call (va_runS (As := [.int a1, .int 0, .int ((nI (n 3)) - 1)]) (rest := []) ⟨hx, hb, hml, hown, hts⟩ (c_X8_in l a1 0 ((nI (n 3)) - 1)) (va_cwS 3 hts gX8_isCanoe_X8_in rfl rfl rfl (by decide +kernel) ⟨Nat.le_of_ble_eq_true rfl, Nat.le_of_ble_eq_true rfl⟩) pu_preS rfl rfl hl.1 rfl (lv_room (Nat.le_of_ble_eq_true rfl)) dX8_isCanoe_8 ⟨Nat.le_of_ble_eq_true rfl, Nat.le_of_ble_eq_true rfl⟩) ?_
  exact W.zret (v := (sp_in a1 0 ((nI (n 3)) - 1))) hx hb hr (sp_narrow _ _ _) (fun t ht hW => ⟨_, rfl, ⟨(sp_in a1 0 ((nI (n 3)) - 1)), rfl, (fun z => sp_vpn z (show n 3 ≤ 120 by omega) (by decide))⟩, ht⟩) (fun q h => by cases h) dX8_isCanoe_11

set_option maxHeartbeats 4000000 in
set_option maxRecDepth 100000 in
theorem k_X8_between (l : Launch) (dC : Nat → ClassId) (dI : Nat → Nat → Nat) (h0 : Nat) (q n : Nat → Nat) (dl : Int32) (cI cZ : ClassId) (F : Nat → Nat → Int32) (hI : mi_ n F) (hN : nb_ n) (a1 : Int32) (a2 : Int32) : Met l yX8_between wsX8_between ({ frames := 0, cells := 0, slots := 0, locals := 0 }) (va_Pc [.ref h0, .int a1, .int a2] (pu_P (dC, dI) vwCl (mt_ cI cZ) (mw_ h0 q n dl cI cZ F))) (pg_Q (gi_ (fun r => True))) 0 0 pu_F := by
  refine Met.ofW (cc := cX8_between) (maxL := 4) (ret := (some .int)) (by decide) rfl ?_
  intro p e s m args below meth c s₁ B hml hv
  obtain ⟨rfl, hP, hK⟩ := hv
  have hx := B.exec
  have hb := B.bytes
  have hr := B.returns
  have hts := atoms_spec (ws := wsX8_between) B.pre
  have hown : s.vm.findClass RX8 = some m.cls := findClass_of_methodNamed B.named
  have hlocks := B.notSynchronized
  have hinX8 : ∀ w ∈ u_ws RX8 TX8 37, w ∈ wsX8_between := by decide +kernel
  have hl := lv_entry ([.ref h0, .int a1, .int a2]) (n := 4) (Nat.le_of_ble_eq_true rfl)
  rw [lg_entry_eq]
  generalize (lg_sl ([.ref h0, .int a1, .int a2]) ++ List.replicate (4 - (lg_sl ([.ref h0, .int a1, .int a2])).length) Slot.unset).toArray = ls at hl ⊢
  have hl : lv_has ls 4 [(0, .ref h0), (1, .int a1), (2, .int a2)] := hl
  refine lv_iconst (v := 0) hx hb dX8_between_0 (by decide) ?_
  refine lv_istore_n (lv' := [(3, .int 0), (0, .ref h0), (1, .int a1), (2, .int a2)]) hx hb dX8_between_1 rfl hl (by decide) rfl (fun ls hl => ?_)
  have key2 : ∀ (k j2 : Nat) (ls : Array Slot), j2 + k = (n 2) → lv_has ls 4 [(3, .int (nI j2)), (0, .ref h0), (1, .int a1), (2, .int a2)] →
      W p l e (headSpec wsX8_between ({ frames := 0, cells := 0, slots := 0, locals := 0 })).room s m [.ref h0, .int a1, .int a2].toArray below meth c s.heap [] 0 0 (MQ below (pg_Q (gi_ (fun r => True))) [.ref h0, .int a1, .int a2].toArray s 0 0 pu_F) (F0 m 2 ls []) := by
    intro k
    induction k with
    | zero =>
      intro j2 ls hj hl
      have hj : j2 = (n 2) := by omega
      subst j2
      refine lv_iload_n hx hb dX8_between_2 rfl (lv_at hl 0 rfl) ?_
      refine lv_aload_n hx hb dX8_between_3 rfl (lv_at hl 1 rfl) ?_
      refine va_get (D := (dC, dI)) (ci := 7) (v := .int (nI (n 2))) (C := RX8) (T := TX8) (N := 37) hx hb hts hinX8 hown hK hP 0 rfl rfl 5 (by decide) (hts (.fieldLink RX8 115 "FurPostsModel" "ways" "I") (by decide +kernel)) (fun _ h9 => h9) rfl dX8_between_4 ?_
      refine lv_icmp_ge (tgt := 58) hx hb dX8_between_7 (by decide) (fun h_1 => ?_) (fun h_1 => absurd (lp_ge0 (B := (n 2)) rfl) h_1)
      refine lv_iconst (v := (-1)) hx hb dX8_between_58 (by decide) ?_
      exact W.iret (v := (-1)) hx hb hr (fun t ht hW => ⟨_, rfl, ⟨(-1), rfl, trivial⟩, ht⟩) (fun q h => by cases h) dX8_between_59
    | succ k ih2 =>
      intro j2 ls hj hl
      have hj2 : j2 < (n 2) := by omega
      refine lv_iload_n hx hb dX8_between_2 rfl (lv_at hl 0 rfl) ?_
      refine lv_aload_n hx hb dX8_between_3 rfl (lv_at hl 1 rfl) ?_
      refine va_get (D := (dC, dI)) (ci := 7) (v := .int (nI (n 2))) (C := RX8) (T := TX8) (N := 37) hx hb hts hinX8 hown hK hP 0 rfl rfl 5 (by decide) (hts (.fieldLink RX8 115 "FurPostsModel" "ways" "I") (by decide +kernel)) (fun _ h9 => h9) rfl dX8_between_4 ?_
      refine lv_icmp_ge (tgt := 58) hx hb dX8_between_7 (by decide) (fun h_2 => absurd h_2 (lp_ge (B := (n 2)) (by omega) (by omega) rfl)) (fun h_2 => ?_)
      refine lv_aload_n hx hb dX8_between_10 rfl (lv_at hl 1 rfl) ?_
      refine va_get (D := (dC, dI)) (ci := 7) (v := .ref (q 6)) (C := RX8) (T := TX8) (N := 37) hx hb hts hinX8 hown hK hP 0 rfl rfl 6 (by decide) (hts (.fieldLink RX8 19 "FurPostsModel" "wayA" "[I") (by decide +kernel)) (fun _ h9 => h9) rfl dX8_between_11 ?_
      refine lv_iload_n hx hb dX8_between_14 rfl (lv_at hl 0 rfl) ?_
      refine va_iald hx hb hK hP 4 0 rfl rfl (i := (nI j2)) (vp_in_nI (show j2 < 12 by omega) (by decide)) dX8_between_15 ?_
      refine lv_iload_n hx hb dX8_between_16 rfl (lv_at hl 2 rfl) ?_
      refine lv_icmp_ne (tgt := 30) hx hb dX8_between_17 (by decide) (fun h_3 => ?_) (fun h_3 => ?_)
      · skip
        refine lv_aload_n hx hb dX8_between_30 rfl (lv_at hl 1 rfl) ?_
        refine va_get (D := (dC, dI)) (ci := 7) (v := .ref (q 6)) (C := RX8) (T := TX8) (N := 37) hx hb hts hinX8 hown hK hP 0 rfl rfl 6 (by decide) (hts (.fieldLink RX8 19 "FurPostsModel" "wayA" "[I") (by decide +kernel)) (fun _ h9 => h9) rfl dX8_between_31 ?_
        refine lv_iload_n hx hb dX8_between_34 rfl (lv_at hl 0 rfl) ?_
        refine va_iald hx hb hK hP 4 0 rfl rfl (i := (nI j2)) (vp_in_nI (show j2 < 12 by omega) (by decide)) dX8_between_35 ?_
        refine lv_iload_n hx hb dX8_between_36 rfl (lv_at hl 3 rfl) ?_
        refine lv_icmp_ne (tgt := 52) hx hb dX8_between_37 (by decide) (fun h_4 => ?_) (fun h_4 => ?_)
        · skip
          refine lv_iinc (v := (nI (j2 + 1))) (lv' := [(3, .int (nI (j2 + 1))), (0, .ref h0), (1, .int a1), (2, .int a2)]) hx hb dX8_between_52 hl (k := 0) rfl (show nI j2 + 1 = nI (j2 + 1) from nI_1 j2) (by decide) rfl (fun ls hl => ?_)
          refine lv_goto (tgt := 2) hx hb dX8_between_55 (by decide) ?_
          exact ih2 (j2 + 1) ls (by omega) (lv_sub hl [0, 1, 2, 3] rfl)
        · skip
          refine lv_aload_n hx hb dX8_between_40 rfl (lv_at hl 1 rfl) ?_
          refine va_get (D := (dC, dI)) (ci := 7) (v := .ref (q 7)) (C := RX8) (T := TX8) (N := 37) hx hb hts hinX8 hown hK hP 0 rfl rfl 7 (by decide) (hts (.fieldLink RX8 22 "FurPostsModel" "wayB" "[I") (by decide +kernel)) (fun _ h9 => h9) rfl dX8_between_41 ?_
          refine lv_iload_n hx hb dX8_between_44 rfl (lv_at hl 0 rfl) ?_
          refine va_iald hx hb hK hP 5 0 rfl rfl (i := (nI j2)) (vp_in_nI (show j2 < 12 by omega) (by decide)) dX8_between_45 ?_
          refine lv_iload_n hx hb dX8_between_46 rfl (lv_at hl 2 rfl) ?_
          refine lv_icmp_ne (tgt := 52) hx hb dX8_between_47 (by decide) (fun h_5 => ?_) (fun h_5 => ?_)
          · skip
            refine lv_iinc (v := (nI (j2 + 1))) (lv' := [(3, .int (nI (j2 + 1))), (0, .ref h0), (1, .int a1), (2, .int a2)]) hx hb dX8_between_52 hl (k := 0) rfl (show nI j2 + 1 = nI (j2 + 1) from nI_1 j2) (by decide) rfl (fun ls hl => ?_)
            refine lv_goto (tgt := 2) hx hb dX8_between_55 (by decide) ?_
            exact ih2 (j2 + 1) ls (by omega) (lv_sub hl [0, 1, 2, 3] rfl)
          · skip
            refine lv_iload_n hx hb dX8_between_50 rfl (lv_at hl 0 rfl) ?_
            exact W.iret (v := (nI j2)) hx hb hr (fun t ht hW => ⟨_, rfl, ⟨(nI j2), rfl, trivial⟩, ht⟩) (fun q h => by cases h) dX8_between_51
      · skip
        refine lv_aload_n hx hb dX8_between_20 rfl (lv_at hl 1 rfl) ?_
        refine va_get (D := (dC, dI)) (ci := 7) (v := .ref (q 7)) (C := RX8) (T := TX8) (N := 37) hx hb hts hinX8 hown hK hP 0 rfl rfl 7 (by decide) (hts (.fieldLink RX8 22 "FurPostsModel" "wayB" "[I") (by decide +kernel)) (fun _ h9 => h9) rfl dX8_between_21 ?_
        refine lv_iload_n hx hb dX8_between_24 rfl (lv_at hl 0 rfl) ?_
        refine va_iald hx hb hK hP 5 0 rfl rfl (i := (nI j2)) (vp_in_nI (show j2 < 12 by omega) (by decide)) dX8_between_25 ?_
        refine lv_iload_n hx hb dX8_between_26 rfl (lv_at hl 3 rfl) ?_
        refine lv_icmp_eq (tgt := 50) hx hb dX8_between_27 (by decide) (fun h_6 => ?_) (fun h_6 => ?_)
        · skip
          refine lv_iload_n hx hb dX8_between_50 rfl (lv_at hl 0 rfl) ?_
          exact W.iret (v := (nI j2)) hx hb hr (fun t ht hW => ⟨_, rfl, ⟨(nI j2), rfl, trivial⟩, ht⟩) (fun q h => by cases h) dX8_between_51
        · skip
          refine lv_aload_n hx hb dX8_between_30 rfl (lv_at hl 1 rfl) ?_
          refine va_get (D := (dC, dI)) (ci := 7) (v := .ref (q 6)) (C := RX8) (T := TX8) (N := 37) hx hb hts hinX8 hown hK hP 0 rfl rfl 6 (by decide) (hts (.fieldLink RX8 19 "FurPostsModel" "wayA" "[I") (by decide +kernel)) (fun _ h9 => h9) rfl dX8_between_31 ?_
          refine lv_iload_n hx hb dX8_between_34 rfl (lv_at hl 0 rfl) ?_
          refine va_iald hx hb hK hP 4 0 rfl rfl (i := (nI j2)) (vp_in_nI (show j2 < 12 by omega) (by decide)) dX8_between_35 ?_
          refine lv_iload_n hx hb dX8_between_36 rfl (lv_at hl 3 rfl) ?_
          refine lv_icmp_ne (tgt := 52) hx hb dX8_between_37 (by decide) (fun h_7 => ?_) (fun h_7 => ?_)
          · skip
            refine lv_iinc (v := (nI (j2 + 1))) (lv' := [(3, .int (nI (j2 + 1))), (0, .ref h0), (1, .int a1), (2, .int a2)]) hx hb dX8_between_52 hl (k := 0) rfl (show nI j2 + 1 = nI (j2 + 1) from nI_1 j2) (by decide) rfl (fun ls hl => ?_)
            refine lv_goto (tgt := 2) hx hb dX8_between_55 (by decide) ?_
            exact ih2 (j2 + 1) ls (by omega) (lv_sub hl [0, 1, 2, 3] rfl)
          · skip
            refine lv_aload_n hx hb dX8_between_40 rfl (lv_at hl 1 rfl) ?_
            refine va_get (D := (dC, dI)) (ci := 7) (v := .ref (q 7)) (C := RX8) (T := TX8) (N := 37) hx hb hts hinX8 hown hK hP 0 rfl rfl 7 (by decide) (hts (.fieldLink RX8 22 "FurPostsModel" "wayB" "[I") (by decide +kernel)) (fun _ h9 => h9) rfl dX8_between_41 ?_
            refine lv_iload_n hx hb dX8_between_44 rfl (lv_at hl 0 rfl) ?_
            refine va_iald hx hb hK hP 5 0 rfl rfl (i := (nI j2)) (vp_in_nI (show j2 < 12 by omega) (by decide)) dX8_between_45 ?_
            refine lv_iload_n hx hb dX8_between_46 rfl (lv_at hl 2 rfl) ?_
            refine lv_icmp_ne (tgt := 52) hx hb dX8_between_47 (by decide) (fun h_8 => ?_) (fun h_8 => ?_)
            · skip
              refine lv_iinc (v := (nI (j2 + 1))) (lv' := [(3, .int (nI (j2 + 1))), (0, .ref h0), (1, .int a1), (2, .int a2)]) hx hb dX8_between_52 hl (k := 0) rfl (show nI j2 + 1 = nI (j2 + 1) from nI_1 j2) (by decide) rfl (fun ls hl => ?_)
              refine lv_goto (tgt := 2) hx hb dX8_between_55 (by decide) ?_
              exact ih2 (j2 + 1) ls (by omega) (lv_sub hl [0, 1, 2, 3] rfl)
            · skip
              refine lv_iload_n hx hb dX8_between_50 rfl (lv_at hl 0 rfl) ?_
              exact W.iret (v := (nI j2)) hx hb hr (fun t ht hW => ⟨_, rfl, ⟨(nI j2), rfl, trivial⟩, ht⟩) (fun q h => by cases h) dX8_between_51
  exact key2 (n 2) 0 ls (by omega) (lv_sub hl [0, 1, 2, 3] rfl)

set_option maxHeartbeats 4000000 in
set_option maxRecDepth 100000 in
theorem k_X8_isOpen (l : Launch) (dC : Nat → ClassId) (dI : Nat → Nat → Nat) (h0 : Nat) (q n : Nat → Nat) (dl : Int32) (cI cZ : ClassId) (F : Nat → Nat → Int32) (hI : mi_ n F) (hN : nb_ n) (a1 : Int32) (a2 : Int32) (hb0 : vp_in a1 12) : Met l yX8_isOpen wsX8_isOpen ({ frames := 1, cells := 0, slots := 0, locals := 22 }) (va_Pc [.ref h0, .int a1, .int a2] (pu_P (dC, dI) vwCl (mt_ cI cZ) (mw_ h0 q n dl cI cZ F))) (pg_Q (gi_ (fun r => True))) 0 0 pu_F := by
  refine Met.ofW (cc := cX8_isOpen) (maxL := 3) (ret := (some .boolean)) (by decide) rfl ?_
  intro p e s m args below meth c s₁ B hml hv
  obtain ⟨rfl, hP, hK⟩ := hv
  have hx := B.exec
  have hb := B.bytes
  have hr := B.returns
  have hts := atoms_spec (ws := wsX8_isOpen) B.pre
  have hown : s.vm.findClass RX8 = some m.cls := findClass_of_methodNamed B.named
  have hlocks := B.notSynchronized
  have hinX8 : ∀ w ∈ u_ws RX8 TX8 37, w ∈ wsX8_isOpen := by decide +kernel
  have hl := lv_entry ([.ref h0, .int a1, .int a2]) (n := 3) (Nat.le_of_ble_eq_true rfl)
  rw [lg_entry_eq]
  generalize (lg_sl ([.ref h0, .int a1, .int a2]) ++ List.replicate (3 - (lg_sl ([.ref h0, .int a1, .int a2])).length) Slot.unset).toArray = ls at hl ⊢
  have hl : lv_has ls 3 [(0, .ref h0), (1, .int a1), (2, .int a2)] := hl
  refine lv_iload_n hx hb dX8_isOpen_0 rfl (lv_at hl 2 rfl) ?_
  refine lv_sipush (v := 365) hx hb dX8_isOpen_1 (by decide) ?_
  refine lv_irem hx hb dX8_isOpen_4 (by decide) ?_
  refine lv_topi (fun v1 _ => ?_)
  refine lv_aload_n hx hb dX8_isOpen_5 rfl (lv_at hl 0 rfl) ?_
  refine va_get (D := (dC, dI)) (ci := 7) (v := .ref (q 9)) (C := RX8) (T := TX8) (N := 37) hx hb hts hinX8 hown hK hP 0 rfl rfl 9 (by decide) (hts (.fieldLink RX8 28 "FurPostsModel" "opens" "[I") (by decide +kernel)) (fun _ h9 => h9) rfl dX8_isOpen_6 ?_
  refine lv_iload_n hx hb dX8_isOpen_9 rfl (lv_at hl 1 rfl) ?_
  refine va_iald hx hb hK hP 7 0 rfl rfl (i := a1) hb0 dX8_isOpen_10 ?_
  refine lv_aload_n hx hb dX8_isOpen_11 rfl (lv_at hl 0 rfl) ?_
  refine va_get (D := (dC, dI)) (ci := 7) (v := .ref (q 10)) (C := RX8) (T := TX8) (N := 37) hx hb hts hinX8 hown hK hP 0 rfl rfl 10 (by decide) (hts (.fieldLink RX8 31 "FurPostsModel" "shuts" "[I") (by decide +kernel)) (fun _ h9 => h9) rfl dX8_isOpen_12 ?_
  refine lv_iload_n hx hb dX8_isOpen_15 rfl (lv_at hl 1 rfl) ?_
  refine va_iald hx hb hK hP 8 0 rfl rfl (i := a1) hb0 dX8_isOpen_16 ?_
  refine pu_call (va_runS (As := [.int v1, .int (F 9 (Int32.toNatClampNeg a1)), .int (F 10 (Int32.toNatClampNeg a1))]) (rest := []) ⟨hx, hb, hml, hown, hts⟩ (c_X8_in l v1 (F 9 (Int32.toNatClampNeg a1)) (F 10 (Int32.toNatClampNeg a1))) (va_cwS 3 hts gX8_isOpen_X8_in rfl rfl rfl (by decide +kernel) ⟨Nat.le_of_ble_eq_true rfl, Nat.le_of_ble_eq_true rfl⟩) pu_preS rfl rfl hl.1 rfl (lv_room (Nat.le_of_ble_eq_true rfl)) dX8_isOpen_17 ⟨Nat.le_of_ble_eq_true rfl, Nat.le_of_ble_eq_true rfl⟩) ?_
  exact W.zret (v := (sp_in v1 (F 9 (Int32.toNatClampNeg a1)) (F 10 (Int32.toNatClampNeg a1)))) hx hb hr (sp_narrow _ _ _) (fun t ht hW => ⟨_, rfl, ⟨(sp_in v1 (F 9 (Int32.toNatClampNeg a1)) (F 10 (Int32.toNatClampNeg a1))), rfl, trivial⟩, ht⟩) (fun q h => by cases h) dX8_isOpen_20

set_option maxHeartbeats 4000000 in
set_option maxRecDepth 100000 in
theorem k_X8_stored (l : Launch) (dC : Nat → ClassId) (dI : Nat → Nat → Nat) (h0 : Nat) (q n : Nat → Nat) (dl : Int32) (cI cZ : ClassId) (F : Nat → Nat → Int32) (hI : mi_ n F) (hN : nb_ n) (a1 : Int32) (a2 : Int32) (hb0 : vp_in a1 8) (hb1 : vp_in a2 6) : Met l yX8_stored wsX8_stored ({ frames := 0, cells := 0, slots := 0, locals := 0 }) (va_Pc [.ref h0, .int a1, .int a2] (pu_P (dC, dI) vwCl (mt_ cI cZ) (mw_ h0 q n dl cI cZ F))) (pg_Q (gi_ (fun r => True))) 0 0 pu_F := by
  refine Met.ofW (cc := cX8_stored) (maxL := 3) (ret := (some .int)) (by decide) rfl ?_
  intro p e s m args below meth c s₁ B hml hv
  obtain ⟨rfl, hP, hK⟩ := hv
  have hx := B.exec
  have hb := B.bytes
  have hr := B.returns
  have hts := atoms_spec (ws := wsX8_stored) B.pre
  have hown : s.vm.findClass RX8 = some m.cls := findClass_of_methodNamed B.named
  have hlocks := B.notSynchronized
  have hinX8 : ∀ w ∈ u_ws RX8 TX8 37, w ∈ wsX8_stored := by decide +kernel
  have hl := lv_entry ([.ref h0, .int a1, .int a2]) (n := 3) (Nat.le_of_ble_eq_true rfl)
  rw [lg_entry_eq]
  generalize (lg_sl ([.ref h0, .int a1, .int a2]) ++ List.replicate (3 - (lg_sl ([.ref h0, .int a1, .int a2])).length) Slot.unset).toArray = ls at hl ⊢
  have hl : lv_has ls 3 [(0, .ref h0), (1, .int a1), (2, .int a2)] := hl
  refine lv_aload_n hx hb dX8_stored_0 rfl (lv_at hl 0 rfl) ?_
  refine va_get (D := (dC, dI)) (ci := 7) (v := .ref (q 2)) (C := RX8) (T := TX8) (N := 37) hx hb hts hinX8 hown hK hP 0 rfl rfl 2 (by decide) (hts (.fieldLink RX8 9 "FurPostsModel" "store" "[I") (by decide +kernel)) (fun _ h9 => h9) rfl dX8_stored_1 ?_
  refine lv_bipush (v := 6) hx hb dX8_stored_4 (by decide) ?_
  refine lv_iload_n hx hb dX8_stored_6 rfl (lv_at hl 1 rfl) ?_
  refine lv_imul hx hb dX8_stored_7 ?_
  refine lv_iload_n hx hb dX8_stored_8 rfl (lv_at hl 2 rfl) ?_
  refine lv_iadd hx hb dX8_stored_9 ?_
  refine va_iald hx hb hK hP 1 0 rfl rfl (i := ((6 * a1) + a2)) (vp_lin (a := 8) (b := 6) (m := 6) hb0 hb1 rfl (by decide)) dX8_stored_10 ?_
  exact W.iret (v := (F 2 (Int32.toNatClampNeg ((6 * a1) + a2)))) hx hb hr (fun t ht hW => ⟨_, rfl, ⟨(F 2 (Int32.toNatClampNeg ((6 * a1) + a2))), rfl, trivial⟩, ht⟩) (fun q h => by cases h) dX8_stored_11

set_option maxHeartbeats 4000000 in
set_option maxRecDepth 100000 in
theorem k_X8_isAway (l : Launch) (dC : Nat → ClassId) (dI : Nat → Nat → Nat) (h0 : Nat) (q n : Nat → Nat) (dl : Int32) (cI cZ : ClassId) (F : Nat → Nat → Int32) (hI : mi_ n F) (hN : nb_ n) (a1 : Int32) : Met l yX8_isAway wsX8_isAway ({ frames := 2, cells := 0, slots := 0, locals := 43 }) (va_Pc [.ref h0, .int a1] (pu_P (dC, dI) vwCl (mt_ cI cZ) (mw_ h0 q n dl cI cZ F))) (pg_Q (gi_ (fun r => ¬ r = 0 → vp_in a1 120))) 0 0 pu_F := by
  refine Met.ofW (cc := cX8_isAway) (maxL := 2) (ret := (some .boolean)) (by decide) rfl ?_
  intro p e s m args below meth c s₁ B hml hv
  obtain ⟨rfl, hP, hK⟩ := hv
  have hx := B.exec
  have hb := B.bytes
  have hr := B.returns
  have hts := atoms_spec (ws := wsX8_isAway) B.pre
  have hown : s.vm.findClass RX8 = some m.cls := findClass_of_methodNamed B.named
  have hlocks := B.notSynchronized
  have hinX8 : ∀ w ∈ u_ws RX8 TX8 37, w ∈ wsX8_isAway := by decide +kernel
  have hl := lv_entry ([.ref h0, .int a1]) (n := 2) (Nat.le_of_ble_eq_true rfl)
  rw [lg_entry_eq]
  generalize (lg_sl ([.ref h0, .int a1]) ++ List.replicate (2 - (lg_sl ([.ref h0, .int a1])).length) Slot.unset).toArray = ls at hl ⊢
  have hl : lv_has ls 2 [(0, .ref h0), (1, .int a1)] := hl
  refine lv_aload_n hx hb dX8_isAway_0 rfl (lv_at hl 0 rfl) ?_
  refine lv_iload_n hx hb dX8_isAway_1 rfl (lv_at hl 1 rfl) ?_
  refine pg_call (va_runV (As := [.int a1]) (rest := []) ⟨hx, hb, hml, hown, hts⟩ (k_X8_isCanoe l dC dI h0 q n dl cI cZ F hI hN a1) (cwV 1 hts gX8_isAway_X8_isCanoe rfl rfl rfl (by decide +kernel) ⟨Nat.le_of_ble_eq_true rfl, Nat.le_of_ble_eq_true rfl⟩) (pu_pre hP hK (ci := 7) (q0 := 0) rfl rfl) rfl rfl hl.1 rfl (lv_room (Nat.le_of_ble_eq_true rfl)) dX8_isAway_2 ⟨Nat.le_of_ble_eq_true rfl, Nat.le_of_ble_eq_true rfl⟩) (fun w1 hw1 => ?_)
  obtain ⟨r1, rfl, hg1⟩ := hw1
  refine lv_if_eq (tgt := 21) hx hb dX8_isAway_5 (by decide) (fun h_2 => ?_) (fun h_2 => ?_)
  · skip
    refine lv_iconst (v := 0) hx hb dX8_isAway_21 (by decide) ?_
    exact W.zret (v := 0) hx hb hr rfl (fun t ht hW => ⟨_, rfl, ⟨0, rfl, (fun z => absurd rfl z)⟩, ht⟩) (fun q h => by cases h) dX8_isAway_22
  · skip
    refine lv_aload_n hx hb dX8_isAway_8 rfl (lv_at hl 0 rfl) ?_
    refine va_get (D := (dC, dI)) (ci := 7) (v := .ref (q 18)) (C := RX8) (T := TX8) (N := 37) hx hb hts hinX8 hown hK hP 0 rfl rfl 18 (by decide) (hts (.fieldLink RX8 52 "FurPostsModel" "state" "[I") (by decide +kernel)) (fun _ h9 => h9) rfl dX8_isAway_9 ?_
    refine lv_iload_n hx hb dX8_isAway_12 rfl (lv_at hl 1 rfl) ?_
    refine va_iald hx hb hK hP 15 0 rfl rfl (i := a1) ((hg1 h_2)) dX8_isAway_13 ?_
    refine lv_if_ne (tgt := 21) hx hb dX8_isAway_14 (by decide) (fun h_3 => ?_) (fun h_3 => ?_)
    · skip
      refine lv_iconst (v := 0) hx hb dX8_isAway_21 (by decide) ?_
      exact W.zret (v := 0) hx hb hr rfl (fun t ht hW => ⟨_, rfl, ⟨0, rfl, (fun z => absurd rfl z)⟩, ht⟩) (fun q h => by cases h) dX8_isAway_22
    · skip
      refine lv_iconst (v := 1) hx hb dX8_isAway_17 (by decide) ?_
      refine lv_goto (tgt := 22) hx hb dX8_isAway_18 (by decide) ?_
      exact W.zret (v := 1) hx hb hr rfl (fun t ht hW => ⟨_, rfl, ⟨1, rfl, (fun _ => hg1 h_2)⟩, ht⟩) (fun q h => by cases h) dX8_isAway_22

set_option maxHeartbeats 4000000 in
set_option maxRecDepth 100000 in
theorem k_X8_isDeal (l : Launch) (dC : Nat → ClassId) (dI : Nat → Nat → Nat) (h0 : Nat) (q n : Nat → Nat) (dl : Int32) (cI cZ : ClassId) (F : Nat → Nat → Int32) (hI : mi_ n F) (hN : nb_ n) (a1 : Int32) (a2 : Int32) (a3 : Int32) (a4 : Int32) : Met l yX8_isDeal wsX8_isDeal ({ frames := 2, cells := 0, slots := 0, locals := 43 }) (va_Pc [.ref h0, .int a1, .int a2, .int a3, .int a4] (pu_P (dC, dI) vwCl (mt_ cI cZ) (mw_ h0 q n dl cI cZ F))) (pg_Q (gi_ (fun r => ¬ r = 0 → vp_in a1 8 ∧ vp_in a2 12 ∧ vp_in a3 6))) 0 0 pu_F := by
  refine Met.ofW (cc := cX8_isDeal) (maxL := 5) (ret := (some .boolean)) (by decide) rfl ?_
  intro p e s m args below meth c s₁ B hml hv
  obtain ⟨rfl, hP, hK⟩ := hv
  have hx := B.exec
  have hb := B.bytes
  have hr := B.returns
  have hts := atoms_spec (ws := wsX8_isDeal) B.pre
  have hown : s.vm.findClass RX8 = some m.cls := findClass_of_methodNamed B.named
  have hlocks := B.notSynchronized
  have hl := lv_entry ([.ref h0, .int a1, .int a2, .int a3, .int a4]) (n := 5) (Nat.le_of_ble_eq_true rfl)
  rw [lg_entry_eq]
  generalize (lg_sl ([.ref h0, .int a1, .int a2, .int a3, .int a4]) ++ List.replicate (5 - (lg_sl ([.ref h0, .int a1, .int a2, .int a3, .int a4])).length) Slot.unset).toArray = ls at hl ⊢
  have hl : lv_has ls 5 [(0, .ref h0), (1, .int a1), (2, .int a2), (3, .int a3), (4, .int a4)] := hl
  refine lv_aload_n hx hb dX8_isDeal_0 rfl (lv_at hl 0 rfl) ?_
  refine lv_iload_n hx hb dX8_isDeal_1 rfl (lv_at hl 1 rfl) ?_
  refine pg_call (va_runV (As := [.int a1]) (rest := []) ⟨hx, hb, hml, hown, hts⟩ (k_X8_isPost l dC dI h0 q n dl cI cZ F hI hN a1) (cwV 1 hts gX8_isDeal_X8_isPost rfl rfl rfl (by decide +kernel) ⟨Nat.le_of_ble_eq_true rfl, Nat.le_of_ble_eq_true rfl⟩) (pu_pre hP hK (ci := 7) (q0 := 0) rfl rfl) rfl rfl hl.1 rfl (lv_room (Nat.le_of_ble_eq_true rfl)) dX8_isDeal_2 ⟨Nat.le_of_ble_eq_true rfl, Nat.le_of_ble_eq_true rfl⟩) (fun w1 hw1 => ?_)
  obtain ⟨r1, rfl, hg1⟩ := hw1
  refine lv_if_eq (tgt := 41) hx hb dX8_isDeal_5 (by decide) (fun h_2 => ?_) (fun h_2 => ?_)
  · skip
    refine lv_iconst (v := 0) hx hb dX8_isDeal_41 (by decide) ?_
    exact W.zret (v := 0) hx hb hr rfl (fun t ht hW => ⟨_, rfl, ⟨0, rfl, (fun z => absurd rfl z)⟩, ht⟩) (fun q h => by cases h) dX8_isDeal_42
  · skip
    refine lv_iload_n hx hb dX8_isDeal_8 rfl (lv_at hl 2 rfl) ?_
    refine lv_iconst (v := 0) hx hb dX8_isDeal_9 (by decide) ?_
    refine lv_bipush (v := 11) hx hb dX8_isDeal_10 (by decide) ?_
    refine pu_call (va_runS (As := [.int a2, .int 0, .int 11]) (rest := []) ⟨hx, hb, hml, hown, hts⟩ (c_X8_in l a2 0 11) (va_cwS 3 hts gX8_isDeal_X8_in rfl rfl rfl (by decide +kernel) ⟨Nat.le_of_ble_eq_true rfl, Nat.le_of_ble_eq_true rfl⟩) pu_preS rfl rfl hl.1 rfl (lv_room (Nat.le_of_ble_eq_true rfl)) dX8_isDeal_12 ⟨Nat.le_of_ble_eq_true rfl, Nat.le_of_ble_eq_true rfl⟩) ?_
    refine lv_if_eq (tgt := 41) hx hb dX8_isDeal_15 (by decide) (fun h_3 => ?_) (fun h_3 => ?_)
    · skip
      refine lv_iconst (v := 0) hx hb dX8_isDeal_41 (by decide) ?_
      exact W.zret (v := 0) hx hb hr rfl (fun t ht hW => ⟨_, rfl, ⟨0, rfl, (fun z => absurd rfl z)⟩, ht⟩) (fun q h => by cases h) dX8_isDeal_42
    · skip
      refine lv_iload_n hx hb dX8_isDeal_18 rfl (lv_at hl 3 rfl) ?_
      refine pu_call (va_runS (As := [.int a3]) (rest := []) ⟨hx, hb, hml, hown, hts⟩ (c_X8_isWare l a3) (va_cwS 1 hts gX8_isDeal_X8_isWare rfl rfl rfl (by decide +kernel) ⟨Nat.le_of_ble_eq_true rfl, Nat.le_of_ble_eq_true rfl⟩) pu_preS rfl rfl hl.1 rfl (lv_room (Nat.le_of_ble_eq_true rfl)) dX8_isDeal_19 ⟨Nat.le_of_ble_eq_true rfl, Nat.le_of_ble_eq_true rfl⟩) ?_
      refine lv_if_eq (tgt := 41) hx hb dX8_isDeal_22 (by decide) (fun h_4 => ?_) (fun h_4 => ?_)
      · skip
        refine lv_iconst (v := 0) hx hb dX8_isDeal_41 (by decide) ?_
        exact W.zret (v := 0) hx hb hr rfl (fun t ht hW => ⟨_, rfl, ⟨0, rfl, (fun z => absurd rfl z)⟩, ht⟩) (fun q h => by cases h) dX8_isDeal_42
      · skip
        refine lv_iload hx hb dX8_isDeal_25 (lv_at hl 4 rfl) ?_
        refine lv_iconst (v := 1) hx hb dX8_isDeal_27 (by decide) ?_
        refine lv_sipush (v := 1000) hx hb dX8_isDeal_28 (by decide) ?_
        refine pu_call (va_runS (As := [.int a4, .int 1, .int 1000]) (rest := []) ⟨hx, hb, hml, hown, hts⟩ (c_X8_in l a4 1 1000) (va_cwS 3 hts gX8_isDeal_X8_in rfl rfl rfl (by decide +kernel) ⟨Nat.le_of_ble_eq_true rfl, Nat.le_of_ble_eq_true rfl⟩) pu_preS rfl rfl hl.1 rfl (lv_room (Nat.le_of_ble_eq_true rfl)) dX8_isDeal_31 ⟨Nat.le_of_ble_eq_true rfl, Nat.le_of_ble_eq_true rfl⟩) ?_
        refine lv_if_eq (tgt := 41) hx hb dX8_isDeal_34 (by decide) (fun h_5 => ?_) (fun h_5 => ?_)
        · skip
          refine lv_iconst (v := 0) hx hb dX8_isDeal_41 (by decide) ?_
          exact W.zret (v := 0) hx hb hr rfl (fun t ht hW => ⟨_, rfl, ⟨0, rfl, (fun z => absurd rfl z)⟩, ht⟩) (fun q h => by cases h) dX8_isDeal_42
        · skip
          refine lv_iconst (v := 1) hx hb dX8_isDeal_37 (by decide) ?_
          refine lv_goto (tgt := 42) hx hb dX8_isDeal_38 (by decide) ?_
          exact W.zret (v := 1) hx hb hr rfl (fun t ht hW => ⟨_, rfl, ⟨1, rfl, (fun _ => ⟨hg1 h_2, sp_vp h_3 rfl, sp_vp h_4 rfl⟩)⟩, ht⟩) (fun q h => by cases h) dX8_isDeal_42

set_option maxHeartbeats 4000000 in
set_option maxRecDepth 100000 in
theorem k_X8_canWrite (l : Launch) (dC : Nat → ClassId) (dI : Nat → Nat → Nat) (h0 : Nat) (q n : Nat → Nat) (dl : Int32) (cI cZ : ClassId) (F : Nat → Nat → Int32) (hI : mi_ n F) (hN : nb_ n) (a1 : Int32) (a2 : Int32) : Met l yX8_canWrite wsX8_canWrite ({ frames := 2, cells := 0, slots := 0, locals := 43 }) (va_Pc [.ref h0, .int a1, .int a2] (pu_P (dC, dI) vwCl (mt_ cI cZ) (mw_ h0 q n dl cI cZ F))) (pg_Q (gi_ (fun r => ¬ r = 0 → vp_in a1 8 ∧ vp_in a2 8 ∧ n 4 < 300))) 0 0 pu_F := by
  refine Met.ofW (cc := cX8_canWrite) (maxL := 3) (ret := (some .boolean)) (by decide) rfl ?_
  intro p e s m args below meth c s₁ B hml hv
  obtain ⟨rfl, hP, hK⟩ := hv
  have hx := B.exec
  have hb := B.bytes
  have hr := B.returns
  have hts := atoms_spec (ws := wsX8_canWrite) B.pre
  have hown : s.vm.findClass RX8 = some m.cls := findClass_of_methodNamed B.named
  have hlocks := B.notSynchronized
  have hinX8 : ∀ w ∈ u_ws RX8 TX8 37, w ∈ wsX8_canWrite := by decide +kernel
  have hl := lv_entry ([.ref h0, .int a1, .int a2]) (n := 3) (Nat.le_of_ble_eq_true rfl)
  rw [lg_entry_eq]
  generalize (lg_sl ([.ref h0, .int a1, .int a2]) ++ List.replicate (3 - (lg_sl ([.ref h0, .int a1, .int a2])).length) Slot.unset).toArray = ls at hl ⊢
  have hl : lv_has ls 3 [(0, .ref h0), (1, .int a1), (2, .int a2)] := hl
  refine lv_aload_n hx hb dX8_canWrite_0 rfl (lv_at hl 0 rfl) ?_
  refine lv_iload_n hx hb dX8_canWrite_1 rfl (lv_at hl 1 rfl) ?_
  refine pg_call (va_runV (As := [.int a1]) (rest := []) ⟨hx, hb, hml, hown, hts⟩ (k_X8_isPost l dC dI h0 q n dl cI cZ F hI hN a1) (cwV 1 hts gX8_canWrite_X8_isPost rfl rfl rfl (by decide +kernel) ⟨Nat.le_of_ble_eq_true rfl, Nat.le_of_ble_eq_true rfl⟩) (pu_pre hP hK (ci := 7) (q0 := 0) rfl rfl) rfl rfl hl.1 rfl (lv_room (Nat.le_of_ble_eq_true rfl)) dX8_canWrite_2 ⟨Nat.le_of_ble_eq_true rfl, Nat.le_of_ble_eq_true rfl⟩) (fun w1 hw1 => ?_)
  obtain ⟨r1, rfl, hg1⟩ := hw1
  refine lv_if_eq (tgt := 35) hx hb dX8_canWrite_5 (by decide) (fun h_2 => ?_) (fun h_2 => ?_)
  · skip
    refine lv_iconst (v := 0) hx hb dX8_canWrite_35 (by decide) ?_
    exact W.zret (v := 0) hx hb hr rfl (fun t ht hW => ⟨_, rfl, ⟨0, rfl, (fun z => absurd rfl z)⟩, ht⟩) (fun q h => by cases h) dX8_canWrite_36
  · skip
    refine lv_aload_n hx hb dX8_canWrite_8 rfl (lv_at hl 0 rfl) ?_
    refine lv_iload_n hx hb dX8_canWrite_9 rfl (lv_at hl 2 rfl) ?_
    refine pg_call (va_runV (As := [.int a2]) (rest := []) ⟨hx, hb, hml, hown, hts⟩ (k_X8_isPost l dC dI h0 q n dl cI cZ F hI hN a2) (cwV 1 hts gX8_canWrite_X8_isPost rfl rfl rfl (by decide +kernel) ⟨Nat.le_of_ble_eq_true rfl, Nat.le_of_ble_eq_true rfl⟩) (pu_pre hP hK (ci := 7) (q0 := 0) rfl rfl) rfl rfl hl.1 rfl (lv_room (Nat.le_of_ble_eq_true rfl)) dX8_canWrite_10 ⟨Nat.le_of_ble_eq_true rfl, Nat.le_of_ble_eq_true rfl⟩) (fun w3 hw3 => ?_)
    obtain ⟨r3, rfl, hg3⟩ := hw3
    refine lv_if_eq (tgt := 35) hx hb dX8_canWrite_13 (by decide) (fun h_4 => ?_) (fun h_4 => ?_)
    · skip
      refine lv_iconst (v := 0) hx hb dX8_canWrite_35 (by decide) ?_
      exact W.zret (v := 0) hx hb hr rfl (fun t ht hW => ⟨_, rfl, ⟨0, rfl, (fun z => absurd rfl z)⟩, ht⟩) (fun q h => by cases h) dX8_canWrite_36
    · skip
      refine lv_iload_n hx hb dX8_canWrite_16 rfl (lv_at hl 1 rfl) ?_
      refine lv_iload_n hx hb dX8_canWrite_17 rfl (lv_at hl 2 rfl) ?_
      refine lv_icmp_eq (tgt := 35) hx hb dX8_canWrite_18 (by decide) (fun h_5 => ?_) (fun h_5 => ?_)
      · skip
        refine lv_iconst (v := 0) hx hb dX8_canWrite_35 (by decide) ?_
        exact W.zret (v := 0) hx hb hr rfl (fun t ht hW => ⟨_, rfl, ⟨0, rfl, (fun z => absurd rfl z)⟩, ht⟩) (fun q h => by cases h) dX8_canWrite_36
      · skip
        refine lv_aload_n hx hb dX8_canWrite_21 rfl (lv_at hl 0 rfl) ?_
        refine va_get (D := (dC, dI)) (ci := 7) (v := .int (nI (n 4))) (C := RX8) (T := TX8) (N := 37) hx hb hts hinX8 hown hK hP 0 rfl rfl 25 (by decide) (hts (.fieldLink RX8 144 "FurPostsModel" "letters" "I") (by decide +kernel)) (fun _ h9 => h9) rfl dX8_canWrite_22 ?_
        refine lv_sipush (v := 300) hx hb dX8_canWrite_25 (by decide) ?_
        refine lv_icmp_ge (tgt := 35) hx hb dX8_canWrite_28 (by decide) (fun h_6 => ?_) (fun h_6 => ?_)
        · skip
          refine lv_iconst (v := 0) hx hb dX8_canWrite_35 (by decide) ?_
          exact W.zret (v := 0) hx hb hr rfl (fun t ht hW => ⟨_, rfl, ⟨0, rfl, (fun z => absurd rfl z)⟩, ht⟩) (fun q h => by cases h) dX8_canWrite_36
        · skip
          refine lv_iconst (v := 1) hx hb dX8_canWrite_31 (by decide) ?_
          refine lv_goto (tgt := 36) hx hb dX8_canWrite_32 (by decide) ?_
          exact W.zret (v := 1) hx hb hr rfl (fun t ht hW => ⟨_, rfl, ⟨1, rfl, (fun _ => ⟨hg1 h_2, hg3 h_4, nI_linv (B := 300) h_6 rfl (by omega)⟩)⟩, ht⟩) (fun q h => by cases h) dX8_canWrite_36

set_option maxHeartbeats 4000000 in
set_option maxRecDepth 100000 in
theorem k_X8_owes (l : Launch) (dC : Nat → ClassId) (dI : Nat → Nat → Nat) (h0 : Nat) (q n : Nat → Nat) (dl : Int32) (cI cZ : ClassId) (F : Nat → Nat → Int32) (hI : mi_ n F) (hN : nb_ n) (a1 : Int32) (a2 : Int32) : Met l yX8_owes wsX8_owes ({ frames := 2, cells := 0, slots := 0, locals := 43 }) (va_Pc [.ref h0, .int a1, .int a2] (pu_P (dC, dI) vwCl (mt_ cI cZ) (mw_ h0 q n dl cI cZ F))) (pg_Q (gi_ (fun r => True))) 0 0 pu_F := by
  refine Met.ofW (cc := cX8_owes) (maxL := 3) (ret := (some .int)) (by decide) rfl ?_
  intro p e s m args below meth c s₁ B hml hv
  obtain ⟨rfl, hP, hK⟩ := hv
  have hx := B.exec
  have hb := B.bytes
  have hr := B.returns
  have hts := atoms_spec (ws := wsX8_owes) B.pre
  have hown : s.vm.findClass RX8 = some m.cls := findClass_of_methodNamed B.named
  have hlocks := B.notSynchronized
  have hinX8 : ∀ w ∈ u_ws RX8 TX8 37, w ∈ wsX8_owes := by decide +kernel
  have hl := lv_entry ([.ref h0, .int a1, .int a2]) (n := 3) (Nat.le_of_ble_eq_true rfl)
  rw [lg_entry_eq]
  generalize (lg_sl ([.ref h0, .int a1, .int a2]) ++ List.replicate (3 - (lg_sl ([.ref h0, .int a1, .int a2])).length) Slot.unset).toArray = ls at hl ⊢
  have hl : lv_has ls 3 [(0, .ref h0), (1, .int a1), (2, .int a2)] := hl
  refine lv_aload_n hx hb dX8_owes_0 rfl (lv_at hl 0 rfl) ?_
  refine lv_iload_n hx hb dX8_owes_1 rfl (lv_at hl 1 rfl) ?_
  refine pg_call (va_runV (As := [.int a1]) (rest := []) ⟨hx, hb, hml, hown, hts⟩ (k_X8_isPost l dC dI h0 q n dl cI cZ F hI hN a1) (cwV 1 hts gX8_owes_X8_isPost rfl rfl rfl (by decide +kernel) ⟨Nat.le_of_ble_eq_true rfl, Nat.le_of_ble_eq_true rfl⟩) (pu_pre hP hK (ci := 7) (q0 := 0) rfl rfl) rfl rfl hl.1 rfl (lv_room (Nat.le_of_ble_eq_true rfl)) dX8_owes_2 ⟨Nat.le_of_ble_eq_true rfl, Nat.le_of_ble_eq_true rfl⟩) (fun w1 hw1 => ?_)
  obtain ⟨r1, rfl, hg1⟩ := hw1
  refine lv_if_eq (tgt := 32) hx hb dX8_owes_5 (by decide) (fun h_2 => ?_) (fun h_2 => ?_)
  · skip
    refine lv_iconst (v := 0) hx hb dX8_owes_32 (by decide) ?_
    exact W.iret (v := 0) hx hb hr (fun t ht hW => ⟨_, rfl, ⟨0, rfl, trivial⟩, ht⟩) (fun q h => by cases h) dX8_owes_33
  · skip
    refine lv_iload_n hx hb dX8_owes_8 rfl (lv_at hl 2 rfl) ?_
    refine lv_iconst (v := 0) hx hb dX8_owes_9 (by decide) ?_
    refine lv_bipush (v := 11) hx hb dX8_owes_10 (by decide) ?_
    refine pu_call (va_runS (As := [.int a2, .int 0, .int 11]) (rest := []) ⟨hx, hb, hml, hown, hts⟩ (c_X8_in l a2 0 11) (va_cwS 3 hts gX8_owes_X8_in rfl rfl rfl (by decide +kernel) ⟨Nat.le_of_ble_eq_true rfl, Nat.le_of_ble_eq_true rfl⟩) pu_preS rfl rfl hl.1 rfl (lv_room (Nat.le_of_ble_eq_true rfl)) dX8_owes_12 ⟨Nat.le_of_ble_eq_true rfl, Nat.le_of_ble_eq_true rfl⟩) ?_
    refine lv_if_eq (tgt := 32) hx hb dX8_owes_15 (by decide) (fun h_3 => ?_) (fun h_3 => ?_)
    · skip
      refine lv_iconst (v := 0) hx hb dX8_owes_32 (by decide) ?_
      exact W.iret (v := 0) hx hb hr (fun t ht hW => ⟨_, rfl, ⟨0, rfl, trivial⟩, ht⟩) (fun q h => by cases h) dX8_owes_33
    · skip
      refine lv_aload_n hx hb dX8_owes_18 rfl (lv_at hl 0 rfl) ?_
      refine va_get (D := (dC, dI)) (ci := 7) (v := .ref (q 4)) (C := RX8) (T := TX8) (N := 37) hx hb hts hinX8 hown hK hP 0 rfl rfl 4 (by decide) (hts (.fieldLink RX8 16 "FurPostsModel" "owes" "[I") (by decide +kernel)) (fun _ h9 => h9) rfl dX8_owes_19 ?_
      refine lv_bipush (v := 12) hx hb dX8_owes_22 (by decide) ?_
      refine lv_iload_n hx hb dX8_owes_24 rfl (lv_at hl 1 rfl) ?_
      refine lv_imul hx hb dX8_owes_25 ?_
      refine lv_iload_n hx hb dX8_owes_26 rfl (lv_at hl 2 rfl) ?_
      refine lv_iadd hx hb dX8_owes_27 ?_
      refine va_iald hx hb hK hP 3 0 rfl rfl (i := ((12 * a1) + a2)) (vp_lin (a := 8) (b := 12) (m := 12) ((hg1 h_2)) (sp_vp h_3 rfl) rfl (by decide)) dX8_owes_28 ?_
      refine lv_goto (tgt := 33) hx hb dX8_owes_29 (by decide) ?_
      exact W.iret (v := (F 4 (Int32.toNatClampNeg ((12 * a1) + a2)))) hx hb hr (fun t ht hW => ⟨_, rfl, ⟨(F 4 (Int32.toNatClampNeg ((12 * a1) + a2))), rfl, trivial⟩, ht⟩) (fun q h => by cases h) dX8_owes_33

set_option maxHeartbeats 4000000 in
set_option maxRecDepth 100000 in
theorem k_X8_price (l : Launch) (dC : Nat → ClassId) (dI : Nat → Nat → Nat) (h0 : Nat) (q n : Nat → Nat) (dl : Int32) (cI cZ : ClassId) (F : Nat → Nat → Int32) (hI : mi_ n F) (hN : nb_ n) (a1 : Int32) (a2 : Int32) : Met l yX8_price wsX8_price ({ frames := 2, cells := 0, slots := 0, locals := 43 }) (va_Pc [.ref h0, .int a1, .int a2] (pu_P (dC, dI) vwCl (mt_ cI cZ) (mw_ h0 q n dl cI cZ F))) (pg_Q (gi_ (fun r => True))) 0 0 pu_F := by
  refine Met.ofW (cc := cX8_price) (maxL := 3) (ret := (some .int)) (by decide) rfl ?_
  intro p e s m args below meth c s₁ B hml hv
  obtain ⟨rfl, hP, hK⟩ := hv
  have hx := B.exec
  have hb := B.bytes
  have hr := B.returns
  have hts := atoms_spec (ws := wsX8_price) B.pre
  have hown : s.vm.findClass RX8 = some m.cls := findClass_of_methodNamed B.named
  have hlocks := B.notSynchronized
  have hinX8 : ∀ w ∈ u_ws RX8 TX8 37, w ∈ wsX8_price := by decide +kernel
  have hl := lv_entry ([.ref h0, .int a1, .int a2]) (n := 3) (Nat.le_of_ble_eq_true rfl)
  rw [lg_entry_eq]
  generalize (lg_sl ([.ref h0, .int a1, .int a2]) ++ List.replicate (3 - (lg_sl ([.ref h0, .int a1, .int a2])).length) Slot.unset).toArray = ls at hl ⊢
  have hl : lv_has ls 3 [(0, .ref h0), (1, .int a1), (2, .int a2)] := hl
  refine lv_aload_n hx hb dX8_price_0 rfl (lv_at hl 0 rfl) ?_
  refine lv_iload_n hx hb dX8_price_1 rfl (lv_at hl 1 rfl) ?_
  refine pg_call (va_runV (As := [.int a1]) (rest := []) ⟨hx, hb, hml, hown, hts⟩ (k_X8_isPost l dC dI h0 q n dl cI cZ F hI hN a1) (cwV 1 hts gX8_price_X8_isPost rfl rfl rfl (by decide +kernel) ⟨Nat.le_of_ble_eq_true rfl, Nat.le_of_ble_eq_true rfl⟩) (pu_pre hP hK (ci := 7) (q0 := 0) rfl rfl) rfl rfl hl.1 rfl (lv_room (Nat.le_of_ble_eq_true rfl)) dX8_price_2 ⟨Nat.le_of_ble_eq_true rfl, Nat.le_of_ble_eq_true rfl⟩) (fun w1 hw1 => ?_)
  obtain ⟨r1, rfl, hg1⟩ := hw1
  refine lv_if_eq (tgt := 29) hx hb dX8_price_5 (by decide) (fun h_2 => ?_) (fun h_2 => ?_)
  · skip
    refine lv_iconst (v := (-1)) hx hb dX8_price_29 (by decide) ?_
    exact W.iret (v := (-1)) hx hb hr (fun t ht hW => ⟨_, rfl, ⟨(-1), rfl, trivial⟩, ht⟩) (fun q h => by cases h) dX8_price_30
  · skip
    refine lv_iload_n hx hb dX8_price_8 rfl (lv_at hl 2 rfl) ?_
    refine pu_call (va_runS (As := [.int a2]) (rest := []) ⟨hx, hb, hml, hown, hts⟩ (c_X8_isWare l a2) (va_cwS 1 hts gX8_price_X8_isWare rfl rfl rfl (by decide +kernel) ⟨Nat.le_of_ble_eq_true rfl, Nat.le_of_ble_eq_true rfl⟩) pu_preS rfl rfl hl.1 rfl (lv_room (Nat.le_of_ble_eq_true rfl)) dX8_price_9 ⟨Nat.le_of_ble_eq_true rfl, Nat.le_of_ble_eq_true rfl⟩) ?_
    refine lv_if_eq (tgt := 29) hx hb dX8_price_12 (by decide) (fun h_3 => ?_) (fun h_3 => ?_)
    · skip
      refine lv_iconst (v := (-1)) hx hb dX8_price_29 (by decide) ?_
      exact W.iret (v := (-1)) hx hb hr (fun t ht hW => ⟨_, rfl, ⟨(-1), rfl, trivial⟩, ht⟩) (fun q h => by cases h) dX8_price_30
    · skip
      refine lv_aload_n hx hb dX8_price_15 rfl (lv_at hl 0 rfl) ?_
      refine va_get (D := (dC, dI)) (ci := 7) (v := .ref (q 3)) (C := RX8) (T := TX8) (N := 37) hx hb hts hinX8 hown hK hP 0 rfl rfl 3 (by decide) (hts (.fieldLink RX8 13 "FurPostsModel" "price" "[I") (by decide +kernel)) (fun _ h9 => h9) rfl dX8_price_16 ?_
      refine lv_bipush (v := 6) hx hb dX8_price_19 (by decide) ?_
      refine lv_iload_n hx hb dX8_price_21 rfl (lv_at hl 1 rfl) ?_
      refine lv_imul hx hb dX8_price_22 ?_
      refine lv_iload_n hx hb dX8_price_23 rfl (lv_at hl 2 rfl) ?_
      refine lv_iadd hx hb dX8_price_24 ?_
      refine va_iald hx hb hK hP 2 0 rfl rfl (i := ((6 * a1) + a2)) (vp_lin (a := 8) (b := 6) (m := 6) ((hg1 h_2)) (sp_vp h_3 rfl) rfl (by decide)) dX8_price_25 ?_
      refine lv_goto (tgt := 30) hx hb dX8_price_26 (by decide) ?_
      exact W.iret (v := (F 3 (Int32.toNatClampNeg ((6 * a1) + a2)))) hx hb hr (fun t ht hW => ⟨_, rfl, ⟨(F 3 (Int32.toNatClampNeg ((6 * a1) + a2))), rfl, trivial⟩, ht⟩) (fun q h => by cases h) dX8_price_30

set_option maxHeartbeats 4000000 in
set_option maxRecDepth 100000 in
theorem k_X8_known (l : Launch) (dC : Nat → ClassId) (dI : Nat → Nat → Nat) (h0 : Nat) (q n : Nat → Nat) (dl : Int32) (cI cZ : ClassId) (F : Nat → Nat → Int32) (hI : mi_ n F) (hN : nb_ n) (a1 : Int32) (a2 : Int32) (a3 : Int32) : Met l yX8_known wsX8_known ({ frames := 2, cells := 0, slots := 0, locals := 43 }) (va_Pc [.ref h0, .int a1, .int a2, .int a3] (pu_P (dC, dI) vwCl (mt_ cI cZ) (mw_ h0 q n dl cI cZ F))) (pg_Q (gi_ (fun r => True))) 0 0 pu_F := by
  refine Met.ofW (cc := cX8_known) (maxL := 5) (ret := (some .int)) (by decide) rfl ?_
  intro p e s m args below meth c s₁ B hml hv
  obtain ⟨rfl, hP, hK⟩ := hv
  have hx := B.exec
  have hb := B.bytes
  have hr := B.returns
  have hts := atoms_spec (ws := wsX8_known) B.pre
  have hown : s.vm.findClass RX8 = some m.cls := findClass_of_methodNamed B.named
  have hlocks := B.notSynchronized
  have hinX8 : ∀ w ∈ u_ws RX8 TX8 37, w ∈ wsX8_known := by decide +kernel
  have hl := lv_entry ([.ref h0, .int a1, .int a2, .int a3]) (n := 5) (Nat.le_of_ble_eq_true rfl)
  rw [lg_entry_eq]
  generalize (lg_sl ([.ref h0, .int a1, .int a2, .int a3]) ++ List.replicate (5 - (lg_sl ([.ref h0, .int a1, .int a2, .int a3])).length) Slot.unset).toArray = ls at hl ⊢
  have hl : lv_has ls 5 [(0, .ref h0), (1, .int a1), (2, .int a2), (3, .int a3)] := hl
  refine lv_aload_n hx hb dX8_known_0 rfl (lv_at hl 0 rfl) ?_
  refine lv_iload_n hx hb dX8_known_1 rfl (lv_at hl 1 rfl) ?_
  refine pg_call (va_runV (As := [.int a1]) (rest := []) ⟨hx, hb, hml, hown, hts⟩ (k_X8_isPost l dC dI h0 q n dl cI cZ F hI hN a1) (cwV 1 hts gX8_known_X8_isPost rfl rfl rfl (by decide +kernel) ⟨Nat.le_of_ble_eq_true rfl, Nat.le_of_ble_eq_true rfl⟩) (pu_pre hP hK (ci := 7) (q0 := 0) rfl rfl) rfl rfl hl.1 rfl (lv_room (Nat.le_of_ble_eq_true rfl)) dX8_known_2 ⟨Nat.le_of_ble_eq_true rfl, Nat.le_of_ble_eq_true rfl⟩) (fun w1 hw1 => ?_)
  obtain ⟨r1, rfl, hg1⟩ := hw1
  refine lv_if_eq (tgt := 23) hx hb dX8_known_5 (by decide) (fun h_2 => ?_) (fun h_2 => ?_)
  · skip
    refine lv_iconst (v := (-1)) hx hb dX8_known_23 (by decide) ?_
    exact W.iret (v := (-1)) hx hb hr (fun t ht hW => ⟨_, rfl, ⟨(-1), rfl, trivial⟩, ht⟩) (fun q h => by cases h) dX8_known_24
  · skip
    refine lv_aload_n hx hb dX8_known_8 rfl (lv_at hl 0 rfl) ?_
    refine lv_iload_n hx hb dX8_known_9 rfl (lv_at hl 2 rfl) ?_
    refine pg_call (va_runV (As := [.int a2]) (rest := []) ⟨hx, hb, hml, hown, hts⟩ (k_X8_isPost l dC dI h0 q n dl cI cZ F hI hN a2) (cwV 1 hts gX8_known_X8_isPost rfl rfl rfl (by decide +kernel) ⟨Nat.le_of_ble_eq_true rfl, Nat.le_of_ble_eq_true rfl⟩) (pu_pre hP hK (ci := 7) (q0 := 0) rfl rfl) rfl rfl hl.1 rfl (lv_room (Nat.le_of_ble_eq_true rfl)) dX8_known_10 ⟨Nat.le_of_ble_eq_true rfl, Nat.le_of_ble_eq_true rfl⟩) (fun w3 hw3 => ?_)
    obtain ⟨r3, rfl, hg3⟩ := hw3
    refine lv_if_eq (tgt := 23) hx hb dX8_known_13 (by decide) (fun h_4 => ?_) (fun h_4 => ?_)
    · skip
      refine lv_iconst (v := (-1)) hx hb dX8_known_23 (by decide) ?_
      exact W.iret (v := (-1)) hx hb hr (fun t ht hW => ⟨_, rfl, ⟨(-1), rfl, trivial⟩, ht⟩) (fun q h => by cases h) dX8_known_24
    · skip
      refine lv_iload_n hx hb dX8_known_16 rfl (lv_at hl 3 rfl) ?_
      refine pu_call (va_runS (As := [.int a3]) (rest := []) ⟨hx, hb, hml, hown, hts⟩ (c_X8_isWare l a3) (va_cwS 1 hts gX8_known_X8_isWare rfl rfl rfl (by decide +kernel) ⟨Nat.le_of_ble_eq_true rfl, Nat.le_of_ble_eq_true rfl⟩) pu_preS rfl rfl hl.1 rfl (lv_room (Nat.le_of_ble_eq_true rfl)) dX8_known_17 ⟨Nat.le_of_ble_eq_true rfl, Nat.le_of_ble_eq_true rfl⟩) ?_
      refine lv_if_ne (tgt := 25) hx hb dX8_known_20 (by decide) (fun h_5 => ?_) (fun h_5 => ?_)
      · skip
        refine lv_iload_n hx hb dX8_known_25 rfl (lv_at hl 1 rfl) ?_
        refine lv_iload_n hx hb dX8_known_26 rfl (lv_at hl 2 rfl) ?_
        refine lv_icmp_ne (tgt := 37) hx hb dX8_known_27 (by decide) (fun h_6 => ?_) (fun h_6 => ?_)
        · skip
          refine lv_aload_n hx hb dX8_known_37 rfl (lv_at hl 0 rfl) ?_
          refine va_get (D := (dC, dI)) (ci := 7) (v := .ref (q 32)) (C := RX8) (T := TX8) (N := 37) hx hb hts hinX8 hown hK hP 0 rfl rfl 32 (by decide) (hts (.fieldLink RX8 92 "FurPostsModel" "reported" "[I") (by decide +kernel)) (fun _ h9 => h9) rfl dX8_known_38 ?_
          refine lv_bipush (v := 8) hx hb dX8_known_41 (by decide) ?_
          refine lv_iload_n hx hb dX8_known_43 rfl (lv_at hl 1 rfl) ?_
          refine lv_imul hx hb dX8_known_44 ?_
          refine lv_iload_n hx hb dX8_known_45 rfl (lv_at hl 2 rfl) ?_
          refine lv_iadd hx hb dX8_known_46 ?_
          refine va_iald hx hb hK hP 28 0 rfl rfl (i := ((8 * a1) + a2)) (vp_lin (a := 8) (b := 8) (m := 8) ((hg1 h_2)) ((hg3 h_4)) rfl (by decide)) dX8_known_47 ?_
          refine lv_istore (lv' := [(4, .int (F 32 (Int32.toNatClampNeg ((8 * a1) + a2)))), (0, .ref h0), (1, .int a1), (2, .int a2), (3, .int a3)]) hx hb dX8_known_48 hl (by decide) rfl (fun ls hl => ?_)
          refine lv_iload hx hb dX8_known_50 (lv_at hl 0 rfl) ?_
          refine lv_iconst (v := (-1)) hx hb dX8_known_52 (by decide) ?_
          refine lv_icmp_ne (tgt := 60) hx hb dX8_known_53 (by decide) (fun h_7 => ?_) (fun h_7 => ?_)
          · skip
            refine lv_aload_n hx hb dX8_known_60 rfl (lv_at hl 1 rfl) ?_
            refine va_get (D := (dC, dI)) (ci := 7) (v := .ref (q 31)) (C := RX8) (T := TX8) (N := 37) hx hb hts hinX8 hown hK hP 0 rfl rfl 31 (by decide) (hts (.fieldLink RX8 89 "FurPostsModel" "letterStore" "[I") (by decide +kernel)) (fun _ h9 => h9) rfl dX8_known_61 ?_
            refine lv_bipush (v := 6) hx hb dX8_known_64 (by decide) ?_
            refine lv_iload hx hb dX8_known_66 (lv_at hl 0 rfl) ?_
            refine lv_imul hx hb dX8_known_68 ?_
            refine lv_iload_n hx hb dX8_known_69 rfl (lv_at hl 4 rfl) ?_
            refine lv_iadd hx hb dX8_known_70 ?_
            refine va_iald hx hb hK hP 27 0 rfl rfl (i := ((6 * (F 32 (Int32.toNatClampNeg ((8 * a1) + a2)))) + a3)) (vp_lin (a := 300) (b := 6) (m := 6) ((hI.2.2.2.2.2.1 _).resolve_left h_7) (sp_vp h_5 rfl) rfl (by decide)) dX8_known_71 ?_
            exact W.iret (v := (F 31 (Int32.toNatClampNeg ((6 * (F 32 (Int32.toNatClampNeg ((8 * a1) + a2)))) + a3)))) hx hb hr (fun t ht hW => ⟨_, rfl, ⟨(F 31 (Int32.toNatClampNeg ((6 * (F 32 (Int32.toNatClampNeg ((8 * a1) + a2)))) + a3))), rfl, trivial⟩, ht⟩) (fun q h => by cases h) dX8_known_72
          · skip
            refine lv_iconst (v := (-1)) hx hb dX8_known_56 (by decide) ?_
            refine lv_goto (tgt := 72) hx hb dX8_known_57 (by decide) ?_
            exact W.iret (v := (-1)) hx hb hr (fun t ht hW => ⟨_, rfl, ⟨(-1), rfl, trivial⟩, ht⟩) (fun q h => by cases h) dX8_known_72
        · skip
          refine lv_aload_n hx hb dX8_known_30 rfl (lv_at hl 0 rfl) ?_
          refine lv_iload_n hx hb dX8_known_31 rfl (lv_at hl 1 rfl) ?_
          refine lv_iload_n hx hb dX8_known_32 rfl (lv_at hl 3 rfl) ?_
          refine pg_call (va_runV (As := [.int a1, .int a3]) (rest := []) ⟨hx, hb, hml, hown, hts⟩ (k_X8_stored l dC dI h0 q n dl cI cZ F hI hN a1 a3 ((hg1 h_2)) (sp_vp h_5 rfl)) (cwV 2 hts gX8_known_X8_stored rfl rfl rfl (by decide +kernel) ⟨Nat.le_of_ble_eq_true rfl, Nat.le_of_ble_eq_true rfl⟩) (pu_pre hP hK (ci := 7) (q0 := 0) rfl rfl) rfl rfl hl.1 rfl (lv_room (Nat.le_of_ble_eq_true rfl)) dX8_known_33 ⟨Nat.le_of_ble_eq_true rfl, Nat.le_of_ble_eq_true rfl⟩) (fun w8 hw8 => ?_)
          obtain ⟨r8, rfl, hg8⟩ := hw8
          exact W.iret (v := r8) hx hb hr (fun t ht hW => ⟨_, rfl, ⟨r8, rfl, trivial⟩, ht⟩) (fun q h => by cases h) dX8_known_36
      · skip
        refine lv_iconst (v := (-1)) hx hb dX8_known_23 (by decide) ?_
        exact W.iret (v := (-1)) hx hb hr (fun t ht hW => ⟨_, rfl, ⟨(-1), rfl, trivial⟩, ht⟩) (fun q h => by cases h) dX8_known_24

set_option maxHeartbeats 4000000 in
set_option maxRecDepth 100000 in
theorem k_X8_knownDay (l : Launch) (dC : Nat → ClassId) (dI : Nat → Nat → Nat) (h0 : Nat) (q n : Nat → Nat) (dl : Int32) (cI cZ : ClassId) (F : Nat → Nat → Int32) (hI : mi_ n F) (hN : nb_ n) (a1 : Int32) (a2 : Int32) : Met l yX8_knownDay wsX8_knownDay ({ frames := 2, cells := 0, slots := 0, locals := 43 }) (va_Pc [.ref h0, .int a1, .int a2] (pu_P (dC, dI) vwCl (mt_ cI cZ) (mw_ h0 q n dl cI cZ F))) (pg_Q (gi_ (fun r => True))) 0 0 pu_F := by
  refine Met.ofW (cc := cX8_knownDay) (maxL := 4) (ret := (some .int)) (by decide) rfl ?_
  intro p e s m args below meth c s₁ B hml hv
  obtain ⟨rfl, hP, hK⟩ := hv
  have hx := B.exec
  have hb := B.bytes
  have hr := B.returns
  have hts := atoms_spec (ws := wsX8_knownDay) B.pre
  have hown : s.vm.findClass RX8 = some m.cls := findClass_of_methodNamed B.named
  have hlocks := B.notSynchronized
  have hinX8 : ∀ w ∈ u_ws RX8 TX8 37, w ∈ wsX8_knownDay := by decide +kernel
  have hl := lv_entry ([.ref h0, .int a1, .int a2]) (n := 4) (Nat.le_of_ble_eq_true rfl)
  rw [lg_entry_eq]
  generalize (lg_sl ([.ref h0, .int a1, .int a2]) ++ List.replicate (4 - (lg_sl ([.ref h0, .int a1, .int a2])).length) Slot.unset).toArray = ls at hl ⊢
  have hl : lv_has ls 4 [(0, .ref h0), (1, .int a1), (2, .int a2)] := hl
  refine lv_aload_n hx hb dX8_knownDay_0 rfl (lv_at hl 0 rfl) ?_
  refine lv_iload_n hx hb dX8_knownDay_1 rfl (lv_at hl 1 rfl) ?_
  refine pg_call (va_runV (As := [.int a1]) (rest := []) ⟨hx, hb, hml, hown, hts⟩ (k_X8_isPost l dC dI h0 q n dl cI cZ F hI hN a1) (cwV 1 hts gX8_knownDay_X8_isPost rfl rfl rfl (by decide +kernel) ⟨Nat.le_of_ble_eq_true rfl, Nat.le_of_ble_eq_true rfl⟩) (pu_pre hP hK (ci := 7) (q0 := 0) rfl rfl) rfl rfl hl.1 rfl (lv_room (Nat.le_of_ble_eq_true rfl)) dX8_knownDay_2 ⟨Nat.le_of_ble_eq_true rfl, Nat.le_of_ble_eq_true rfl⟩) (fun w1 hw1 => ?_)
  obtain ⟨r1, rfl, hg1⟩ := hw1
  refine lv_if_eq (tgt := 16) hx hb dX8_knownDay_5 (by decide) (fun h_2 => ?_) (fun h_2 => ?_)
  · skip
    refine lv_iconst (v := (-1)) hx hb dX8_knownDay_16 (by decide) ?_
    exact W.iret (v := (-1)) hx hb hr (fun t ht hW => ⟨_, rfl, ⟨(-1), rfl, trivial⟩, ht⟩) (fun q h => by cases h) dX8_knownDay_17
  · skip
    refine lv_aload_n hx hb dX8_knownDay_8 rfl (lv_at hl 0 rfl) ?_
    refine lv_iload_n hx hb dX8_knownDay_9 rfl (lv_at hl 2 rfl) ?_
    refine pg_call (va_runV (As := [.int a2]) (rest := []) ⟨hx, hb, hml, hown, hts⟩ (k_X8_isPost l dC dI h0 q n dl cI cZ F hI hN a2) (cwV 1 hts gX8_knownDay_X8_isPost rfl rfl rfl (by decide +kernel) ⟨Nat.le_of_ble_eq_true rfl, Nat.le_of_ble_eq_true rfl⟩) (pu_pre hP hK (ci := 7) (q0 := 0) rfl rfl) rfl rfl hl.1 rfl (lv_room (Nat.le_of_ble_eq_true rfl)) dX8_knownDay_10 ⟨Nat.le_of_ble_eq_true rfl, Nat.le_of_ble_eq_true rfl⟩) (fun w3 hw3 => ?_)
    obtain ⟨r3, rfl, hg3⟩ := hw3
    refine lv_if_ne (tgt := 18) hx hb dX8_knownDay_13 (by decide) (fun h_4 => ?_) (fun h_4 => ?_)
    · skip
      refine lv_iload_n hx hb dX8_knownDay_18 rfl (lv_at hl 1 rfl) ?_
      refine lv_iload_n hx hb dX8_knownDay_19 rfl (lv_at hl 2 rfl) ?_
      refine lv_icmp_ne (tgt := 28) hx hb dX8_knownDay_20 (by decide) (fun h_5 => ?_) (fun h_5 => ?_)
      · skip
        refine lv_aload_n hx hb dX8_knownDay_28 rfl (lv_at hl 0 rfl) ?_
        refine va_get (D := (dC, dI)) (ci := 7) (v := .ref (q 32)) (C := RX8) (T := TX8) (N := 37) hx hb hts hinX8 hown hK hP 0 rfl rfl 32 (by decide) (hts (.fieldLink RX8 92 "FurPostsModel" "reported" "[I") (by decide +kernel)) (fun _ h9 => h9) rfl dX8_knownDay_29 ?_
        refine lv_bipush (v := 8) hx hb dX8_knownDay_32 (by decide) ?_
        refine lv_iload_n hx hb dX8_knownDay_34 rfl (lv_at hl 1 rfl) ?_
        refine lv_imul hx hb dX8_knownDay_35 ?_
        refine lv_iload_n hx hb dX8_knownDay_36 rfl (lv_at hl 2 rfl) ?_
        refine lv_iadd hx hb dX8_knownDay_37 ?_
        refine va_iald hx hb hK hP 28 0 rfl rfl (i := ((8 * a1) + a2)) (vp_lin (a := 8) (b := 8) (m := 8) ((hg1 h_2)) ((hg3 h_4)) rfl (by decide)) dX8_knownDay_38 ?_
        refine lv_istore_n (lv' := [(3, .int (F 32 (Int32.toNatClampNeg ((8 * a1) + a2)))), (0, .ref h0), (1, .int a1), (2, .int a2)]) hx hb dX8_knownDay_39 rfl hl (by decide) rfl (fun ls hl => ?_)
        refine lv_iload_n hx hb dX8_knownDay_40 rfl (lv_at hl 0 rfl) ?_
        refine lv_iconst (v := (-1)) hx hb dX8_knownDay_41 (by decide) ?_
        refine lv_icmp_ne (tgt := 49) hx hb dX8_knownDay_42 (by decide) (fun h_6 => ?_) (fun h_6 => ?_)
        · skip
          refine lv_aload_n hx hb dX8_knownDay_49 rfl (lv_at hl 1 rfl) ?_
          refine va_get (D := (dC, dI)) (ci := 7) (v := .ref (q 30)) (C := RX8) (T := TX8) (N := 37) hx hb hts hinX8 hown hK hP 0 rfl rfl 30 (by decide) (hts (.fieldLink RX8 86 "FurPostsModel" "letterTwo" "[I") (by decide +kernel)) (fun _ h9 => h9) rfl dX8_knownDay_50 ?_
          refine lv_iload_n hx hb dX8_knownDay_53 rfl (lv_at hl 0 rfl) ?_
          refine va_iald hx hb hK hP 26 0 rfl rfl (i := (F 32 (Int32.toNatClampNeg ((8 * a1) + a2)))) ((hI.2.2.2.2.2.1 _).resolve_left h_6) dX8_knownDay_54 ?_
          exact W.iret (v := (F 30 (Int32.toNatClampNeg (F 32 (Int32.toNatClampNeg ((8 * a1) + a2)))))) hx hb hr (fun t ht hW => ⟨_, rfl, ⟨(F 30 (Int32.toNatClampNeg (F 32 (Int32.toNatClampNeg ((8 * a1) + a2))))), rfl, trivial⟩, ht⟩) (fun q h => by cases h) dX8_knownDay_55
        · skip
          refine lv_iconst (v := (-1)) hx hb dX8_knownDay_45 (by decide) ?_
          refine lv_goto (tgt := 55) hx hb dX8_knownDay_46 (by decide) ?_
          exact W.iret (v := (-1)) hx hb hr (fun t ht hW => ⟨_, rfl, ⟨(-1), rfl, trivial⟩, ht⟩) (fun q h => by cases h) dX8_knownDay_55
      · skip
        refine lv_aload_n hx hb dX8_knownDay_23 rfl (lv_at hl 0 rfl) ?_
        refine va_get (D := (dC, dI)) (ci := 7) (v := .int (nI (n 0))) (C := RX8) (T := TX8) (N := 37) hx hb hts hinX8 hown hK hP 0 rfl rfl 0 (by decide) (hts (.fieldLink RX8 137 "FurPostsModel" "now" "I") (by decide +kernel)) (fun _ h9 => h9) rfl dX8_knownDay_24 ?_
        exact W.iret (v := (nI (n 0))) hx hb hr (fun t ht hW => ⟨_, rfl, ⟨(nI (n 0)), rfl, trivial⟩, ht⟩) (fun q h => by cases h) dX8_knownDay_27
    · skip
      refine lv_iconst (v := (-1)) hx hb dX8_knownDay_16 (by decide) ?_
      exact W.iret (v := (-1)) hx hb hr (fun t ht hW => ⟨_, rfl, ⟨(-1), rfl, trivial⟩, ht⟩) (fun q h => by cases h) dX8_knownDay_17

set_option maxHeartbeats 4000000 in
set_option maxRecDepth 100000 in
theorem k_X8_cost (l : Launch) (dC : Nat → ClassId) (dI : Nat → Nat → Nat) (h0 : Nat) (q n : Nat → Nat) (dl : Int32) (cI cZ : ClassId) (F : Nat → Nat → Int32) (hI : mi_ n F) (hN : nb_ n) (a1 : Int32) (a2 : Int32) (a3 : Int32) (a4 : Int32) (a5 : Int32) : Met l yX8_cost wsX8_cost ({ frames := 2, cells := 0, slots := 0, locals := 43 }) (va_Pc [.ref h0, .int a1, .int a2, .int a3, .int a4, .int a5] (pu_P (dC, dI) vwCl (mt_ cI cZ) (mw_ h0 q n dl cI cZ F))) (pg_Q (gi_ (fun r => True))) 0 0 pu_F := by
  refine Met.ofW (cc := cX8_cost) (maxL := 10) (ret := (some .int)) (by decide) rfl ?_
  intro p e s m args below meth c s₁ B hml hv
  obtain ⟨rfl, hP, hK⟩ := hv
  have hx := B.exec
  have hb := B.bytes
  have hr := B.returns
  have hts := atoms_spec (ws := wsX8_cost) B.pre
  have hown : s.vm.findClass RX8 = some m.cls := findClass_of_methodNamed B.named
  have hlocks := B.notSynchronized
  have hinX8 : ∀ w ∈ u_ws RX8 TX8 37, w ∈ wsX8_cost := by decide +kernel
  have hl := lv_entry ([.ref h0, .int a1, .int a2, .int a3, .int a4, .int a5]) (n := 10) (Nat.le_of_ble_eq_true rfl)
  rw [lg_entry_eq]
  generalize (lg_sl ([.ref h0, .int a1, .int a2, .int a3, .int a4, .int a5]) ++ List.replicate (10 - (lg_sl ([.ref h0, .int a1, .int a2, .int a3, .int a4, .int a5])).length) Slot.unset).toArray = ls at hl ⊢
  have hl : lv_has ls 10 [(0, .ref h0), (1, .int a1), (2, .int a2), (3, .int a3), (4, .int a4), (5, .int a5)] := hl
  refine lv_aload_n hx hb dX8_cost_0 rfl (lv_at hl 0 rfl) ?_
  refine lv_iload_n hx hb dX8_cost_1 rfl (lv_at hl 1 rfl) ?_
  refine pg_call (va_runV (As := [.int a1]) (rest := []) ⟨hx, hb, hml, hown, hts⟩ (k_X8_isPost l dC dI h0 q n dl cI cZ F hI hN a1) (cwV 1 hts gX8_cost_X8_isPost rfl rfl rfl (by decide +kernel) ⟨Nat.le_of_ble_eq_true rfl, Nat.le_of_ble_eq_true rfl⟩) (pu_pre hP hK (ci := 7) (q0 := 0) rfl rfl) rfl rfl hl.1 rfl (lv_room (Nat.le_of_ble_eq_true rfl)) dX8_cost_2 ⟨Nat.le_of_ble_eq_true rfl, Nat.le_of_ble_eq_true rfl⟩) (fun w1 hw1 => ?_)
  obtain ⟨r1, rfl, hg1⟩ := hw1
  refine lv_if_eq (tgt := 47) hx hb dX8_cost_5 (by decide) (fun h_2 => ?_) (fun h_2 => ?_)
  · skip
    refine lv_iconst (v := (-1)) hx hb dX8_cost_47 (by decide) ?_
    exact W.iret (v := (-1)) hx hb hr (fun t ht hW => ⟨_, rfl, ⟨(-1), rfl, trivial⟩, ht⟩) (fun q h => by cases h) dX8_cost_48
  · skip
    refine lv_iload_n hx hb dX8_cost_8 rfl (lv_at hl 2 rfl) ?_
    refine pu_call (va_runS (As := [.int a2]) (rest := []) ⟨hx, hb, hml, hown, hts⟩ (c_X8_isWare l a2) (va_cwS 1 hts gX8_cost_X8_isWare rfl rfl rfl (by decide +kernel) ⟨Nat.le_of_ble_eq_true rfl, Nat.le_of_ble_eq_true rfl⟩) pu_preS rfl rfl hl.1 rfl (lv_room (Nat.le_of_ble_eq_true rfl)) dX8_cost_9 ⟨Nat.le_of_ble_eq_true rfl, Nat.le_of_ble_eq_true rfl⟩) ?_
    refine lv_if_eq (tgt := 47) hx hb dX8_cost_12 (by decide) (fun h_3 => ?_) (fun h_3 => ?_)
    · skip
      refine lv_iconst (v := (-1)) hx hb dX8_cost_47 (by decide) ?_
      exact W.iret (v := (-1)) hx hb hr (fun t ht hW => ⟨_, rfl, ⟨(-1), rfl, trivial⟩, ht⟩) (fun q h => by cases h) dX8_cost_48
    · skip
      refine lv_iload_n hx hb dX8_cost_15 rfl (lv_at hl 3 rfl) ?_
      refine lv_iconst (v := 0) hx hb dX8_cost_16 (by decide) ?_
      refine lv_bipush (v := 100) hx hb dX8_cost_17 (by decide) ?_
      refine pu_call (va_runS (As := [.int a3, .int 0, .int 100]) (rest := []) ⟨hx, hb, hml, hown, hts⟩ (c_X8_in l a3 0 100) (va_cwS 3 hts gX8_cost_X8_in rfl rfl rfl (by decide +kernel) ⟨Nat.le_of_ble_eq_true rfl, Nat.le_of_ble_eq_true rfl⟩) pu_preS rfl rfl hl.1 rfl (lv_room (Nat.le_of_ble_eq_true rfl)) dX8_cost_19 ⟨Nat.le_of_ble_eq_true rfl, Nat.le_of_ble_eq_true rfl⟩) ?_
      refine lv_if_eq (tgt := 47) hx hb dX8_cost_22 (by decide) (fun h_4 => ?_) (fun h_4 => ?_)
      · skip
        refine lv_iconst (v := (-1)) hx hb dX8_cost_47 (by decide) ?_
        exact W.iret (v := (-1)) hx hb hr (fun t ht hW => ⟨_, rfl, ⟨(-1), rfl, trivial⟩, ht⟩) (fun q h => by cases h) dX8_cost_48
      · skip
        refine lv_iload hx hb dX8_cost_25 (lv_at hl 4 rfl) ?_
        refine lv_iconst (v := 0) hx hb dX8_cost_27 (by decide) ?_
        refine lv_bipush (v := 100) hx hb dX8_cost_28 (by decide) ?_
        refine pu_call (va_runS (As := [.int a4, .int 0, .int 100]) (rest := []) ⟨hx, hb, hml, hown, hts⟩ (c_X8_in l a4 0 100) (va_cwS 3 hts gX8_cost_X8_in rfl rfl rfl (by decide +kernel) ⟨Nat.le_of_ble_eq_true rfl, Nat.le_of_ble_eq_true rfl⟩) pu_preS rfl rfl hl.1 rfl (lv_room (Nat.le_of_ble_eq_true rfl)) dX8_cost_30 ⟨Nat.le_of_ble_eq_true rfl, Nat.le_of_ble_eq_true rfl⟩) ?_
        refine lv_if_eq (tgt := 47) hx hb dX8_cost_33 (by decide) (fun h_5 => ?_) (fun h_5 => ?_)
        · skip
          refine lv_iconst (v := (-1)) hx hb dX8_cost_47 (by decide) ?_
          exact W.iret (v := (-1)) hx hb hr (fun t ht hW => ⟨_, rfl, ⟨(-1), rfl, trivial⟩, ht⟩) (fun q h => by cases h) dX8_cost_48
        · skip
          refine lv_iload hx hb dX8_cost_36 (lv_at hl 5 rfl) ?_
          refine lv_iconst (v := 0) hx hb dX8_cost_38 (by decide) ?_
          refine lv_bipush (v := 20) hx hb dX8_cost_39 (by decide) ?_
          refine pu_call (va_runS (As := [.int a5, .int 0, .int 20]) (rest := []) ⟨hx, hb, hml, hown, hts⟩ (c_X8_in l a5 0 20) (va_cwS 3 hts gX8_cost_X8_in rfl rfl rfl (by decide +kernel) ⟨Nat.le_of_ble_eq_true rfl, Nat.le_of_ble_eq_true rfl⟩) pu_preS rfl rfl hl.1 rfl (lv_room (Nat.le_of_ble_eq_true rfl)) dX8_cost_41 ⟨Nat.le_of_ble_eq_true rfl, Nat.le_of_ble_eq_true rfl⟩) ?_
          refine lv_if_ne (tgt := 49) hx hb dX8_cost_44 (by decide) (fun h_6 => ?_) (fun h_6 => ?_)
          · skip
            refine lv_iconst (v := 0) hx hb dX8_cost_49 (by decide) ?_
            refine lv_istore (lv' := [(6, .int 0), (0, .ref h0), (1, .int a1), (2, .int a2), (3, .int a3), (4, .int a4), (5, .int a5)]) hx hb dX8_cost_50 hl (by decide) rfl (fun ls hl => ?_)
            refine lv_iconst (v := 0) hx hb dX8_cost_52 (by decide) ?_
            refine lv_istore (lv' := [(7, .int 0), (6, .int 0), (0, .ref h0), (1, .int a1), (2, .int a2), (3, .int a3), (4, .int a4), (5, .int a5)]) hx hb dX8_cost_53 hl (by decide) rfl (fun ls hl => ?_)
            have key55 : ∀ (k j55 : Nat) (x55_6 : Int32) (ls : Array Slot), j55 + k = 21 → lv_has ls 10 [(7, .int (nI j55)), (6, .int x55_6), (0, .ref h0), (1, .int a1), (2, .int a2), (3, .int a3), (4, .int a4), (5, .int a5)] →
                W p l e (headSpec wsX8_cost ({ frames := 2, cells := 0, slots := 0, locals := 43 })).room s m [.ref h0, .int a1, .int a2, .int a3, .int a4, .int a5].toArray below meth c s.heap [] 0 0 (MQ below (pg_Q (gi_ (fun r => True))) [.ref h0, .int a1, .int a2, .int a3, .int a4, .int a5].toArray s 0 0 pu_F) (F0 m 55 ls []) := by
              intro k
              induction k with
              | zero =>
                intro j55 x55_6 ls hj hl
                have hj : j55 = 21 := by omega
                subst j55
                refine lv_iload hx hb dX8_cost_55 (lv_at hl 0 rfl) ?_
                refine lv_bipush (v := 21) hx hb dX8_cost_57 (by decide) ?_
                refine lv_icmp_ge (tgt := 85) hx hb dX8_cost_59 (by decide) (fun h_7 => ?_) (fun h_7 => absurd (lp_ge0 (B := 21) rfl) h_7)
                refine lv_iload hx hb dX8_cost_85 (lv_at hl 1 rfl) ?_
                refine lv_sipush (v := 1000) hx hb dX8_cost_87 (by decide) ?_
                refine lv_icmp_eq (tgt := 95) hx hb dX8_cost_90 (by decide) (fun h_8 => ?_) (fun h_8 => ?_)
                · skip
                  refine lv_iconst (v := 0) hx hb dX8_cost_95 (by decide) ?_
                  refine lv_istore (lv' := [(7, .int 0), (6, .int x55_6), (0, .ref h0), (1, .int a1), (2, .int a2), (3, .int a3), (4, .int a4), (5, .int a5)]) hx hb dX8_cost_96 hl (by decide) rfl (fun ls hl => ?_)
                  refine lv_aload_n hx hb dX8_cost_98 rfl (lv_at hl 2 rfl) ?_
                  refine lv_iload_n hx hb dX8_cost_99 rfl (lv_at hl 3 rfl) ?_
                  refine lv_iload_n hx hb dX8_cost_100 rfl (lv_at hl 4 rfl) ?_
                  refine pg_call (va_runV (As := [.int a1, .int a2]) (rest := []) ⟨hx, hb, hml, hown, hts⟩ (k_X8_stored l dC dI h0 q n dl cI cZ F hI hN a1 a2 ((hg1 h_2)) (sp_vp h_3 rfl)) (cwV 2 hts gX8_cost_X8_stored rfl rfl rfl (by decide +kernel) ⟨Nat.le_of_ble_eq_true rfl, Nat.le_of_ble_eq_true rfl⟩) (pu_pre hP hK (ci := 7) (q0 := 0) rfl rfl) rfl rfl hl.1 rfl (lv_room (Nat.le_of_ble_eq_true rfl)) dX8_cost_101 ⟨Nat.le_of_ble_eq_true rfl, Nat.le_of_ble_eq_true rfl⟩) (fun w9 hw9 => ?_)
                  obtain ⟨r9, rfl, hg9⟩ := hw9
                  refine lv_sipush (v := 1000) hx hb dX8_cost_104 (by decide) ?_
                  refine lv_icmp_le (tgt := 116) hx hb dX8_cost_107 (by decide) (fun h_10 => ?_) (fun h_10 => ?_)
                  · skip
                    refine lv_aload_n hx hb dX8_cost_116 rfl (lv_at hl 2 rfl) ?_
                    refine lv_iload_n hx hb dX8_cost_117 rfl (lv_at hl 3 rfl) ?_
                    refine lv_iload_n hx hb dX8_cost_118 rfl (lv_at hl 4 rfl) ?_
                    refine pg_call (va_runV (As := [.int a1, .int a2]) (rest := []) ⟨hx, hb, hml, hown, hts⟩ (k_X8_stored l dC dI h0 q n dl cI cZ F hI hN a1 a2 ((hg1 h_2)) (sp_vp h_3 rfl)) (cwV 2 hts gX8_cost_X8_stored rfl rfl rfl (by decide +kernel) ⟨Nat.le_of_ble_eq_true rfl, Nat.le_of_ble_eq_true rfl⟩) (pu_pre hP hK (ci := 7) (q0 := 0) rfl rfl) rfl rfl hl.1 rfl (lv_room (Nat.le_of_ble_eq_true rfl)) dX8_cost_119 ⟨Nat.le_of_ble_eq_true rfl, Nat.le_of_ble_eq_true rfl⟩) (fun w11 hw11 => ?_)
                    obtain ⟨r11, rfl, hg11⟩ := hw11
                    refine lv_iload hx hb dX8_cost_122 (lv_at hl 7 rfl) ?_
                    refine lv_iadd hx hb dX8_cost_124 ?_
                    refine lv_istore (lv' := [(8, .int (r11 + a5)), (7, .int 0), (6, .int x55_6), (0, .ref h0), (1, .int a1), (2, .int a2), (3, .int a3), (4, .int a4), (5, .int a5)]) hx hb dX8_cost_125 hl (by decide) rfl (fun ls hl => ?_)
                    refine lv_iconst (v := 0) hx hb dX8_cost_127 (by decide) ?_
                    refine lv_istore (lv' := [(9, .int 0), (8, .int (r11 + a5)), (7, .int 0), (6, .int x55_6), (0, .ref h0), (1, .int a1), (2, .int a2), (3, .int a3), (4, .int a4), (5, .int a5)]) hx hb dX8_cost_128 hl (by decide) rfl (fun ls hl => ?_)
                    have key130 : ∀ (k j130 : Nat) (x130_7 : Int32) (ls : Array Slot), j130 + k = 21 → lv_has ls 10 [(9, .int (nI j130)), (8, .int (r11 + a5)), (7, .int x130_7), (6, .int x55_6), (0, .ref h0), (1, .int a1), (2, .int a2), (3, .int a3), (4, .int a4), (5, .int a5)] →
                        W p l e (headSpec wsX8_cost ({ frames := 2, cells := 0, slots := 0, locals := 43 })).room s m [.ref h0, .int a1, .int a2, .int a3, .int a4, .int a5].toArray below meth c s.heap [] 0 0 (MQ below (pg_Q (gi_ (fun r => True))) [.ref h0, .int a1, .int a2, .int a3, .int a4, .int a5].toArray s 0 0 pu_F) (F0 m 130 ls []) := by
                      intro k
                      induction k with
                      | zero =>
                        intro j130 x130_7 ls hj hl
                        have hj : j130 = 21 := by omega
                        subst j130
                        refine lv_iload hx hb dX8_cost_130 (lv_at hl 0 rfl) ?_
                        refine lv_bipush (v := 21) hx hb dX8_cost_132 (by decide) ?_
                        refine lv_icmp_ge (tgt := 199) hx hb dX8_cost_134 (by decide) (fun h_12 => ?_) (fun h_12 => absurd (lp_ge0 (B := 21) rfl) h_12)
                        refine lv_iload hx hb dX8_cost_199 (lv_at hl 2 rfl) ?_
                        exact W.iret (v := x130_7) hx hb hr (fun t ht hW => ⟨_, rfl, ⟨x130_7, rfl, trivial⟩, ht⟩) (fun q h => by cases h) dX8_cost_201
                      | succ k ih130 =>
                        intro j130 x130_7 ls hj hl
                        have hj130 : j130 < 21 := by omega
                        refine lv_iload hx hb dX8_cost_130 (lv_at hl 0 rfl) ?_
                        refine lv_bipush (v := 21) hx hb dX8_cost_132 (by decide) ?_
                        refine lv_icmp_ge (tgt := 199) hx hb dX8_cost_134 (by decide) (fun h_13 => absurd h_13 (lp_ge (B := 21) (by omega) (by omega) rfl)) (fun h_13 => ?_)
                        refine lv_iload hx hb dX8_cost_137 (lv_at hl 2 rfl) ?_
                        refine lv_iload hx hb dX8_cost_139 (lv_at hl 0 rfl) ?_
                        refine lv_iload hx hb dX8_cost_141 (lv_at hl 1 rfl) ?_
                        refine lv_icmp_le (tgt := 169) hx hb dX8_cost_143 (by decide) (fun h_14 => ?_) (fun h_14 => ?_)
                        · skip
                          refine lv_aload_n hx hb dX8_cost_169 rfl (lv_at hl 4 rfl) ?_
                          refine va_get (D := (dC, dI)) (ci := 7) (v := .ref (q 33)) (C := RX8) (T := TX8) (N := 37) hx hb hts hinX8 hown hK hP 0 rfl rfl 33 (by decide) (hts (.fieldLink RX8 95 "FurPostsModel" "parts" "[I") (by decide +kernel)) (fun _ h9 => h9) rfl dX8_cost_170 ?_
                          refine lv_bipush (v := 21) hx hb dX8_cost_173 (by decide) ?_
                          refine lv_iload_n hx hb dX8_cost_175 rfl (lv_at hl 6 rfl) ?_
                          refine lv_imul hx hb dX8_cost_176 ?_
                          refine lv_iload hx hb dX8_cost_177 (lv_at hl 0 rfl) ?_
                          refine lv_iadd hx hb dX8_cost_179 ?_
                          refine va_iald hx hb hK hP 29 0 rfl rfl (i := ((21 * a2) + (nI j130))) (vp_lin (a := 6) (b := 21) (m := 21) (sp_vp h_3 rfl) (vp_in_nI (show j130 < 21 by omega) (by decide)) rfl (by decide)) dX8_cost_180 ?_
                          refine lv_iload hx hb dX8_cost_181 (lv_at hl 8 rfl) ?_
                          refine lv_imul hx hb dX8_cost_183 ?_
                          refine lv_iload hx hb dX8_cost_184 (lv_at hl 1 rfl) ?_
                          refine lv_iload hx hb dX8_cost_186 (lv_at hl 0 rfl) ?_
                          refine lv_isub hx hb dX8_cost_188 ?_
                          refine lv_imul hx hb dX8_cost_189 ?_
                          refine lv_iadd hx hb dX8_cost_190 ?_
                          refine lv_istore (lv' := [(7, .int (x130_7 + (((F 33 (Int32.toNatClampNeg ((21 * a2) + (nI j130)))) * a4) * ((r11 + a5) - (nI j130))))), (9, .int (nI j130)), (8, .int (r11 + a5)), (6, .int x55_6), (0, .ref h0), (1, .int a1), (2, .int a2), (3, .int a3), (4, .int a4), (5, .int a5)]) hx hb dX8_cost_191 hl (by decide) rfl (fun ls hl => ?_)
                          refine lv_iinc (v := (nI (j130 + 1))) (lv' := [(9, .int (nI (j130 + 1))), (7, .int (x130_7 + (((F 33 (Int32.toNatClampNeg ((21 * a2) + (nI j130)))) * a4) * ((r11 + a5) - (nI j130))))), (8, .int (r11 + a5)), (6, .int x55_6), (0, .ref h0), (1, .int a1), (2, .int a2), (3, .int a3), (4, .int a4), (5, .int a5)]) hx hb dX8_cost_193 hl (k := 1) rfl (show nI j130 + 1 = nI (j130 + 1) from nI_1 j130) (by decide) rfl (fun ls hl => ?_)
                          refine lv_goto (tgt := 130) hx hb dX8_cost_196 (by decide) ?_
                          exact ih130 (j130 + 1) (x130_7 + (((F 33 (Int32.toNatClampNeg ((21 * a2) + (nI j130)))) * a4) * ((r11 + a5) - (nI j130)))) ls (by omega) (lv_sub hl [0, 2, 1, 3, 4, 5, 6, 7, 8, 9] rfl)
                        · skip
                          refine lv_aload_n hx hb dX8_cost_146 rfl (lv_at hl 4 rfl) ?_
                          refine va_get (D := (dC, dI)) (ci := 7) (v := .ref (q 33)) (C := RX8) (T := TX8) (N := 37) hx hb hts hinX8 hown hK hP 0 rfl rfl 33 (by decide) (hts (.fieldLink RX8 95 "FurPostsModel" "parts" "[I") (by decide +kernel)) (fun _ h9 => h9) rfl dX8_cost_147 ?_
                          refine lv_bipush (v := 21) hx hb dX8_cost_150 (by decide) ?_
                          refine lv_iload_n hx hb dX8_cost_152 rfl (lv_at hl 6 rfl) ?_
                          refine lv_imul hx hb dX8_cost_153 ?_
                          refine lv_iload hx hb dX8_cost_154 (lv_at hl 0 rfl) ?_
                          refine lv_iadd hx hb dX8_cost_156 ?_
                          refine va_iald hx hb hK hP 29 0 rfl rfl (i := ((21 * a2) + (nI j130))) (vp_lin (a := 6) (b := 21) (m := 21) (sp_vp h_3 rfl) (vp_in_nI (show j130 < 21 by omega) (by decide)) rfl (by decide)) dX8_cost_157 ?_
                          refine lv_iload_n hx hb dX8_cost_158 rfl (lv_at hl 7 rfl) ?_
                          refine lv_imul hx hb dX8_cost_159 ?_
                          refine lv_iload hx hb dX8_cost_160 (lv_at hl 0 rfl) ?_
                          refine lv_iload hx hb dX8_cost_162 (lv_at hl 1 rfl) ?_
                          refine lv_isub hx hb dX8_cost_164 ?_
                          refine lv_imul hx hb dX8_cost_165 ?_
                          refine lv_goto (tgt := 190) hx hb dX8_cost_166 (by decide) ?_
                          refine lv_iadd hx hb dX8_cost_190 ?_
                          refine lv_istore (lv' := [(7, .int (x130_7 + (((F 33 (Int32.toNatClampNeg ((21 * a2) + (nI j130)))) * a3) * ((nI j130) - (r11 + a5))))), (9, .int (nI j130)), (8, .int (r11 + a5)), (6, .int x55_6), (0, .ref h0), (1, .int a1), (2, .int a2), (3, .int a3), (4, .int a4), (5, .int a5)]) hx hb dX8_cost_191 hl (by decide) rfl (fun ls hl => ?_)
                          refine lv_iinc (v := (nI (j130 + 1))) (lv' := [(9, .int (nI (j130 + 1))), (7, .int (x130_7 + (((F 33 (Int32.toNatClampNeg ((21 * a2) + (nI j130)))) * a3) * ((nI j130) - (r11 + a5))))), (8, .int (r11 + a5)), (6, .int x55_6), (0, .ref h0), (1, .int a1), (2, .int a2), (3, .int a3), (4, .int a4), (5, .int a5)]) hx hb dX8_cost_193 hl (k := 1) rfl (show nI j130 + 1 = nI (j130 + 1) from nI_1 j130) (by decide) rfl (fun ls hl => ?_)
                          refine lv_goto (tgt := 130) hx hb dX8_cost_196 (by decide) ?_
                          exact ih130 (j130 + 1) (x130_7 + (((F 33 (Int32.toNatClampNeg ((21 * a2) + (nI j130)))) * a3) * ((nI j130) - (r11 + a5)))) ls (by omega) (lv_sub hl [0, 2, 1, 3, 4, 5, 6, 7, 8, 9] rfl)
                    exact key130 21 0 0 ls (by omega) (lv_sub hl [0, 1, 2, 3, 4, 5, 6, 7, 8, 9] rfl)
                  · skip
                    refine lv_sipush (v := 1000) hx hb dX8_cost_110 (by decide) ?_
                    refine lv_goto (tgt := 122) hx hb dX8_cost_113 (by decide) ?_
                    refine lv_iload hx hb dX8_cost_122 (lv_at hl 7 rfl) ?_
                    refine lv_iadd hx hb dX8_cost_124 ?_
                    refine lv_istore (lv' := [(8, .int (1000 + a5)), (7, .int 0), (6, .int x55_6), (0, .ref h0), (1, .int a1), (2, .int a2), (3, .int a3), (4, .int a4), (5, .int a5)]) hx hb dX8_cost_125 hl (by decide) rfl (fun ls hl => ?_)
                    refine lv_iconst (v := 0) hx hb dX8_cost_127 (by decide) ?_
                    refine lv_istore (lv' := [(9, .int 0), (8, .int (1000 + a5)), (7, .int 0), (6, .int x55_6), (0, .ref h0), (1, .int a1), (2, .int a2), (3, .int a3), (4, .int a4), (5, .int a5)]) hx hb dX8_cost_128 hl (by decide) rfl (fun ls hl => ?_)
                    have key130 : ∀ (k j130 : Nat) (x130_7 : Int32) (ls : Array Slot), j130 + k = 21 → lv_has ls 10 [(9, .int (nI j130)), (8, .int (1000 + a5)), (7, .int x130_7), (6, .int x55_6), (0, .ref h0), (1, .int a1), (2, .int a2), (3, .int a3), (4, .int a4), (5, .int a5)] →
                        W p l e (headSpec wsX8_cost ({ frames := 2, cells := 0, slots := 0, locals := 43 })).room s m [.ref h0, .int a1, .int a2, .int a3, .int a4, .int a5].toArray below meth c s.heap [] 0 0 (MQ below (pg_Q (gi_ (fun r => True))) [.ref h0, .int a1, .int a2, .int a3, .int a4, .int a5].toArray s 0 0 pu_F) (F0 m 130 ls []) := by
                      intro k
                      induction k with
                      | zero =>
                        intro j130 x130_7 ls hj hl
                        have hj : j130 = 21 := by omega
                        subst j130
                        refine lv_iload hx hb dX8_cost_130 (lv_at hl 0 rfl) ?_
                        refine lv_bipush (v := 21) hx hb dX8_cost_132 (by decide) ?_
                        refine lv_icmp_ge (tgt := 199) hx hb dX8_cost_134 (by decide) (fun h_15 => ?_) (fun h_15 => absurd (lp_ge0 (B := 21) rfl) h_15)
                        refine lv_iload hx hb dX8_cost_199 (lv_at hl 2 rfl) ?_
                        exact W.iret (v := x130_7) hx hb hr (fun t ht hW => ⟨_, rfl, ⟨x130_7, rfl, trivial⟩, ht⟩) (fun q h => by cases h) dX8_cost_201
                      | succ k ih130 =>
                        intro j130 x130_7 ls hj hl
                        have hj130 : j130 < 21 := by omega
                        refine lv_iload hx hb dX8_cost_130 (lv_at hl 0 rfl) ?_
                        refine lv_bipush (v := 21) hx hb dX8_cost_132 (by decide) ?_
                        refine lv_icmp_ge (tgt := 199) hx hb dX8_cost_134 (by decide) (fun h_16 => absurd h_16 (lp_ge (B := 21) (by omega) (by omega) rfl)) (fun h_16 => ?_)
                        refine lv_iload hx hb dX8_cost_137 (lv_at hl 2 rfl) ?_
                        refine lv_iload hx hb dX8_cost_139 (lv_at hl 0 rfl) ?_
                        refine lv_iload hx hb dX8_cost_141 (lv_at hl 1 rfl) ?_
                        refine lv_icmp_le (tgt := 169) hx hb dX8_cost_143 (by decide) (fun h_17 => ?_) (fun h_17 => ?_)
                        · skip
                          refine lv_aload_n hx hb dX8_cost_169 rfl (lv_at hl 4 rfl) ?_
                          refine va_get (D := (dC, dI)) (ci := 7) (v := .ref (q 33)) (C := RX8) (T := TX8) (N := 37) hx hb hts hinX8 hown hK hP 0 rfl rfl 33 (by decide) (hts (.fieldLink RX8 95 "FurPostsModel" "parts" "[I") (by decide +kernel)) (fun _ h9 => h9) rfl dX8_cost_170 ?_
                          refine lv_bipush (v := 21) hx hb dX8_cost_173 (by decide) ?_
                          refine lv_iload_n hx hb dX8_cost_175 rfl (lv_at hl 6 rfl) ?_
                          refine lv_imul hx hb dX8_cost_176 ?_
                          refine lv_iload hx hb dX8_cost_177 (lv_at hl 0 rfl) ?_
                          refine lv_iadd hx hb dX8_cost_179 ?_
                          refine va_iald hx hb hK hP 29 0 rfl rfl (i := ((21 * a2) + (nI j130))) (vp_lin (a := 6) (b := 21) (m := 21) (sp_vp h_3 rfl) (vp_in_nI (show j130 < 21 by omega) (by decide)) rfl (by decide)) dX8_cost_180 ?_
                          refine lv_iload hx hb dX8_cost_181 (lv_at hl 8 rfl) ?_
                          refine lv_imul hx hb dX8_cost_183 ?_
                          refine lv_iload hx hb dX8_cost_184 (lv_at hl 1 rfl) ?_
                          refine lv_iload hx hb dX8_cost_186 (lv_at hl 0 rfl) ?_
                          refine lv_isub hx hb dX8_cost_188 ?_
                          refine lv_imul hx hb dX8_cost_189 ?_
                          refine lv_iadd hx hb dX8_cost_190 ?_
                          refine lv_istore (lv' := [(7, .int (x130_7 + (((F 33 (Int32.toNatClampNeg ((21 * a2) + (nI j130)))) * a4) * ((1000 + a5) - (nI j130))))), (9, .int (nI j130)), (8, .int (1000 + a5)), (6, .int x55_6), (0, .ref h0), (1, .int a1), (2, .int a2), (3, .int a3), (4, .int a4), (5, .int a5)]) hx hb dX8_cost_191 hl (by decide) rfl (fun ls hl => ?_)
                          refine lv_iinc (v := (nI (j130 + 1))) (lv' := [(9, .int (nI (j130 + 1))), (7, .int (x130_7 + (((F 33 (Int32.toNatClampNeg ((21 * a2) + (nI j130)))) * a4) * ((1000 + a5) - (nI j130))))), (8, .int (1000 + a5)), (6, .int x55_6), (0, .ref h0), (1, .int a1), (2, .int a2), (3, .int a3), (4, .int a4), (5, .int a5)]) hx hb dX8_cost_193 hl (k := 1) rfl (show nI j130 + 1 = nI (j130 + 1) from nI_1 j130) (by decide) rfl (fun ls hl => ?_)
                          refine lv_goto (tgt := 130) hx hb dX8_cost_196 (by decide) ?_
                          exact ih130 (j130 + 1) (x130_7 + (((F 33 (Int32.toNatClampNeg ((21 * a2) + (nI j130)))) * a4) * ((1000 + a5) - (nI j130)))) ls (by omega) (lv_sub hl [0, 2, 1, 3, 4, 5, 6, 7, 8, 9] rfl)
                        · skip
                          refine lv_aload_n hx hb dX8_cost_146 rfl (lv_at hl 4 rfl) ?_
                          refine va_get (D := (dC, dI)) (ci := 7) (v := .ref (q 33)) (C := RX8) (T := TX8) (N := 37) hx hb hts hinX8 hown hK hP 0 rfl rfl 33 (by decide) (hts (.fieldLink RX8 95 "FurPostsModel" "parts" "[I") (by decide +kernel)) (fun _ h9 => h9) rfl dX8_cost_147 ?_
                          refine lv_bipush (v := 21) hx hb dX8_cost_150 (by decide) ?_
                          refine lv_iload_n hx hb dX8_cost_152 rfl (lv_at hl 6 rfl) ?_
                          refine lv_imul hx hb dX8_cost_153 ?_
                          refine lv_iload hx hb dX8_cost_154 (lv_at hl 0 rfl) ?_
                          refine lv_iadd hx hb dX8_cost_156 ?_
                          refine va_iald hx hb hK hP 29 0 rfl rfl (i := ((21 * a2) + (nI j130))) (vp_lin (a := 6) (b := 21) (m := 21) (sp_vp h_3 rfl) (vp_in_nI (show j130 < 21 by omega) (by decide)) rfl (by decide)) dX8_cost_157 ?_
                          refine lv_iload_n hx hb dX8_cost_158 rfl (lv_at hl 7 rfl) ?_
                          refine lv_imul hx hb dX8_cost_159 ?_
                          refine lv_iload hx hb dX8_cost_160 (lv_at hl 0 rfl) ?_
                          refine lv_iload hx hb dX8_cost_162 (lv_at hl 1 rfl) ?_
                          refine lv_isub hx hb dX8_cost_164 ?_
                          refine lv_imul hx hb dX8_cost_165 ?_
                          refine lv_goto (tgt := 190) hx hb dX8_cost_166 (by decide) ?_
                          refine lv_iadd hx hb dX8_cost_190 ?_
                          refine lv_istore (lv' := [(7, .int (x130_7 + (((F 33 (Int32.toNatClampNeg ((21 * a2) + (nI j130)))) * a3) * ((nI j130) - (1000 + a5))))), (9, .int (nI j130)), (8, .int (1000 + a5)), (6, .int x55_6), (0, .ref h0), (1, .int a1), (2, .int a2), (3, .int a3), (4, .int a4), (5, .int a5)]) hx hb dX8_cost_191 hl (by decide) rfl (fun ls hl => ?_)
                          refine lv_iinc (v := (nI (j130 + 1))) (lv' := [(9, .int (nI (j130 + 1))), (7, .int (x130_7 + (((F 33 (Int32.toNatClampNeg ((21 * a2) + (nI j130)))) * a3) * ((nI j130) - (1000 + a5))))), (8, .int (1000 + a5)), (6, .int x55_6), (0, .ref h0), (1, .int a1), (2, .int a2), (3, .int a3), (4, .int a4), (5, .int a5)]) hx hb dX8_cost_193 hl (k := 1) rfl (show nI j130 + 1 = nI (j130 + 1) from nI_1 j130) (by decide) rfl (fun ls hl => ?_)
                          refine lv_goto (tgt := 130) hx hb dX8_cost_196 (by decide) ?_
                          exact ih130 (j130 + 1) (x130_7 + (((F 33 (Int32.toNatClampNeg ((21 * a2) + (nI j130)))) * a3) * ((nI j130) - (1000 + a5)))) ls (by omega) (lv_sub hl [0, 2, 1, 3, 4, 5, 6, 7, 8, 9] rfl)
                    exact key130 21 0 0 ls (by omega) (lv_sub hl [0, 1, 2, 3, 4, 5, 6, 7, 8, 9] rfl)
                · skip
                  refine lv_iconst (v := (-1)) hx hb dX8_cost_93 (by decide) ?_
                  exact W.iret (v := (-1)) hx hb hr (fun t ht hW => ⟨_, rfl, ⟨(-1), rfl, trivial⟩, ht⟩) (fun q h => by cases h) dX8_cost_94
              | succ k ih55 =>
                intro j55 x55_6 ls hj hl
                have hj55 : j55 < 21 := by omega
                refine lv_iload hx hb dX8_cost_55 (lv_at hl 0 rfl) ?_
                refine lv_bipush (v := 21) hx hb dX8_cost_57 (by decide) ?_
                refine lv_icmp_ge (tgt := 85) hx hb dX8_cost_59 (by decide) (fun h_18 => absurd h_18 (lp_ge (B := 21) (by omega) (by omega) rfl)) (fun h_18 => ?_)
                refine lv_iload hx hb dX8_cost_62 (lv_at hl 1 rfl) ?_
                refine lv_aload_n hx hb dX8_cost_64 rfl (lv_at hl 2 rfl) ?_
                refine va_get (D := (dC, dI)) (ci := 7) (v := .ref (q 33)) (C := RX8) (T := TX8) (N := 37) hx hb hts hinX8 hown hK hP 0 rfl rfl 33 (by decide) (hts (.fieldLink RX8 95 "FurPostsModel" "parts" "[I") (by decide +kernel)) (fun _ h9 => h9) rfl dX8_cost_65 ?_
                refine lv_bipush (v := 21) hx hb dX8_cost_68 (by decide) ?_
                refine lv_iload_n hx hb dX8_cost_70 rfl (lv_at hl 4 rfl) ?_
                refine lv_imul hx hb dX8_cost_71 ?_
                refine lv_iload hx hb dX8_cost_72 (lv_at hl 0 rfl) ?_
                refine lv_iadd hx hb dX8_cost_74 ?_
                refine va_iald hx hb hK hP 29 0 rfl rfl (i := ((21 * a2) + (nI j55))) (vp_lin (a := 6) (b := 21) (m := 21) (sp_vp h_3 rfl) (vp_in_nI (show j55 < 21 by omega) (by decide)) rfl (by decide)) dX8_cost_75 ?_
                refine lv_iadd hx hb dX8_cost_76 ?_
                refine lv_istore (lv' := [(6, .int (x55_6 + (F 33 (Int32.toNatClampNeg ((21 * a2) + (nI j55)))))), (7, .int (nI j55)), (0, .ref h0), (1, .int a1), (2, .int a2), (3, .int a3), (4, .int a4), (5, .int a5)]) hx hb dX8_cost_77 hl (by decide) rfl (fun ls hl => ?_)
                refine lv_iinc (v := (nI (j55 + 1))) (lv' := [(7, .int (nI (j55 + 1))), (6, .int (x55_6 + (F 33 (Int32.toNatClampNeg ((21 * a2) + (nI j55)))))), (0, .ref h0), (1, .int a1), (2, .int a2), (3, .int a3), (4, .int a4), (5, .int a5)]) hx hb dX8_cost_79 hl (k := 1) rfl (show nI j55 + 1 = nI (j55 + 1) from nI_1 j55) (by decide) rfl (fun ls hl => ?_)
                refine lv_goto (tgt := 55) hx hb dX8_cost_82 (by decide) ?_
                exact ih55 (j55 + 1) (x55_6 + (F 33 (Int32.toNatClampNeg ((21 * a2) + (nI j55))))) ls (by omega) (lv_sub hl [0, 1, 2, 3, 4, 5, 6, 7] rfl)
            exact key55 21 0 0 ls (by omega) (lv_sub hl [0, 1, 2, 3, 4, 5, 6, 7] rfl)
          · skip
            refine lv_iconst (v := (-1)) hx hb dX8_cost_47 (by decide) ?_
            exact W.iret (v := (-1)) hx hb hr (fun t ht hW => ⟨_, rfl, ⟨(-1), rfl, trivial⟩, ht⟩) (fun q h => by cases h) dX8_cost_48

set_option maxHeartbeats 4000000 in
set_option maxRecDepth 100000 in
theorem k_X8_indent (l : Launch) (dC : Nat → ClassId) (dI : Nat → Nat → Nat) (h0 : Nat) (q n : Nat → Nat) (dl : Int32) (cI cZ : ClassId) (F : Nat → Nat → Int32) (hI : mi_ n F) (hN : nb_ n) (a1 : Int32) (a2 : Int32) (a3 : Int32) (a4 : Int32) : Met l yX8_indent wsX8_indent ({ frames := 3, cells := 0, slots := 0, locals := 72 }) (va_Pc [.ref h0, .int a1, .int a2, .int a3, .int a4] (pu_P (dC, dI) vwCl (mt_ cI cZ) (mw_ h0 q n dl cI cZ F))) (pg_Q (gi_ (fun r => True))) 0 0 pu_F := by
  refine Met.ofW (cc := cX8_indent) (maxL := 8) (ret := (some .int)) (by decide) rfl ?_
  intro p e s m args below meth c s₁ B hml hv
  obtain ⟨rfl, hP, hK⟩ := hv
  have hx := B.exec
  have hb := B.bytes
  have hr := B.returns
  have hts := atoms_spec (ws := wsX8_indent) B.pre
  have hown : s.vm.findClass RX8 = some m.cls := findClass_of_methodNamed B.named
  have hlocks := B.notSynchronized
  have hl := lv_entry ([.ref h0, .int a1, .int a2, .int a3, .int a4]) (n := 8) (Nat.le_of_ble_eq_true rfl)
  rw [lg_entry_eq]
  generalize (lg_sl ([.ref h0, .int a1, .int a2, .int a3, .int a4]) ++ List.replicate (8 - (lg_sl ([.ref h0, .int a1, .int a2, .int a3, .int a4])).length) Slot.unset).toArray = ls at hl ⊢
  have hl : lv_has ls 8 [(0, .ref h0), (1, .int a1), (2, .int a2), (3, .int a3), (4, .int a4)] := hl
  refine lv_iconst (v := (-1)) hx hb dX8_indent_0 (by decide) ?_
  refine lv_istore (lv' := [(5, .int (-1)), (0, .ref h0), (1, .int a1), (2, .int a2), (3, .int a3), (4, .int a4)]) hx hb dX8_indent_1 hl (by decide) rfl (fun ls hl => ?_)
  refine lv_iconst (v := 0) hx hb dX8_indent_3 (by decide) ?_
  refine lv_istore (lv' := [(6, .int 0), (5, .int (-1)), (0, .ref h0), (1, .int a1), (2, .int a2), (3, .int a3), (4, .int a4)]) hx hb dX8_indent_4 hl (by decide) rfl (fun ls hl => ?_)
  have key6 : ∀ (k j6 : Nat) (x6_5 : Int32) (ls : Array Slot), j6 + k = 21 → lv_has ls 8 [(6, .int (nI j6)), (5, .int x6_5), (0, .ref h0), (1, .int a1), (2, .int a2), (3, .int a3), (4, .int a4)] →
      W p l e (headSpec wsX8_indent ({ frames := 3, cells := 0, slots := 0, locals := 72 })).room s m [.ref h0, .int a1, .int a2, .int a3, .int a4].toArray below meth c s.heap [] 0 0 (MQ below (pg_Q (gi_ (fun r => True))) [.ref h0, .int a1, .int a2, .int a3, .int a4].toArray s 0 0 pu_F) (F0 m 6 ls []) := by
    intro k
    induction k with
    | zero =>
      intro j6 x6_5 ls hj hl
      have hj : j6 = 21 := by omega
      subst j6
      refine lv_iload hx hb dX8_indent_6 (lv_at hl 0 rfl) ?_
      refine lv_bipush (v := 21) hx hb dX8_indent_8 (by decide) ?_
      refine lv_icmp_ge (tgt := 66) hx hb dX8_indent_10 (by decide) (fun h_1 => ?_) (fun h_1 => absurd (lp_ge0 (B := 21) rfl) h_1)
      refine lv_iload hx hb dX8_indent_66 (lv_at hl 1 rfl) ?_
      exact W.iret (v := x6_5) hx hb hr (fun t ht hW => ⟨_, rfl, ⟨x6_5, rfl, trivial⟩, ht⟩) (fun q h => by cases h) dX8_indent_68
    | succ k ih6 =>
      intro j6 x6_5 ls hj hl
      have hj6 : j6 < 21 := by omega
      refine lv_iload hx hb dX8_indent_6 (lv_at hl 0 rfl) ?_
      refine lv_bipush (v := 21) hx hb dX8_indent_8 (by decide) ?_
      refine lv_icmp_ge (tgt := 66) hx hb dX8_indent_10 (by decide) (fun h_2 => absurd h_2 (lp_ge (B := 21) (by omega) (by omega) rfl)) (fun h_2 => ?_)
      refine lv_aload_n hx hb dX8_indent_13 rfl (lv_at hl 2 rfl) ?_
      refine lv_iload_n hx hb dX8_indent_14 rfl (lv_at hl 3 rfl) ?_
      refine lv_iload_n hx hb dX8_indent_15 rfl (lv_at hl 4 rfl) ?_
      refine lv_iload_n hx hb dX8_indent_16 rfl (lv_at hl 5 rfl) ?_
      refine lv_iload hx hb dX8_indent_17 (lv_at hl 6 rfl) ?_
      refine lv_iload hx hb dX8_indent_19 (lv_at hl 0 rfl) ?_
      refine pg_call (va_runV (As := [.int a1, .int a2, .int a3, .int a4, .int (nI j6)]) (rest := []) ⟨hx, hb, hml, hown, hts⟩ (k_X8_cost l dC dI h0 q n dl cI cZ F hI hN a1 a2 a3 a4 (nI j6)) (cwV 5 hts gX8_indent_X8_cost rfl rfl rfl (by decide +kernel) ⟨Nat.le_of_ble_eq_true rfl, Nat.le_of_ble_eq_true rfl⟩) (pu_pre hP hK (ci := 7) (q0 := 0) rfl rfl) rfl rfl hl.1 rfl (lv_room (Nat.le_of_ble_eq_true rfl)) dX8_indent_21 ⟨Nat.le_of_ble_eq_true rfl, Nat.le_of_ble_eq_true rfl⟩) (fun w3 hw3 => ?_)
      obtain ⟨r3, rfl, hg3⟩ := hw3
      refine lv_istore (lv' := [(7, .int r3), (6, .int (nI j6)), (5, .int x6_5), (0, .ref h0), (1, .int a1), (2, .int a2), (3, .int a3), (4, .int a4)]) hx hb dX8_indent_24 hl (by decide) rfl (fun ls hl => ?_)
      refine lv_iload hx hb dX8_indent_26 (lv_at hl 0 rfl) ?_
      refine lv_iconst (v := (-1)) hx hb dX8_indent_28 (by decide) ?_
      refine lv_icmp_ne (tgt := 34) hx hb dX8_indent_29 (by decide) (fun h_4 => ?_) (fun h_4 => ?_)
      · skip
        refine lv_iload hx hb dX8_indent_34 (lv_at hl 2 rfl) ?_
        refine lv_iconst (v := (-1)) hx hb dX8_indent_36 (by decide) ?_
        refine lv_icmp_eq (tgt := 56) hx hb dX8_indent_37 (by decide) (fun h_5 => ?_) (fun h_5 => ?_)
        · skip
          refine lv_iload hx hb dX8_indent_56 (lv_at hl 1 rfl) ?_
          refine lv_istore (lv' := [(5, .int (nI j6)), (7, .int r3), (6, .int (nI j6)), (0, .ref h0), (1, .int a1), (2, .int a2), (3, .int a3), (4, .int a4)]) hx hb dX8_indent_58 hl (by decide) rfl (fun ls hl => ?_)
          refine lv_iinc (v := (nI (j6 + 1))) (lv' := [(6, .int (nI (j6 + 1))), (5, .int (nI j6)), (7, .int r3), (0, .ref h0), (1, .int a1), (2, .int a2), (3, .int a3), (4, .int a4)]) hx hb dX8_indent_60 hl (k := 2) rfl (show nI j6 + 1 = nI (j6 + 1) from nI_1 j6) (by decide) rfl (fun ls hl => ?_)
          refine lv_goto (tgt := 6) hx hb dX8_indent_63 (by decide) ?_
          exact ih6 (j6 + 1) (nI j6) ls (by omega) (lv_sub hl [0, 1, 3, 4, 5, 6, 7] rfl)
        · skip
          refine lv_iload hx hb dX8_indent_40 (lv_at hl 0 rfl) ?_
          refine lv_aload_n hx hb dX8_indent_42 rfl (lv_at hl 3 rfl) ?_
          refine lv_iload_n hx hb dX8_indent_43 rfl (lv_at hl 4 rfl) ?_
          refine lv_iload_n hx hb dX8_indent_44 rfl (lv_at hl 5 rfl) ?_
          refine lv_iload_n hx hb dX8_indent_45 rfl (lv_at hl 6 rfl) ?_
          refine lv_iload hx hb dX8_indent_46 (lv_at hl 7 rfl) ?_
          refine lv_iload hx hb dX8_indent_48 (lv_at hl 2 rfl) ?_
          refine pg_call (va_runV (As := [.int a1, .int a2, .int a3, .int a4, .int x6_5]) (rest := [.int r3]) ⟨hx, hb, hml, hown, hts⟩ (k_X8_cost l dC dI h0 q n dl cI cZ F hI hN a1 a2 a3 a4 x6_5) (cwV 5 hts gX8_indent_X8_cost rfl rfl rfl (by decide +kernel) ⟨Nat.le_of_ble_eq_true rfl, Nat.le_of_ble_eq_true rfl⟩) (pu_pre hP hK (ci := 7) (q0 := 0) rfl rfl) rfl rfl hl.1 rfl (lv_room (Nat.le_of_ble_eq_true rfl)) dX8_indent_50 ⟨Nat.le_of_ble_eq_true rfl, Nat.le_of_ble_eq_true rfl⟩) (fun w6 hw6 => ?_)
          obtain ⟨r6, rfl, hg6⟩ := hw6
          refine lv_icmp_ge (tgt := 60) hx hb dX8_indent_53 (by decide) (fun h_7 => ?_) (fun h_7 => ?_)
          · skip
            refine lv_iinc (v := (nI (j6 + 1))) (lv' := [(6, .int (nI (j6 + 1))), (7, .int r3), (5, .int x6_5), (0, .ref h0), (1, .int a1), (2, .int a2), (3, .int a3), (4, .int a4)]) hx hb dX8_indent_60 hl (k := 1) rfl (show nI j6 + 1 = nI (j6 + 1) from nI_1 j6) (by decide) rfl (fun ls hl => ?_)
            refine lv_goto (tgt := 6) hx hb dX8_indent_63 (by decide) ?_
            exact ih6 (j6 + 1) x6_5 ls (by omega) (lv_sub hl [0, 2, 3, 4, 5, 6, 7] rfl)
          · skip
            refine lv_iload hx hb dX8_indent_56 (lv_at hl 1 rfl) ?_
            refine lv_istore (lv' := [(5, .int (nI j6)), (7, .int r3), (6, .int (nI j6)), (0, .ref h0), (1, .int a1), (2, .int a2), (3, .int a3), (4, .int a4)]) hx hb dX8_indent_58 hl (by decide) rfl (fun ls hl => ?_)
            refine lv_iinc (v := (nI (j6 + 1))) (lv' := [(6, .int (nI (j6 + 1))), (5, .int (nI j6)), (7, .int r3), (0, .ref h0), (1, .int a1), (2, .int a2), (3, .int a3), (4, .int a4)]) hx hb dX8_indent_60 hl (k := 2) rfl (show nI j6 + 1 = nI (j6 + 1) from nI_1 j6) (by decide) rfl (fun ls hl => ?_)
            refine lv_goto (tgt := 6) hx hb dX8_indent_63 (by decide) ?_
            exact ih6 (j6 + 1) (nI j6) ls (by omega) (lv_sub hl [0, 1, 3, 4, 5, 6, 7] rfl)
      · skip
        refine lv_iconst (v := (-1)) hx hb dX8_indent_32 (by decide) ?_
        exact W.iret (v := (-1)) hx hb hr (fun t ht hW => ⟨_, rfl, ⟨(-1), rfl, trivial⟩, ht⟩) (fun q h => by cases h) dX8_indent_33
  exact key6 21 0 (-1) ls (by omega) (lv_sub hl [0, 1, 2, 3, 4, 5, 6] rfl)

set_option maxHeartbeats 4000000 in
set_option maxRecDepth 100000 in
theorem k_X8_quarrel (l : Launch) (dC : Nat → ClassId) (dI : Nat → Nat → Nat) (h0 : Nat) (q n : Nat → Nat) (dl : Int32) (cI cZ : ClassId) (F : Nat → Nat → Int32) (hI : mi_ n F) (hN : nb_ n) (a1 : Int32) (a2 : Int32) : Met l yX8_quarrel wsX8_quarrel ({ frames := 2, cells := 0, slots := 0, locals := 43 }) (va_Pc [.ref h0, .int a1, .int a2] (pu_P (dC, dI) vwCl (mt_ cI cZ) (mw_ h0 q n dl cI cZ F))) (pg_Q (gi_ (fun r => True))) 0 0 pu_F := by
  refine Met.ofW (cc := cX8_quarrel) (maxL := 5) (ret := (some .int)) (by decide) rfl ?_
  intro p e s m args below meth c s₁ B hml hv
  obtain ⟨rfl, hP, hK⟩ := hv
  have hx := B.exec
  have hb := B.bytes
  have hr := B.returns
  have hts := atoms_spec (ws := wsX8_quarrel) B.pre
  have hown : s.vm.findClass RX8 = some m.cls := findClass_of_methodNamed B.named
  have hlocks := B.notSynchronized
  have hinX8 : ∀ w ∈ u_ws RX8 TX8 37, w ∈ wsX8_quarrel := by decide +kernel
  have hl := lv_entry ([.ref h0, .int a1, .int a2]) (n := 5) (Nat.le_of_ble_eq_true rfl)
  rw [lg_entry_eq]
  generalize (lg_sl ([.ref h0, .int a1, .int a2]) ++ List.replicate (5 - (lg_sl ([.ref h0, .int a1, .int a2])).length) Slot.unset).toArray = ls at hl ⊢
  have hl : lv_has ls 5 [(0, .ref h0), (1, .int a1), (2, .int a2)] := hl
  refine lv_aload_n hx hb dX8_quarrel_0 rfl (lv_at hl 0 rfl) ?_
  refine lv_iload_n hx hb dX8_quarrel_1 rfl (lv_at hl 1 rfl) ?_
  refine pg_call (va_runV (As := [.int a1]) (rest := []) ⟨hx, hb, hml, hown, hts⟩ (k_X8_isPost l dC dI h0 q n dl cI cZ F hI hN a1) (cwV 1 hts gX8_quarrel_X8_isPost rfl rfl rfl (by decide +kernel) ⟨Nat.le_of_ble_eq_true rfl, Nat.le_of_ble_eq_true rfl⟩) (pu_pre hP hK (ci := 7) (q0 := 0) rfl rfl) rfl rfl hl.1 rfl (lv_room (Nat.le_of_ble_eq_true rfl)) dX8_quarrel_2 ⟨Nat.le_of_ble_eq_true rfl, Nat.le_of_ble_eq_true rfl⟩) (fun w1 hw1 => ?_)
  obtain ⟨r1, rfl, hg1⟩ := hw1
  refine lv_if_eq (tgt := 16) hx hb dX8_quarrel_5 (by decide) (fun h_2 => ?_) (fun h_2 => ?_)
  · skip
    refine lv_iconst (v := (-1)) hx hb dX8_quarrel_16 (by decide) ?_
    exact W.iret (v := (-1)) hx hb hr (fun t ht hW => ⟨_, rfl, ⟨(-1), rfl, trivial⟩, ht⟩) (fun q h => by cases h) dX8_quarrel_17
  · skip
    refine lv_aload_n hx hb dX8_quarrel_8 rfl (lv_at hl 0 rfl) ?_
    refine lv_iload_n hx hb dX8_quarrel_9 rfl (lv_at hl 2 rfl) ?_
    refine pg_call (va_runV (As := [.int a2]) (rest := []) ⟨hx, hb, hml, hown, hts⟩ (k_X8_isPost l dC dI h0 q n dl cI cZ F hI hN a2) (cwV 1 hts gX8_quarrel_X8_isPost rfl rfl rfl (by decide +kernel) ⟨Nat.le_of_ble_eq_true rfl, Nat.le_of_ble_eq_true rfl⟩) (pu_pre hP hK (ci := 7) (q0 := 0) rfl rfl) rfl rfl hl.1 rfl (lv_room (Nat.le_of_ble_eq_true rfl)) dX8_quarrel_10 ⟨Nat.le_of_ble_eq_true rfl, Nat.le_of_ble_eq_true rfl⟩) (fun w3 hw3 => ?_)
    obtain ⟨r3, rfl, hg3⟩ := hw3
    refine lv_if_ne (tgt := 18) hx hb dX8_quarrel_13 (by decide) (fun h_4 => ?_) (fun h_4 => ?_)
    · skip
      refine lv_iconst (v := 0) hx hb dX8_quarrel_18 (by decide) ?_
      refine lv_istore_n (lv' := [(3, .int 0), (0, .ref h0), (1, .int a1), (2, .int a2)]) hx hb dX8_quarrel_19 rfl hl (by decide) rfl (fun ls hl => ?_)
      have key20 : ∀ (k j20 : Nat) (ls : Array Slot), j20 + k = (n 3) → lv_has ls 5 [(3, .int (nI j20)), (0, .ref h0), (1, .int a1), (2, .int a2)] →
          W p l e (headSpec wsX8_quarrel ({ frames := 2, cells := 0, slots := 0, locals := 43 })).room s m [.ref h0, .int a1, .int a2].toArray below meth c s.heap [] 0 0 (MQ below (pg_Q (gi_ (fun r => True))) [.ref h0, .int a1, .int a2].toArray s 0 0 pu_F) (F0 m 20 ls []) := by
        intro k
        induction k with
        | zero =>
          intro j20 ls hj hl
          have hj : j20 = (n 3) := by omega
          subst j20
          refine lv_iload_n hx hb dX8_quarrel_20 rfl (lv_at hl 0 rfl) ?_
          refine lv_aload_n hx hb dX8_quarrel_21 rfl (lv_at hl 1 rfl) ?_
          refine va_get (D := (dC, dI)) (ci := 7) (v := .int (nI (n 3))) (C := RX8) (T := TX8) (N := 37) hx hb hts hinX8 hown hK hP 0 rfl rfl 13 (by decide) (hts (.fieldLink RX8 112 "FurPostsModel" "canoes" "I") (by decide +kernel)) (fun _ h9 => h9) rfl dX8_quarrel_22 ?_
          refine lv_icmp_ge (tgt := 117) hx hb dX8_quarrel_25 (by decide) (fun h_5 => ?_) (fun h_5 => absurd (lp_ge0 (B := (n 3)) rfl) h_5)
          refine lv_iconst (v := (-1)) hx hb dX8_quarrel_117 (by decide) ?_
          exact W.iret (v := (-1)) hx hb hr (fun t ht hW => ⟨_, rfl, ⟨(-1), rfl, trivial⟩, ht⟩) (fun q h => by cases h) dX8_quarrel_118
        | succ k ih20 =>
          intro j20 ls hj hl
          have hj20 : j20 < (n 3) := by omega
          refine lv_iload_n hx hb dX8_quarrel_20 rfl (lv_at hl 0 rfl) ?_
          refine lv_aload_n hx hb dX8_quarrel_21 rfl (lv_at hl 1 rfl) ?_
          refine va_get (D := (dC, dI)) (ci := 7) (v := .int (nI (n 3))) (C := RX8) (T := TX8) (N := 37) hx hb hts hinX8 hown hK hP 0 rfl rfl 13 (by decide) (hts (.fieldLink RX8 112 "FurPostsModel" "canoes" "I") (by decide +kernel)) (fun _ h9 => h9) rfl dX8_quarrel_22 ?_
          refine lv_icmp_ge (tgt := 117) hx hb dX8_quarrel_25 (by decide) (fun h_6 => absurd h_6 (lp_ge (B := (n 3)) (by omega) (by omega) rfl)) (fun h_6 => ?_)
          refine lv_aload_n hx hb dX8_quarrel_28 rfl (lv_at hl 1 rfl) ?_
          refine va_get (D := (dC, dI)) (ci := 7) (v := .ref (q 14)) (C := RX8) (T := TX8) (N := 37) hx hb hts hinX8 hown hK hP 0 rfl rfl 14 (by decide) (hts (.fieldLink RX8 40 "FurPostsModel" "from" "[I") (by decide +kernel)) (fun _ h9 => h9) rfl dX8_quarrel_29 ?_
          refine lv_iload_n hx hb dX8_quarrel_32 rfl (lv_at hl 0 rfl) ?_
          refine va_iald hx hb hK hP 11 0 rfl rfl (i := (nI j20)) (vp_in_nI (show j20 < 120 by omega) (by decide)) dX8_quarrel_33 ?_
          refine lv_iload_n hx hb dX8_quarrel_34 rfl (lv_at hl 2 rfl) ?_
          refine lv_icmp_ne (tgt := 48) hx hb dX8_quarrel_35 (by decide) (fun h_7 => ?_) (fun h_7 => ?_)
          · skip
            refine lv_aload_n hx hb dX8_quarrel_48 rfl (lv_at hl 1 rfl) ?_
            refine va_get (D := (dC, dI)) (ci := 7) (v := .ref (q 14)) (C := RX8) (T := TX8) (N := 37) hx hb hts hinX8 hown hK hP 0 rfl rfl 14 (by decide) (hts (.fieldLink RX8 40 "FurPostsModel" "from" "[I") (by decide +kernel)) (fun _ h9 => h9) rfl dX8_quarrel_49 ?_
            refine lv_iload_n hx hb dX8_quarrel_52 rfl (lv_at hl 0 rfl) ?_
            refine va_iald hx hb hK hP 11 0 rfl rfl (i := (nI j20)) (vp_in_nI (show j20 < 120 by omega) (by decide)) dX8_quarrel_53 ?_
            refine lv_iload_n hx hb dX8_quarrel_54 rfl (lv_at hl 3 rfl) ?_
            refine lv_icmp_ne (tgt := 72) hx hb dX8_quarrel_55 (by decide) (fun h_8 => ?_) (fun h_8 => ?_)
            · skip
              refine lv_iconst (v := 0) hx hb dX8_quarrel_72 (by decide) ?_
              refine lv_istore (lv' := [(4, .int 0), (3, .int (nI j20)), (0, .ref h0), (1, .int a1), (2, .int a2)]) hx hb dX8_quarrel_73 hl (by decide) rfl (fun ls hl => ?_)
              refine lv_iload hx hb dX8_quarrel_75 (lv_at hl 0 rfl) ?_
              refine lv_if_eq (tgt := 111) hx hb dX8_quarrel_77 (by decide) (fun h_9 => ?_) (fun h_9 => absurd (by decide) h_9)
              refine lv_iinc (v := (nI (j20 + 1))) (lv' := [(3, .int (nI (j20 + 1))), (4, .int 0), (0, .ref h0), (1, .int a1), (2, .int a2)]) hx hb dX8_quarrel_111 hl (k := 1) rfl (show nI j20 + 1 = nI (j20 + 1) from nI_1 j20) (by decide) rfl (fun ls hl => ?_)
              refine lv_goto (tgt := 20) hx hb dX8_quarrel_114 (by decide) ?_
              exact ih20 (j20 + 1) ls (by omega) (lv_sub hl [0, 2, 3, 4] rfl)
            · skip
              refine lv_aload_n hx hb dX8_quarrel_58 rfl (lv_at hl 1 rfl) ?_
              refine va_get (D := (dC, dI)) (ci := 7) (v := .ref (q 15)) (C := RX8) (T := TX8) (N := 37) hx hb hts hinX8 hown hK hP 0 rfl rfl 15 (by decide) (hts (.fieldLink RX8 43 "FurPostsModel" "to" "[I") (by decide +kernel)) (fun _ h9 => h9) rfl dX8_quarrel_59 ?_
              refine lv_iload_n hx hb dX8_quarrel_62 rfl (lv_at hl 0 rfl) ?_
              refine va_iald hx hb hK hP 12 0 rfl rfl (i := (nI j20)) (vp_in_nI (show j20 < 120 by omega) (by decide)) dX8_quarrel_63 ?_
              refine lv_iload_n hx hb dX8_quarrel_64 rfl (lv_at hl 2 rfl) ?_
              refine lv_icmp_ne (tgt := 72) hx hb dX8_quarrel_65 (by decide) (fun h_10 => ?_) (fun h_10 => ?_)
              · skip
                refine lv_iconst (v := 0) hx hb dX8_quarrel_72 (by decide) ?_
                refine lv_istore (lv' := [(4, .int 0), (3, .int (nI j20)), (0, .ref h0), (1, .int a1), (2, .int a2)]) hx hb dX8_quarrel_73 hl (by decide) rfl (fun ls hl => ?_)
                refine lv_iload hx hb dX8_quarrel_75 (lv_at hl 0 rfl) ?_
                refine lv_if_eq (tgt := 111) hx hb dX8_quarrel_77 (by decide) (fun h_11 => ?_) (fun h_11 => absurd (by decide) h_11)
                refine lv_iinc (v := (nI (j20 + 1))) (lv' := [(3, .int (nI (j20 + 1))), (4, .int 0), (0, .ref h0), (1, .int a1), (2, .int a2)]) hx hb dX8_quarrel_111 hl (k := 1) rfl (show nI j20 + 1 = nI (j20 + 1) from nI_1 j20) (by decide) rfl (fun ls hl => ?_)
                refine lv_goto (tgt := 20) hx hb dX8_quarrel_114 (by decide) ?_
                exact ih20 (j20 + 1) ls (by omega) (lv_sub hl [0, 2, 3, 4] rfl)
              · skip
                refine lv_iconst (v := 1) hx hb dX8_quarrel_68 (by decide) ?_
                refine lv_goto (tgt := 73) hx hb dX8_quarrel_69 (by decide) ?_
                refine lv_istore (lv' := [(4, .int 1), (3, .int (nI j20)), (0, .ref h0), (1, .int a1), (2, .int a2)]) hx hb dX8_quarrel_73 hl (by decide) rfl (fun ls hl => ?_)
                refine lv_iload hx hb dX8_quarrel_75 (lv_at hl 0 rfl) ?_
                refine lv_if_eq (tgt := 111) hx hb dX8_quarrel_77 (by decide) (fun h_12 => absurd h_12 (by decide)) (fun h_12 => ?_)
                refine lv_aload_n hx hb dX8_quarrel_80 rfl (lv_at hl 2 rfl) ?_
                refine va_get (D := (dC, dI)) (ci := 7) (v := .ref (q 18)) (C := RX8) (T := TX8) (N := 37) hx hb hts hinX8 hown hK hP 0 rfl rfl 18 (by decide) (hts (.fieldLink RX8 52 "FurPostsModel" "state" "[I") (by decide +kernel)) (fun _ h9 => h9) rfl dX8_quarrel_81 ?_
                refine lv_iload_n hx hb dX8_quarrel_84 rfl (lv_at hl 1 rfl) ?_
                refine va_iald hx hb hK hP 15 0 rfl rfl (i := (nI j20)) (vp_in_nI (show j20 < 120 by omega) (by decide)) dX8_quarrel_85 ?_
                refine lv_iconst (v := 2) hx hb dX8_quarrel_86 (by decide) ?_
                refine lv_icmp_eq (tgt := 109) hx hb dX8_quarrel_87 (by decide) (fun h_13 => ?_) (fun h_13 => ?_)
                · skip
                  refine lv_iload_n hx hb dX8_quarrel_109 rfl (lv_at hl 1 rfl) ?_
                  exact W.iret (v := (nI j20)) hx hb hr (fun t ht hW => ⟨_, rfl, ⟨(nI j20), rfl, trivial⟩, ht⟩) (fun q h => by cases h) dX8_quarrel_110
                · skip
                  refine lv_aload_n hx hb dX8_quarrel_90 rfl (lv_at hl 2 rfl) ?_
                  refine va_get (D := (dC, dI)) (ci := 7) (v := .ref (q 18)) (C := RX8) (T := TX8) (N := 37) hx hb hts hinX8 hown hK hP 0 rfl rfl 18 (by decide) (hts (.fieldLink RX8 52 "FurPostsModel" "state" "[I") (by decide +kernel)) (fun _ h9 => h9) rfl dX8_quarrel_91 ?_
                  refine lv_iload_n hx hb dX8_quarrel_94 rfl (lv_at hl 1 rfl) ?_
                  refine va_iald hx hb hK hP 15 0 rfl rfl (i := (nI j20)) (vp_in_nI (show j20 < 120 by omega) (by decide)) dX8_quarrel_95 ?_
                  refine lv_iconst (v := 1) hx hb dX8_quarrel_96 (by decide) ?_
                  refine lv_icmp_ne (tgt := 111) hx hb dX8_quarrel_97 (by decide) (fun h_14 => ?_) (fun h_14 => ?_)
                  · skip
                    refine lv_iinc (v := (nI (j20 + 1))) (lv' := [(3, .int (nI (j20 + 1))), (4, .int 1), (0, .ref h0), (1, .int a1), (2, .int a2)]) hx hb dX8_quarrel_111 hl (k := 1) rfl (show nI j20 + 1 = nI (j20 + 1) from nI_1 j20) (by decide) rfl (fun ls hl => ?_)
                    refine lv_goto (tgt := 20) hx hb dX8_quarrel_114 (by decide) ?_
                    exact ih20 (j20 + 1) ls (by omega) (lv_sub hl [0, 2, 3, 4] rfl)
                  · skip
                    refine lv_aload_n hx hb dX8_quarrel_100 rfl (lv_at hl 2 rfl) ?_
                    refine va_get (D := (dC, dI)) (ci := 7) (v := .ref (q 24)) (C := RX8) (T := TX8) (N := 37) hx hb hts hinX8 hown hK hP 0 rfl rfl 24 (by decide) (hts (.fieldLink RX8 70 "FurPostsModel" "isOther" "[Z") (by decide +kernel)) (fun _ h9 => h9) rfl dX8_quarrel_101 ?_
                    refine lv_iload_n hx hb dX8_quarrel_104 rfl (lv_at hl 1 rfl) ?_
                    refine va_zald hx hb hK hP 21 1 rfl rfl (i := (nI j20)) (vp_in_nI (show j20 < 120 by omega) (by decide)) dX8_quarrel_105 ?_
                    refine lv_if_eq (tgt := 111) hx hb dX8_quarrel_106 (by decide) (fun h_15 => ?_) (fun h_15 => ?_)
                    · skip
                      refine lv_iinc (v := (nI (j20 + 1))) (lv' := [(3, .int (nI (j20 + 1))), (4, .int 1), (0, .ref h0), (1, .int a1), (2, .int a2)]) hx hb dX8_quarrel_111 hl (k := 1) rfl (show nI j20 + 1 = nI (j20 + 1) from nI_1 j20) (by decide) rfl (fun ls hl => ?_)
                      refine lv_goto (tgt := 20) hx hb dX8_quarrel_114 (by decide) ?_
                      exact ih20 (j20 + 1) ls (by omega) (lv_sub hl [0, 2, 3, 4] rfl)
                    · skip
                      refine lv_iload_n hx hb dX8_quarrel_109 rfl (lv_at hl 1 rfl) ?_
                      exact W.iret (v := (nI j20)) hx hb hr (fun t ht hW => ⟨_, rfl, ⟨(nI j20), rfl, trivial⟩, ht⟩) (fun q h => by cases h) dX8_quarrel_110
          · skip
            refine lv_aload_n hx hb dX8_quarrel_38 rfl (lv_at hl 1 rfl) ?_
            refine va_get (D := (dC, dI)) (ci := 7) (v := .ref (q 15)) (C := RX8) (T := TX8) (N := 37) hx hb hts hinX8 hown hK hP 0 rfl rfl 15 (by decide) (hts (.fieldLink RX8 43 "FurPostsModel" "to" "[I") (by decide +kernel)) (fun _ h9 => h9) rfl dX8_quarrel_39 ?_
            refine lv_iload_n hx hb dX8_quarrel_42 rfl (lv_at hl 0 rfl) ?_
            refine va_iald hx hb hK hP 12 0 rfl rfl (i := (nI j20)) (vp_in_nI (show j20 < 120 by omega) (by decide)) dX8_quarrel_43 ?_
            refine lv_iload_n hx hb dX8_quarrel_44 rfl (lv_at hl 3 rfl) ?_
            refine lv_icmp_eq (tgt := 68) hx hb dX8_quarrel_45 (by decide) (fun h_16 => ?_) (fun h_16 => ?_)
            · skip
              refine lv_iconst (v := 1) hx hb dX8_quarrel_68 (by decide) ?_
              refine lv_goto (tgt := 73) hx hb dX8_quarrel_69 (by decide) ?_
              refine lv_istore (lv' := [(4, .int 1), (3, .int (nI j20)), (0, .ref h0), (1, .int a1), (2, .int a2)]) hx hb dX8_quarrel_73 hl (by decide) rfl (fun ls hl => ?_)
              refine lv_iload hx hb dX8_quarrel_75 (lv_at hl 0 rfl) ?_
              refine lv_if_eq (tgt := 111) hx hb dX8_quarrel_77 (by decide) (fun h_17 => absurd h_17 (by decide)) (fun h_17 => ?_)
              refine lv_aload_n hx hb dX8_quarrel_80 rfl (lv_at hl 2 rfl) ?_
              refine va_get (D := (dC, dI)) (ci := 7) (v := .ref (q 18)) (C := RX8) (T := TX8) (N := 37) hx hb hts hinX8 hown hK hP 0 rfl rfl 18 (by decide) (hts (.fieldLink RX8 52 "FurPostsModel" "state" "[I") (by decide +kernel)) (fun _ h9 => h9) rfl dX8_quarrel_81 ?_
              refine lv_iload_n hx hb dX8_quarrel_84 rfl (lv_at hl 1 rfl) ?_
              refine va_iald hx hb hK hP 15 0 rfl rfl (i := (nI j20)) (vp_in_nI (show j20 < 120 by omega) (by decide)) dX8_quarrel_85 ?_
              refine lv_iconst (v := 2) hx hb dX8_quarrel_86 (by decide) ?_
              refine lv_icmp_eq (tgt := 109) hx hb dX8_quarrel_87 (by decide) (fun h_18 => ?_) (fun h_18 => ?_)
              · skip
                refine lv_iload_n hx hb dX8_quarrel_109 rfl (lv_at hl 1 rfl) ?_
                exact W.iret (v := (nI j20)) hx hb hr (fun t ht hW => ⟨_, rfl, ⟨(nI j20), rfl, trivial⟩, ht⟩) (fun q h => by cases h) dX8_quarrel_110
              · skip
                refine lv_aload_n hx hb dX8_quarrel_90 rfl (lv_at hl 2 rfl) ?_
                refine va_get (D := (dC, dI)) (ci := 7) (v := .ref (q 18)) (C := RX8) (T := TX8) (N := 37) hx hb hts hinX8 hown hK hP 0 rfl rfl 18 (by decide) (hts (.fieldLink RX8 52 "FurPostsModel" "state" "[I") (by decide +kernel)) (fun _ h9 => h9) rfl dX8_quarrel_91 ?_
                refine lv_iload_n hx hb dX8_quarrel_94 rfl (lv_at hl 1 rfl) ?_
                refine va_iald hx hb hK hP 15 0 rfl rfl (i := (nI j20)) (vp_in_nI (show j20 < 120 by omega) (by decide)) dX8_quarrel_95 ?_
                refine lv_iconst (v := 1) hx hb dX8_quarrel_96 (by decide) ?_
                refine lv_icmp_ne (tgt := 111) hx hb dX8_quarrel_97 (by decide) (fun h_19 => ?_) (fun h_19 => ?_)
                · skip
                  refine lv_iinc (v := (nI (j20 + 1))) (lv' := [(3, .int (nI (j20 + 1))), (4, .int 1), (0, .ref h0), (1, .int a1), (2, .int a2)]) hx hb dX8_quarrel_111 hl (k := 1) rfl (show nI j20 + 1 = nI (j20 + 1) from nI_1 j20) (by decide) rfl (fun ls hl => ?_)
                  refine lv_goto (tgt := 20) hx hb dX8_quarrel_114 (by decide) ?_
                  exact ih20 (j20 + 1) ls (by omega) (lv_sub hl [0, 2, 3, 4] rfl)
                · skip
                  refine lv_aload_n hx hb dX8_quarrel_100 rfl (lv_at hl 2 rfl) ?_
                  refine va_get (D := (dC, dI)) (ci := 7) (v := .ref (q 24)) (C := RX8) (T := TX8) (N := 37) hx hb hts hinX8 hown hK hP 0 rfl rfl 24 (by decide) (hts (.fieldLink RX8 70 "FurPostsModel" "isOther" "[Z") (by decide +kernel)) (fun _ h9 => h9) rfl dX8_quarrel_101 ?_
                  refine lv_iload_n hx hb dX8_quarrel_104 rfl (lv_at hl 1 rfl) ?_
                  refine va_zald hx hb hK hP 21 1 rfl rfl (i := (nI j20)) (vp_in_nI (show j20 < 120 by omega) (by decide)) dX8_quarrel_105 ?_
                  refine lv_if_eq (tgt := 111) hx hb dX8_quarrel_106 (by decide) (fun h_20 => ?_) (fun h_20 => ?_)
                  · skip
                    refine lv_iinc (v := (nI (j20 + 1))) (lv' := [(3, .int (nI (j20 + 1))), (4, .int 1), (0, .ref h0), (1, .int a1), (2, .int a2)]) hx hb dX8_quarrel_111 hl (k := 1) rfl (show nI j20 + 1 = nI (j20 + 1) from nI_1 j20) (by decide) rfl (fun ls hl => ?_)
                    refine lv_goto (tgt := 20) hx hb dX8_quarrel_114 (by decide) ?_
                    exact ih20 (j20 + 1) ls (by omega) (lv_sub hl [0, 2, 3, 4] rfl)
                  · skip
                    refine lv_iload_n hx hb dX8_quarrel_109 rfl (lv_at hl 1 rfl) ?_
                    exact W.iret (v := (nI j20)) hx hb hr (fun t ht hW => ⟨_, rfl, ⟨(nI j20), rfl, trivial⟩, ht⟩) (fun q h => by cases h) dX8_quarrel_110
            · skip
              refine lv_aload_n hx hb dX8_quarrel_48 rfl (lv_at hl 1 rfl) ?_
              refine va_get (D := (dC, dI)) (ci := 7) (v := .ref (q 14)) (C := RX8) (T := TX8) (N := 37) hx hb hts hinX8 hown hK hP 0 rfl rfl 14 (by decide) (hts (.fieldLink RX8 40 "FurPostsModel" "from" "[I") (by decide +kernel)) (fun _ h9 => h9) rfl dX8_quarrel_49 ?_
              refine lv_iload_n hx hb dX8_quarrel_52 rfl (lv_at hl 0 rfl) ?_
              refine va_iald hx hb hK hP 11 0 rfl rfl (i := (nI j20)) (vp_in_nI (show j20 < 120 by omega) (by decide)) dX8_quarrel_53 ?_
              refine lv_iload_n hx hb dX8_quarrel_54 rfl (lv_at hl 3 rfl) ?_
              refine lv_icmp_ne (tgt := 72) hx hb dX8_quarrel_55 (by decide) (fun h_21 => ?_) (fun h_21 => ?_)
              · skip
                refine lv_iconst (v := 0) hx hb dX8_quarrel_72 (by decide) ?_
                refine lv_istore (lv' := [(4, .int 0), (3, .int (nI j20)), (0, .ref h0), (1, .int a1), (2, .int a2)]) hx hb dX8_quarrel_73 hl (by decide) rfl (fun ls hl => ?_)
                refine lv_iload hx hb dX8_quarrel_75 (lv_at hl 0 rfl) ?_
                refine lv_if_eq (tgt := 111) hx hb dX8_quarrel_77 (by decide) (fun h_22 => ?_) (fun h_22 => absurd (by decide) h_22)
                refine lv_iinc (v := (nI (j20 + 1))) (lv' := [(3, .int (nI (j20 + 1))), (4, .int 0), (0, .ref h0), (1, .int a1), (2, .int a2)]) hx hb dX8_quarrel_111 hl (k := 1) rfl (show nI j20 + 1 = nI (j20 + 1) from nI_1 j20) (by decide) rfl (fun ls hl => ?_)
                refine lv_goto (tgt := 20) hx hb dX8_quarrel_114 (by decide) ?_
                exact ih20 (j20 + 1) ls (by omega) (lv_sub hl [0, 2, 3, 4] rfl)
              · skip
                refine lv_aload_n hx hb dX8_quarrel_58 rfl (lv_at hl 1 rfl) ?_
                refine va_get (D := (dC, dI)) (ci := 7) (v := .ref (q 15)) (C := RX8) (T := TX8) (N := 37) hx hb hts hinX8 hown hK hP 0 rfl rfl 15 (by decide) (hts (.fieldLink RX8 43 "FurPostsModel" "to" "[I") (by decide +kernel)) (fun _ h9 => h9) rfl dX8_quarrel_59 ?_
                refine lv_iload_n hx hb dX8_quarrel_62 rfl (lv_at hl 0 rfl) ?_
                refine va_iald hx hb hK hP 12 0 rfl rfl (i := (nI j20)) (vp_in_nI (show j20 < 120 by omega) (by decide)) dX8_quarrel_63 ?_
                refine lv_iload_n hx hb dX8_quarrel_64 rfl (lv_at hl 2 rfl) ?_
                refine lv_icmp_ne (tgt := 72) hx hb dX8_quarrel_65 (by decide) (fun h_23 => ?_) (fun h_23 => ?_)
                · skip
                  refine lv_iconst (v := 0) hx hb dX8_quarrel_72 (by decide) ?_
                  refine lv_istore (lv' := [(4, .int 0), (3, .int (nI j20)), (0, .ref h0), (1, .int a1), (2, .int a2)]) hx hb dX8_quarrel_73 hl (by decide) rfl (fun ls hl => ?_)
                  refine lv_iload hx hb dX8_quarrel_75 (lv_at hl 0 rfl) ?_
                  refine lv_if_eq (tgt := 111) hx hb dX8_quarrel_77 (by decide) (fun h_24 => ?_) (fun h_24 => absurd (by decide) h_24)
                  refine lv_iinc (v := (nI (j20 + 1))) (lv' := [(3, .int (nI (j20 + 1))), (4, .int 0), (0, .ref h0), (1, .int a1), (2, .int a2)]) hx hb dX8_quarrel_111 hl (k := 1) rfl (show nI j20 + 1 = nI (j20 + 1) from nI_1 j20) (by decide) rfl (fun ls hl => ?_)
                  refine lv_goto (tgt := 20) hx hb dX8_quarrel_114 (by decide) ?_
                  exact ih20 (j20 + 1) ls (by omega) (lv_sub hl [0, 2, 3, 4] rfl)
                · skip
                  refine lv_iconst (v := 1) hx hb dX8_quarrel_68 (by decide) ?_
                  refine lv_goto (tgt := 73) hx hb dX8_quarrel_69 (by decide) ?_
                  refine lv_istore (lv' := [(4, .int 1), (3, .int (nI j20)), (0, .ref h0), (1, .int a1), (2, .int a2)]) hx hb dX8_quarrel_73 hl (by decide) rfl (fun ls hl => ?_)
                  refine lv_iload hx hb dX8_quarrel_75 (lv_at hl 0 rfl) ?_
                  refine lv_if_eq (tgt := 111) hx hb dX8_quarrel_77 (by decide) (fun h_25 => absurd h_25 (by decide)) (fun h_25 => ?_)
                  refine lv_aload_n hx hb dX8_quarrel_80 rfl (lv_at hl 2 rfl) ?_
                  refine va_get (D := (dC, dI)) (ci := 7) (v := .ref (q 18)) (C := RX8) (T := TX8) (N := 37) hx hb hts hinX8 hown hK hP 0 rfl rfl 18 (by decide) (hts (.fieldLink RX8 52 "FurPostsModel" "state" "[I") (by decide +kernel)) (fun _ h9 => h9) rfl dX8_quarrel_81 ?_
                  refine lv_iload_n hx hb dX8_quarrel_84 rfl (lv_at hl 1 rfl) ?_
                  refine va_iald hx hb hK hP 15 0 rfl rfl (i := (nI j20)) (vp_in_nI (show j20 < 120 by omega) (by decide)) dX8_quarrel_85 ?_
                  refine lv_iconst (v := 2) hx hb dX8_quarrel_86 (by decide) ?_
                  refine lv_icmp_eq (tgt := 109) hx hb dX8_quarrel_87 (by decide) (fun h_26 => ?_) (fun h_26 => ?_)
                  · skip
                    refine lv_iload_n hx hb dX8_quarrel_109 rfl (lv_at hl 1 rfl) ?_
                    exact W.iret (v := (nI j20)) hx hb hr (fun t ht hW => ⟨_, rfl, ⟨(nI j20), rfl, trivial⟩, ht⟩) (fun q h => by cases h) dX8_quarrel_110
                  · skip
                    refine lv_aload_n hx hb dX8_quarrel_90 rfl (lv_at hl 2 rfl) ?_
                    refine va_get (D := (dC, dI)) (ci := 7) (v := .ref (q 18)) (C := RX8) (T := TX8) (N := 37) hx hb hts hinX8 hown hK hP 0 rfl rfl 18 (by decide) (hts (.fieldLink RX8 52 "FurPostsModel" "state" "[I") (by decide +kernel)) (fun _ h9 => h9) rfl dX8_quarrel_91 ?_
                    refine lv_iload_n hx hb dX8_quarrel_94 rfl (lv_at hl 1 rfl) ?_
                    refine va_iald hx hb hK hP 15 0 rfl rfl (i := (nI j20)) (vp_in_nI (show j20 < 120 by omega) (by decide)) dX8_quarrel_95 ?_
                    refine lv_iconst (v := 1) hx hb dX8_quarrel_96 (by decide) ?_
                    refine lv_icmp_ne (tgt := 111) hx hb dX8_quarrel_97 (by decide) (fun h_27 => ?_) (fun h_27 => ?_)
                    · skip
                      refine lv_iinc (v := (nI (j20 + 1))) (lv' := [(3, .int (nI (j20 + 1))), (4, .int 1), (0, .ref h0), (1, .int a1), (2, .int a2)]) hx hb dX8_quarrel_111 hl (k := 1) rfl (show nI j20 + 1 = nI (j20 + 1) from nI_1 j20) (by decide) rfl (fun ls hl => ?_)
                      refine lv_goto (tgt := 20) hx hb dX8_quarrel_114 (by decide) ?_
                      exact ih20 (j20 + 1) ls (by omega) (lv_sub hl [0, 2, 3, 4] rfl)
                    · skip
                      refine lv_aload_n hx hb dX8_quarrel_100 rfl (lv_at hl 2 rfl) ?_
                      refine va_get (D := (dC, dI)) (ci := 7) (v := .ref (q 24)) (C := RX8) (T := TX8) (N := 37) hx hb hts hinX8 hown hK hP 0 rfl rfl 24 (by decide) (hts (.fieldLink RX8 70 "FurPostsModel" "isOther" "[Z") (by decide +kernel)) (fun _ h9 => h9) rfl dX8_quarrel_101 ?_
                      refine lv_iload_n hx hb dX8_quarrel_104 rfl (lv_at hl 1 rfl) ?_
                      refine va_zald hx hb hK hP 21 1 rfl rfl (i := (nI j20)) (vp_in_nI (show j20 < 120 by omega) (by decide)) dX8_quarrel_105 ?_
                      refine lv_if_eq (tgt := 111) hx hb dX8_quarrel_106 (by decide) (fun h_28 => ?_) (fun h_28 => ?_)
                      · skip
                        refine lv_iinc (v := (nI (j20 + 1))) (lv' := [(3, .int (nI (j20 + 1))), (4, .int 1), (0, .ref h0), (1, .int a1), (2, .int a2)]) hx hb dX8_quarrel_111 hl (k := 1) rfl (show nI j20 + 1 = nI (j20 + 1) from nI_1 j20) (by decide) rfl (fun ls hl => ?_)
                        refine lv_goto (tgt := 20) hx hb dX8_quarrel_114 (by decide) ?_
                        exact ih20 (j20 + 1) ls (by omega) (lv_sub hl [0, 2, 3, 4] rfl)
                      · skip
                        refine lv_iload_n hx hb dX8_quarrel_109 rfl (lv_at hl 1 rfl) ?_
                        exact W.iret (v := (nI j20)) hx hb hr (fun t ht hW => ⟨_, rfl, ⟨(nI j20), rfl, trivial⟩, ht⟩) (fun q h => by cases h) dX8_quarrel_110
      exact key20 (n 3) 0 ls (by omega) (lv_sub hl [0, 1, 2, 3] rfl)
    · skip
      refine lv_iconst (v := (-1)) hx hb dX8_quarrel_16 (by decide) ?_
      exact W.iret (v := (-1)) hx hb hr (fun t ht hW => ⟨_, rfl, ⟨(-1), rfl, trivial⟩, ht⟩) (fun q h => by cases h) dX8_quarrel_17

set_option maxHeartbeats 4000000 in
set_option maxRecDepth 100000 in
theorem k_X8_canoe (l : Launch) (dC : Nat → ClassId) (dI : Nat → Nat → Nat) (h0 : Nat) (q n : Nat → Nat) (dl : Int32) (cI cZ : ClassId) (F : Nat → Nat → Int32) (hI : mi_ n F) (hN : nb_ n) (a1 : Int32) (a2 : Int32) : Met l yX8_canoe wsX8_canoe ({ frames := 2, cells := 0, slots := 0, locals := 43 }) (va_Pc [.ref h0, .int a1, .int a2] (pu_P (dC, dI) vwCl (mt_ cI cZ) (mw_ h0 q n dl cI cZ F))) (pg_Q (gi_ (fun r => True))) 0 0 pu_F := by
  refine Met.ofW (cc := cX8_canoe) (maxL := 3) (ret := (some .int)) (by decide) rfl ?_
  intro p e s m args below meth c s₁ B hml hv
  obtain ⟨rfl, hP, hK⟩ := hv
  have hx := B.exec
  have hb := B.bytes
  have hr := B.returns
  have hts := atoms_spec (ws := wsX8_canoe) B.pre
  have hown : s.vm.findClass RX8 = some m.cls := findClass_of_methodNamed B.named
  have hlocks := B.notSynchronized
  have hinX8 : ∀ w ∈ u_ws RX8 TX8 37, w ∈ wsX8_canoe := by decide +kernel
  have hl := lv_entry ([.ref h0, .int a1, .int a2]) (n := 3) (Nat.le_of_ble_eq_true rfl)
  rw [lg_entry_eq]
  generalize (lg_sl ([.ref h0, .int a1, .int a2]) ++ List.replicate (3 - (lg_sl ([.ref h0, .int a1, .int a2])).length) Slot.unset).toArray = ls at hl ⊢
  have hl : lv_has ls 3 [(0, .ref h0), (1, .int a1), (2, .int a2)] := hl
  refine lv_aload_n hx hb dX8_canoe_0 rfl (lv_at hl 0 rfl) ?_
  refine lv_iload_n hx hb dX8_canoe_1 rfl (lv_at hl 1 rfl) ?_
  refine pg_call (va_runV (As := [.int a1]) (rest := []) ⟨hx, hb, hml, hown, hts⟩ (k_X8_isCanoe l dC dI h0 q n dl cI cZ F hI hN a1) (cwV 1 hts gX8_canoe_X8_isCanoe rfl rfl rfl (by decide +kernel) ⟨Nat.le_of_ble_eq_true rfl, Nat.le_of_ble_eq_true rfl⟩) (pu_pre hP hK (ci := 7) (q0 := 0) rfl rfl) rfl rfl hl.1 rfl (lv_room (Nat.le_of_ble_eq_true rfl)) dX8_canoe_2 ⟨Nat.le_of_ble_eq_true rfl, Nat.le_of_ble_eq_true rfl⟩) (fun w1 hw1 => ?_)
  obtain ⟨r1, rfl, hg1⟩ := hw1
  refine lv_if_ne (tgt := 10) hx hb dX8_canoe_5 (by decide) (fun h_2 => ?_) (fun h_2 => ?_)
  · skip
    refine lv_iload_n hx hb dX8_canoe_10 rfl (lv_at hl 2 rfl) ?_
    refine lv_bipush (v := 10) hx hb dX8_canoe_11 (by decide) ?_
    refine lv_bipush (v := 15) hx hb dX8_canoe_13 (by decide) ?_
    refine pu_call (va_runS (As := [.int a2, .int 10, .int 15]) (rest := []) ⟨hx, hb, hml, hown, hts⟩ (c_X8_in l a2 10 15) (va_cwS 3 hts gX8_canoe_X8_in rfl rfl rfl (by decide +kernel) ⟨Nat.le_of_ble_eq_true rfl, Nat.le_of_ble_eq_true rfl⟩) pu_preS rfl rfl hl.1 rfl (lv_room (Nat.le_of_ble_eq_true rfl)) dX8_canoe_15 ⟨Nat.le_of_ble_eq_true rfl, Nat.le_of_ble_eq_true rfl⟩) ?_
    refine lv_if_eq (tgt := 36) hx hb dX8_canoe_18 (by decide) (fun h_3 => ?_) (fun h_3 => ?_)
    · skip
      refine lv_iload_n hx hb dX8_canoe_36 rfl (lv_at hl 2 rfl) ?_
      refine lv_bipush (v := 20) hx hb dX8_canoe_37 (by decide) ?_
      refine lv_bipush (v := 25) hx hb dX8_canoe_39 (by decide) ?_
      refine pu_call (va_runS (As := [.int a2, .int 20, .int 25]) (rest := []) ⟨hx, hb, hml, hown, hts⟩ (c_X8_in l a2 20 25) (va_cwS 3 hts gX8_canoe_X8_in rfl rfl rfl (by decide +kernel) ⟨Nat.le_of_ble_eq_true rfl, Nat.le_of_ble_eq_true rfl⟩) pu_preS rfl rfl hl.1 rfl (lv_room (Nat.le_of_ble_eq_true rfl)) dX8_canoe_41 ⟨Nat.le_of_ble_eq_true rfl, Nat.le_of_ble_eq_true rfl⟩) ?_
      refine lv_if_eq (tgt := 62) hx hb dX8_canoe_44 (by decide) (fun h_4 => ?_) (fun h_4 => ?_)
      · skip
        refine lv_iload_n hx hb dX8_canoe_62 rfl (lv_at hl 2 rfl) ?_
        rcases (Decidable.em (a2 = 0)) with e_5 | e_5
        · refine lv_tableIn (off := 45) (tgt := 108) hx hb dX8_canoe_63 (by rw [e_5]; decide) (by rw [e_5]; decide) (by rw [e_5]; rfl) (by decide) ?_
          refine lv_aload_n hx hb dX8_canoe_108 rfl (lv_at hl 0 rfl) ?_
          refine va_get (D := (dC, dI)) (ci := 7) (v := .ref (q 14)) (C := RX8) (T := TX8) (N := 37) hx hb hts hinX8 hown hK hP 0 rfl rfl 14 (by decide) (hts (.fieldLink RX8 40 "FurPostsModel" "from" "[I") (by decide +kernel)) (fun _ h9 => h9) rfl dX8_canoe_109 ?_
          refine lv_iload_n hx hb dX8_canoe_112 rfl (lv_at hl 1 rfl) ?_
          refine va_iald hx hb hK hP 11 0 rfl rfl (i := a1) ((hg1 h_2)) dX8_canoe_113 ?_
          exact W.iret (v := (F 14 (Int32.toNatClampNeg a1))) hx hb hr (fun t ht hW => ⟨_, rfl, ⟨(F 14 (Int32.toNatClampNeg a1)), rfl, trivial⟩, ht⟩) (fun q h => by cases h) dX8_canoe_114
        rcases (Decidable.em (a2 = 1)) with e_6 | e_6
        · refine lv_tableIn (off := 52) (tgt := 115) hx hb dX8_canoe_63 (by rw [e_6]; decide) (by rw [e_6]; decide) (by rw [e_6]; rfl) (by decide) ?_
          refine lv_aload_n hx hb dX8_canoe_115 rfl (lv_at hl 0 rfl) ?_
          refine va_get (D := (dC, dI)) (ci := 7) (v := .ref (q 15)) (C := RX8) (T := TX8) (N := 37) hx hb hts hinX8 hown hK hP 0 rfl rfl 15 (by decide) (hts (.fieldLink RX8 43 "FurPostsModel" "to" "[I") (by decide +kernel)) (fun _ h9 => h9) rfl dX8_canoe_116 ?_
          refine lv_iload_n hx hb dX8_canoe_119 rfl (lv_at hl 1 rfl) ?_
          refine va_iald hx hb hK hP 12 0 rfl rfl (i := a1) ((hg1 h_2)) dX8_canoe_120 ?_
          exact W.iret (v := (F 15 (Int32.toNatClampNeg a1))) hx hb hr (fun t ht hW => ⟨_, rfl, ⟨(F 15 (Int32.toNatClampNeg a1)), rfl, trivial⟩, ht⟩) (fun q h => by cases h) dX8_canoe_121
        rcases (Decidable.em (a2 = 2)) with e_7 | e_7
        · refine lv_tableIn (off := 59) (tgt := 122) hx hb dX8_canoe_63 (by rw [e_7]; decide) (by rw [e_7]; decide) (by rw [e_7]; rfl) (by decide) ?_
          refine lv_aload_n hx hb dX8_canoe_122 rfl (lv_at hl 0 rfl) ?_
          refine va_get (D := (dC, dI)) (ci := 7) (v := .ref (q 16)) (C := RX8) (T := TX8) (N := 37) hx hb hts hinX8 hown hK hP 0 rfl rfl 16 (by decide) (hts (.fieldLink RX8 46 "FurPostsModel" "wayOf" "[I") (by decide +kernel)) (fun _ h9 => h9) rfl dX8_canoe_123 ?_
          refine lv_iload_n hx hb dX8_canoe_126 rfl (lv_at hl 1 rfl) ?_
          refine va_iald hx hb hK hP 13 0 rfl rfl (i := a1) ((hg1 h_2)) dX8_canoe_127 ?_
          exact W.iret (v := (F 16 (Int32.toNatClampNeg a1))) hx hb hr (fun t ht hW => ⟨_, rfl, ⟨(F 16 (Int32.toNatClampNeg a1)), rfl, trivial⟩, ht⟩) (fun q h => by cases h) dX8_canoe_128
        rcases (Decidable.em (a2 = 3)) with e_8 | e_8
        · refine lv_tableIn (off := 66) (tgt := 129) hx hb dX8_canoe_63 (by rw [e_8]; decide) (by rw [e_8]; decide) (by rw [e_8]; rfl) (by decide) ?_
          refine lv_aload_n hx hb dX8_canoe_129 rfl (lv_at hl 0 rfl) ?_
          refine va_get (D := (dC, dI)) (ci := 7) (v := .ref (q 18)) (C := RX8) (T := TX8) (N := 37) hx hb hts hinX8 hown hK hP 0 rfl rfl 18 (by decide) (hts (.fieldLink RX8 52 "FurPostsModel" "state" "[I") (by decide +kernel)) (fun _ h9 => h9) rfl dX8_canoe_130 ?_
          refine lv_iload_n hx hb dX8_canoe_133 rfl (lv_at hl 1 rfl) ?_
          refine va_iald hx hb hK hP 15 0 rfl rfl (i := a1) ((hg1 h_2)) dX8_canoe_134 ?_
          refine lv_if_ne (tgt := 147) hx hb dX8_canoe_135 (by decide) (fun h_9 => ?_) (fun h_9 => ?_)
          · skip
            refine lv_iconst (v := 0) hx hb dX8_canoe_147 (by decide) ?_
            exact W.iret (v := 0) hx hb hr (fun t ht hW => ⟨_, rfl, ⟨0, rfl, trivial⟩, ht⟩) (fun q h => by cases h) dX8_canoe_148
          · skip
            refine lv_aload_n hx hb dX8_canoe_138 rfl (lv_at hl 0 rfl) ?_
            refine va_get (D := (dC, dI)) (ci := 7) (v := .ref (q 17)) (C := RX8) (T := TX8) (N := 37) hx hb hts hinX8 hown hK hP 0 rfl rfl 17 (by decide) (hts (.fieldLink RX8 49 "FurPostsModel" "toGo" "[I") (by decide +kernel)) (fun _ h9 => h9) rfl dX8_canoe_139 ?_
            refine lv_iload_n hx hb dX8_canoe_142 rfl (lv_at hl 1 rfl) ?_
            refine va_iald hx hb hK hP 14 0 rfl rfl (i := a1) ((hg1 h_2)) dX8_canoe_143 ?_
            refine lv_goto (tgt := 148) hx hb dX8_canoe_144 (by decide) ?_
            exact W.iret (v := (F 17 (Int32.toNatClampNeg a1))) hx hb hr (fun t ht hW => ⟨_, rfl, ⟨(F 17 (Int32.toNatClampNeg a1)), rfl, trivial⟩, ht⟩) (fun q h => by cases h) dX8_canoe_148
        rcases (Decidable.em (a2 = 4)) with e_10 | e_10
        · refine lv_tableIn (off := 86) (tgt := 149) hx hb dX8_canoe_63 (by rw [e_10]; decide) (by rw [e_10]; decide) (by rw [e_10]; rfl) (by decide) ?_
          refine lv_aload_n hx hb dX8_canoe_149 rfl (lv_at hl 0 rfl) ?_
          refine va_get (D := (dC, dI)) (ci := 7) (v := .ref (q 18)) (C := RX8) (T := TX8) (N := 37) hx hb hts hinX8 hown hK hP 0 rfl rfl 18 (by decide) (hts (.fieldLink RX8 52 "FurPostsModel" "state" "[I") (by decide +kernel)) (fun _ h9 => h9) rfl dX8_canoe_150 ?_
          refine lv_iload_n hx hb dX8_canoe_153 rfl (lv_at hl 1 rfl) ?_
          refine va_iald hx hb hK hP 15 0 rfl rfl (i := a1) ((hg1 h_2)) dX8_canoe_154 ?_
          exact W.iret (v := (F 18 (Int32.toNatClampNeg a1))) hx hb hr (fun t ht hW => ⟨_, rfl, ⟨(F 18 (Int32.toNatClampNeg a1)), rfl, trivial⟩, ht⟩) (fun q h => by cases h) dX8_canoe_155
        rcases (Decidable.em (a2 = 5)) with e_11 | e_11
        · refine lv_tableIn (off := 93) (tgt := 156) hx hb dX8_canoe_63 (by rw [e_11]; decide) (by rw [e_11]; decide) (by rw [e_11]; rfl) (by decide) ?_
          refine lv_aload_n hx hb dX8_canoe_156 rfl (lv_at hl 0 rfl) ?_
          refine va_get (D := (dC, dI)) (ci := 7) (v := .ref (q 19)) (C := RX8) (T := TX8) (N := 37) hx hb hts hinX8 hown hK hP 0 rfl rfl 19 (by decide) (hts (.fieldLink RX8 55 "FurPostsModel" "sentOn" "[I") (by decide +kernel)) (fun _ h9 => h9) rfl dX8_canoe_157 ?_
          refine lv_iload_n hx hb dX8_canoe_160 rfl (lv_at hl 1 rfl) ?_
          refine va_iald hx hb hK hP 16 0 rfl rfl (i := a1) ((hg1 h_2)) dX8_canoe_161 ?_
          exact W.iret (v := (F 19 (Int32.toNatClampNeg a1))) hx hb hr (fun t ht hW => ⟨_, rfl, ⟨(F 19 (Int32.toNatClampNeg a1)), rfl, trivial⟩, ht⟩) (fun q h => by cases h) dX8_canoe_162
        rcases (Decidable.em (a2 = 6)) with e_12 | e_12
        · refine lv_tableIn (off := 100) (tgt := 163) hx hb dX8_canoe_63 (by rw [e_12]; decide) (by rw [e_12]; decide) (by rw [e_12]; rfl) (by decide) ?_
          refine lv_aload_n hx hb dX8_canoe_163 rfl (lv_at hl 0 rfl) ?_
          refine va_get (D := (dC, dI)) (ci := 7) (v := .ref (q 20)) (C := RX8) (T := TX8) (N := 37) hx hb hts hinX8 hown hK hP 0 rfl rfl 20 (by decide) (hts (.fieldLink RX8 58 "FurPostsModel" "cameOn" "[I") (by decide +kernel)) (fun _ h9 => h9) rfl dX8_canoe_164 ?_
          refine lv_iload_n hx hb dX8_canoe_167 rfl (lv_at hl 1 rfl) ?_
          refine va_iald hx hb hK hP 17 0 rfl rfl (i := a1) ((hg1 h_2)) dX8_canoe_168 ?_
          exact W.iret (v := (F 20 (Int32.toNatClampNeg a1))) hx hb hr (fun t ht hW => ⟨_, rfl, ⟨(F 20 (Int32.toNatClampNeg a1)), rfl, trivial⟩, ht⟩) (fun q h => by cases h) dX8_canoe_169
        rcases (Decidable.em (a2 = 7)) with e_13 | e_13
        · refine lv_tableIn (off := 107) (tgt := 170) hx hb dX8_canoe_63 (by rw [e_13]; decide) (by rw [e_13]; decide) (by rw [e_13]; rfl) (by decide) ?_
          refine lv_aload_n hx hb dX8_canoe_170 rfl (lv_at hl 0 rfl) ?_
          refine va_get (D := (dC, dI)) (ci := 7) (v := .ref (q 21)) (C := RX8) (T := TX8) (N := 37) hx hb hts hinX8 hown hK hP 0 rfl rfl 21 (by decide) (hts (.fieldLink RX8 61 "FurPostsModel" "withLetters" "[I") (by decide +kernel)) (fun _ h9 => h9) rfl dX8_canoe_171 ?_
          refine lv_iload_n hx hb dX8_canoe_174 rfl (lv_at hl 1 rfl) ?_
          refine va_iald hx hb hK hP 18 0 rfl rfl (i := a1) ((hg1 h_2)) dX8_canoe_175 ?_
          exact W.iret (v := (F 21 (Int32.toNatClampNeg a1))) hx hb hr (fun t ht hW => ⟨_, rfl, ⟨(F 21 (Int32.toNatClampNeg a1)), rfl, trivial⟩, ht⟩) (fun q h => by cases h) dX8_canoe_176
        refine lv_tableOut (tgt := 177) hx hb dX8_canoe_63 (by have j_0 := sw_n (n := 0) (k := 0) e_5 (by decide); have j_1 := sw_n (n := 1) (k := 1) e_6 (by decide); have j_2 := sw_n (n := 2) (k := 2) e_7 (by decide); have j_3 := sw_n (n := 3) (k := 3) e_8 (by decide); have j_4 := sw_n (n := 4) (k := 4) e_10 (by decide); have j_5 := sw_n (n := 5) (k := 5) e_11 (by decide); have j_6 := sw_n (n := 6) (k := 6) e_12 (by decide); have j_7 := sw_n (n := 7) (k := 7) e_13 (by decide); omega) (by decide) ?_
        refine lv_iconst (v := (-1)) hx hb dX8_canoe_177 (by decide) ?_
        exact W.iret (v := (-1)) hx hb hr (fun t ht hW => ⟨_, rfl, ⟨(-1), rfl, trivial⟩, ht⟩) (fun q h => by cases h) dX8_canoe_178
      · skip
        refine lv_aload_n hx hb dX8_canoe_47 rfl (lv_at hl 0 rfl) ?_
        refine va_get (D := (dC, dI)) (ci := 7) (v := .ref (q 23)) (C := RX8) (T := TX8) (N := 37) hx hb hts hinX8 hown hK hP 0 rfl rfl 23 (by decide) (hts (.fieldLink RX8 67 "FurPostsModel" "sent" "[I") (by decide +kernel)) (fun _ h9 => h9) rfl dX8_canoe_48 ?_
        refine lv_bipush (v := 6) hx hb dX8_canoe_51 (by decide) ?_
        refine lv_iload_n hx hb dX8_canoe_53 rfl (lv_at hl 1 rfl) ?_
        refine lv_imul hx hb dX8_canoe_54 ?_
        refine lv_iload_n hx hb dX8_canoe_55 rfl (lv_at hl 2 rfl) ?_
        refine lv_iadd hx hb dX8_canoe_56 ?_
        refine lv_bipush (v := 20) hx hb dX8_canoe_57 (by decide) ?_
        refine lv_isub hx hb dX8_canoe_59 ?_
        refine va_iald hx hb hK hP 20 0 rfl rfl (i := (((6 * a1) + a2) - 20)) (cn_in ((hg1 h_2)) (k := 20) h_4 rfl rfl (by decide)) dX8_canoe_60 ?_
        exact W.iret (v := (F 23 (Int32.toNatClampNeg (((6 * a1) + a2) - 20)))) hx hb hr (fun t ht hW => ⟨_, rfl, ⟨(F 23 (Int32.toNatClampNeg (((6 * a1) + a2) - 20))), rfl, trivial⟩, ht⟩) (fun q h => by cases h) dX8_canoe_61
    · skip
      refine lv_aload_n hx hb dX8_canoe_21 rfl (lv_at hl 0 rfl) ?_
      refine va_get (D := (dC, dI)) (ci := 7) (v := .ref (q 22)) (C := RX8) (T := TX8) (N := 37) hx hb hts hinX8 hown hK hP 0 rfl rfl 22 (by decide) (hts (.fieldLink RX8 64 "FurPostsModel" "has" "[I") (by decide +kernel)) (fun _ h9 => h9) rfl dX8_canoe_22 ?_
      refine lv_bipush (v := 6) hx hb dX8_canoe_25 (by decide) ?_
      refine lv_iload_n hx hb dX8_canoe_27 rfl (lv_at hl 1 rfl) ?_
      refine lv_imul hx hb dX8_canoe_28 ?_
      refine lv_iload_n hx hb dX8_canoe_29 rfl (lv_at hl 2 rfl) ?_
      refine lv_iadd hx hb dX8_canoe_30 ?_
      refine lv_bipush (v := 10) hx hb dX8_canoe_31 (by decide) ?_
      refine lv_isub hx hb dX8_canoe_33 ?_
      refine va_iald hx hb hK hP 19 0 rfl rfl (i := (((6 * a1) + a2) - 10)) (cn_in ((hg1 h_2)) (k := 10) h_3 rfl rfl (by decide)) dX8_canoe_34 ?_
      exact W.iret (v := (F 22 (Int32.toNatClampNeg (((6 * a1) + a2) - 10)))) hx hb hr (fun t ht hW => ⟨_, rfl, ⟨(F 22 (Int32.toNatClampNeg (((6 * a1) + a2) - 10))), rfl, trivial⟩, ht⟩) (fun q h => by cases h) dX8_canoe_35
  · skip
    refine lv_iconst (v := (-1)) hx hb dX8_canoe_8 (by decide) ?_
    exact W.iret (v := (-1)) hx hb hr (fun t ht hW => ⟨_, rfl, ⟨(-1), rfl, trivial⟩, ht⟩) (fun q h => by cases h) dX8_canoe_9

set_option maxHeartbeats 4000000 in
set_option maxRecDepth 100000 in
theorem k_X8_told (l : Launch) (dC : Nat → ClassId) (dI : Nat → Nat → Nat) (h0 : Nat) (q n : Nat → Nat) (dl : Int32) (cI cZ : ClassId) (F : Nat → Nat → Int32) (hI : mi_ n F) (hN : nb_ n) (a1 : Int32) (a2 : Int32) : Met l yX8_told wsX8_told ({ frames := 3, cells := 0, slots := 0, locals := 65 }) (va_Pc [.ref h0, .int a1, .int a2] (pu_P (dC, dI) vwCl (mt_ cI cZ) (mw_ h0 q n dl cI cZ F))) (pg_Q (gi_ (fun r => True))) 0 0 pu_F := by
  refine Met.ofW (cc := cX8_told) (maxL := 5) (ret := (some .int)) (by decide) rfl ?_
  intro p e s m args below meth c s₁ B hml hv
  obtain ⟨rfl, hP, hK⟩ := hv
  have hx := B.exec
  have hb := B.bytes
  have hr := B.returns
  have hts := atoms_spec (ws := wsX8_told) B.pre
  have hown : s.vm.findClass RX8 = some m.cls := findClass_of_methodNamed B.named
  have hlocks := B.notSynchronized
  have hinX8 : ∀ w ∈ u_ws RX8 TX8 37, w ∈ wsX8_told := by decide +kernel
  have hl := lv_entry ([.ref h0, .int a1, .int a2]) (n := 5) (Nat.le_of_ble_eq_true rfl)
  rw [lg_entry_eq]
  generalize (lg_sl ([.ref h0, .int a1, .int a2]) ++ List.replicate (5 - (lg_sl ([.ref h0, .int a1, .int a2])).length) Slot.unset).toArray = ls at hl ⊢
  have hl : lv_has ls 5 [(0, .ref h0), (1, .int a1), (2, .int a2)] := hl
  refine lv_aload_n hx hb dX8_told_0 rfl (lv_at hl 0 rfl) ?_
  refine lv_iload_n hx hb dX8_told_1 rfl (lv_at hl 1 rfl) ?_
  refine pg_call (va_runV (As := [.int a1]) (rest := []) ⟨hx, hb, hml, hown, hts⟩ (k_X8_isPost l dC dI h0 q n dl cI cZ F hI hN a1) (cwV 1 hts gX8_told_X8_isPost rfl rfl rfl (by decide +kernel) ⟨Nat.le_of_ble_eq_true rfl, Nat.le_of_ble_eq_true rfl⟩) (pu_pre hP hK (ci := 7) (q0 := 0) rfl rfl) rfl rfl hl.1 rfl (lv_room (Nat.le_of_ble_eq_true rfl)) dX8_told_2 ⟨Nat.le_of_ble_eq_true rfl, Nat.le_of_ble_eq_true rfl⟩) (fun w1 hw1 => ?_)
  obtain ⟨r1, rfl, hg1⟩ := hw1
  refine lv_if_ne (tgt := 10) hx hb dX8_told_5 (by decide) (fun h_2 => ?_) (fun h_2 => ?_)
  · skip
    refine lv_iload_n hx hb dX8_told_10 rfl (lv_at hl 2 rfl) ?_
    refine lv_iconst (v := 0) hx hb dX8_told_11 (by decide) ?_
    refine lv_iconst (v := 5) hx hb dX8_told_12 (by decide) ?_
    refine pu_call (va_runS (As := [.int a2, .int 0, .int 5]) (rest := []) ⟨hx, hb, hml, hown, hts⟩ (c_X8_in l a2 0 5) (va_cwS 3 hts gX8_told_X8_in rfl rfl rfl (by decide +kernel) ⟨Nat.le_of_ble_eq_true rfl, Nat.le_of_ble_eq_true rfl⟩) pu_preS rfl rfl hl.1 rfl (lv_room (Nat.le_of_ble_eq_true rfl)) dX8_told_13 ⟨Nat.le_of_ble_eq_true rfl, Nat.le_of_ble_eq_true rfl⟩) ?_
    refine lv_if_eq (tgt := 26) hx hb dX8_told_16 (by decide) (fun h_3 => ?_) (fun h_3 => ?_)
    · skip
      refine lv_iconst (v := 0) hx hb dX8_told_26 (by decide) ?_
      refine lv_istore_n (lv' := [(3, .int 0), (0, .ref h0), (1, .int a1), (2, .int a2)]) hx hb dX8_told_27 rfl hl (by decide) rfl (fun ls hl => ?_)
      refine lv_iload_n hx hb dX8_told_28 rfl (lv_at hl 3 rfl) ?_
      refine lv_bipush (v := 6) hx hb dX8_told_29 (by decide) ?_
      refine lv_icmp_ne (tgt := 73) hx hb dX8_told_31 (by decide) (fun h_4 => ?_) (fun h_4 => ?_)
      · skip
        refine lv_iconst (v := 0) hx hb dX8_told_73 (by decide) ?_
        refine lv_istore (lv' := [(4, .int 0), (3, .int 0), (0, .ref h0), (1, .int a1), (2, .int a2)]) hx hb dX8_told_74 hl (by decide) rfl (fun ls hl => ?_)
        have key76 : ∀ (k j76 : Nat) (x76_3 : Int32) (ls : Array Slot), j76 + k = 12 → lv_has ls 5 [(4, .int (nI j76)), (3, .int x76_3), (0, .ref h0), (1, .int a1), (2, .int a2)] →
            W p l e (headSpec wsX8_told ({ frames := 3, cells := 0, slots := 0, locals := 65 })).room s m [.ref h0, .int a1, .int a2].toArray below meth c s.heap [] 0 0 (MQ below (pg_Q (gi_ (fun r => True))) [.ref h0, .int a1, .int a2].toArray s 0 0 pu_F) (F0 m 76 ls []) := by
          intro k
          induction k with
          | zero =>
            intro j76 x76_3 ls hj hl
            have hj : j76 = 12 := by omega
            subst j76
            refine lv_iload hx hb dX8_told_76 (lv_at hl 0 rfl) ?_
            refine lv_bipush (v := 12) hx hb dX8_told_78 (by decide) ?_
            refine lv_icmp_ge (tgt := 99) hx hb dX8_told_80 (by decide) (fun h_5 => ?_) (fun h_5 => absurd (lp_ge0 (B := 12) rfl) h_5)
            refine lv_iload_n hx hb dX8_told_99 rfl (lv_at hl 4 rfl) ?_
            refine lv_bipush (v := 7) hx hb dX8_told_100 (by decide) ?_
            refine lv_icmp_ne (tgt := 109) hx hb dX8_told_102 (by decide) (fun h_6 => ?_) (fun h_6 => ?_)
            · skip
              refine lv_iconst (v := (-1)) hx hb dX8_told_109 (by decide) ?_
              exact W.iret (v := (-1)) hx hb hr (fun t ht hW => ⟨_, rfl, ⟨(-1), rfl, trivial⟩, ht⟩) (fun q h => by cases h) dX8_told_110
            · skip
              refine lv_iload_n hx hb dX8_told_105 rfl (lv_at hl 1 rfl) ?_
              refine lv_goto (tgt := 110) hx hb dX8_told_106 (by decide) ?_
              exact W.iret (v := x76_3) hx hb hr (fun t ht hW => ⟨_, rfl, ⟨x76_3, rfl, trivial⟩, ht⟩) (fun q h => by cases h) dX8_told_110
          | succ k ih76 =>
            intro j76 x76_3 ls hj hl
            have hj76 : j76 < 12 := by omega
            refine lv_iload hx hb dX8_told_76 (lv_at hl 0 rfl) ?_
            refine lv_bipush (v := 12) hx hb dX8_told_78 (by decide) ?_
            refine lv_icmp_ge (tgt := 99) hx hb dX8_told_80 (by decide) (fun h_7 => absurd h_7 (lp_ge (B := 12) (by omega) (by omega) rfl)) (fun h_7 => ?_)
            refine lv_iload_n hx hb dX8_told_83 rfl (lv_at hl 1 rfl) ?_
            refine lv_aload_n hx hb dX8_told_84 rfl (lv_at hl 2 rfl) ?_
            refine lv_iload_n hx hb dX8_told_85 rfl (lv_at hl 3 rfl) ?_
            refine lv_iload hx hb dX8_told_86 (lv_at hl 0 rfl) ?_
            refine pg_call (va_runV (As := [.int a1, .int (nI j76)]) (rest := [.int x76_3]) ⟨hx, hb, hml, hown, hts⟩ (k_X8_owes l dC dI h0 q n dl cI cZ F hI hN a1 (nI j76)) (cwV 2 hts gX8_told_X8_owes rfl rfl rfl (by decide +kernel) ⟨Nat.le_of_ble_eq_true rfl, Nat.le_of_ble_eq_true rfl⟩) (pu_pre hP hK (ci := 7) (q0 := 0) rfl rfl) rfl rfl hl.1 rfl (lv_room (Nat.le_of_ble_eq_true rfl)) dX8_told_88 ⟨Nat.le_of_ble_eq_true rfl, Nat.le_of_ble_eq_true rfl⟩) (fun w8 hw8 => ?_)
            obtain ⟨r8, rfl, hg8⟩ := hw8
            refine lv_iadd hx hb dX8_told_91 ?_
            refine lv_istore_n (lv' := [(3, .int (x76_3 + r8)), (4, .int (nI j76)), (0, .ref h0), (1, .int a1), (2, .int a2)]) hx hb dX8_told_92 rfl hl (by decide) rfl (fun ls hl => ?_)
            refine lv_iinc (v := (nI (j76 + 1))) (lv' := [(4, .int (nI (j76 + 1))), (3, .int (x76_3 + r8)), (0, .ref h0), (1, .int a1), (2, .int a2)]) hx hb dX8_told_93 hl (k := 1) rfl (show nI j76 + 1 = nI (j76 + 1) from nI_1 j76) (by decide) rfl (fun ls hl => ?_)
            refine lv_goto (tgt := 76) hx hb dX8_told_96 (by decide) ?_
            exact ih76 (j76 + 1) (x76_3 + r8) ls (by omega) (lv_sub hl [0, 1, 2, 3, 4] rfl)
        exact key76 12 0 0 ls (by omega) (lv_sub hl [0, 1, 2, 3, 4] rfl)
      · skip
        refine lv_iconst (v := 0) hx hb dX8_told_34 (by decide) ?_
        refine lv_istore (lv' := [(4, .int 0), (3, .int 0), (0, .ref h0), (1, .int a1), (2, .int a2)]) hx hb dX8_told_35 hl (by decide) rfl (fun ls hl => ?_)
        have key37 : ∀ (k j37 : Nat) (x37_3 : Int32) (ls : Array Slot), j37 + k = (n 4) → lv_has ls 5 [(4, .int (nI j37)), (3, .int x37_3), (0, .ref h0), (1, .int a1), (2, .int a2)] →
            W p l e (headSpec wsX8_told ({ frames := 3, cells := 0, slots := 0, locals := 65 })).room s m [.ref h0, .int a1, .int a2].toArray below meth c s.heap [] 0 0 (MQ below (pg_Q (gi_ (fun r => True))) [.ref h0, .int a1, .int a2].toArray s 0 0 pu_F) (F0 m 37 ls []) := by
          intro k
          induction k with
          | zero =>
            intro j37 x37_3 ls hj hl
            have hj : j37 = (n 4) := by omega
            subst j37
            refine lv_iload hx hb dX8_told_37 (lv_at hl 0 rfl) ?_
            refine lv_aload_n hx hb dX8_told_39 rfl (lv_at hl 2 rfl) ?_
            refine va_get (D := (dC, dI)) (ci := 7) (v := .int (nI (n 4))) (C := RX8) (T := TX8) (N := 37) hx hb hts hinX8 hown hK hP 0 rfl rfl 25 (by decide) (hts (.fieldLink RX8 144 "FurPostsModel" "letters" "I") (by decide +kernel)) (fun _ h9 => h9) rfl dX8_told_40 ?_
            refine lv_icmp_ge (tgt := 71) hx hb dX8_told_43 (by decide) (fun h_9 => ?_) (fun h_9 => absurd (lp_ge0 (B := (n 4)) rfl) h_9)
            refine lv_iload_n hx hb dX8_told_71 rfl (lv_at hl 1 rfl) ?_
            exact W.iret (v := x37_3) hx hb hr (fun t ht hW => ⟨_, rfl, ⟨x37_3, rfl, trivial⟩, ht⟩) (fun q h => by cases h) dX8_told_72
          | succ k ih37 =>
            intro j37 x37_3 ls hj hl
            have hj37 : j37 < (n 4) := by omega
            refine lv_iload hx hb dX8_told_37 (lv_at hl 0 rfl) ?_
            refine lv_aload_n hx hb dX8_told_39 rfl (lv_at hl 2 rfl) ?_
            refine va_get (D := (dC, dI)) (ci := 7) (v := .int (nI (n 4))) (C := RX8) (T := TX8) (N := 37) hx hb hts hinX8 hown hK hP 0 rfl rfl 25 (by decide) (hts (.fieldLink RX8 144 "FurPostsModel" "letters" "I") (by decide +kernel)) (fun _ h9 => h9) rfl dX8_told_40 ?_
            refine lv_icmp_ge (tgt := 71) hx hb dX8_told_43 (by decide) (fun h_10 => absurd h_10 (lp_ge (B := (n 4)) (by omega) (by omega) rfl)) (fun h_10 => ?_)
            refine lv_iload_n hx hb dX8_told_46 rfl (lv_at hl 1 rfl) ?_
            refine lv_aload_n hx hb dX8_told_47 rfl (lv_at hl 2 rfl) ?_
            refine va_get (D := (dC, dI)) (ci := 7) (v := .ref (q 28)) (C := RX8) (T := TX8) (N := 37) hx hb hts hinX8 hown hK hP 0 rfl rfl 28 (by decide) (hts (.fieldLink RX8 80 "FurPostsModel" "letterAt" "[I") (by decide +kernel)) (fun _ h9 => h9) rfl dX8_told_48 ?_
            refine lv_iload hx hb dX8_told_51 (lv_at hl 0 rfl) ?_
            refine va_iald hx hb hK hP 24 0 rfl rfl (i := (nI j37)) (vp_in_nI (show j37 < 300 by omega) (by decide)) dX8_told_53 ?_
            refine lv_iload_n hx hb dX8_told_54 rfl (lv_at hl 3 rfl) ?_
            refine lv_icmp_ne (tgt := 62) hx hb dX8_told_55 (by decide) (fun h_11 => ?_) (fun h_11 => ?_)
            · skip
              refine lv_iconst (v := 0) hx hb dX8_told_62 (by decide) ?_
              refine lv_iadd hx hb dX8_told_63 ?_
              refine lv_istore_n (lv' := [(3, .int (x37_3 + 0)), (4, .int (nI j37)), (0, .ref h0), (1, .int a1), (2, .int a2)]) hx hb dX8_told_64 rfl hl (by decide) rfl (fun ls hl => ?_)
              refine lv_iinc (v := (nI (j37 + 1))) (lv' := [(4, .int (nI (j37 + 1))), (3, .int (x37_3 + 0)), (0, .ref h0), (1, .int a1), (2, .int a2)]) hx hb dX8_told_65 hl (k := 1) rfl (show nI j37 + 1 = nI (j37 + 1) from nI_1 j37) (by decide) rfl (fun ls hl => ?_)
              refine lv_goto (tgt := 37) hx hb dX8_told_68 (by decide) ?_
              exact ih37 (j37 + 1) (x37_3 + 0) ls (by omega) (lv_sub hl [0, 1, 2, 3, 4] rfl)
            · skip
              refine lv_iconst (v := 1) hx hb dX8_told_58 (by decide) ?_
              refine lv_goto (tgt := 63) hx hb dX8_told_59 (by decide) ?_
              refine lv_iadd hx hb dX8_told_63 ?_
              refine lv_istore_n (lv' := [(3, .int (x37_3 + 1)), (4, .int (nI j37)), (0, .ref h0), (1, .int a1), (2, .int a2)]) hx hb dX8_told_64 rfl hl (by decide) rfl (fun ls hl => ?_)
              refine lv_iinc (v := (nI (j37 + 1))) (lv' := [(4, .int (nI (j37 + 1))), (3, .int (x37_3 + 1)), (0, .ref h0), (1, .int a1), (2, .int a2)]) hx hb dX8_told_65 hl (k := 1) rfl (show nI j37 + 1 = nI (j37 + 1) from nI_1 j37) (by decide) rfl (fun ls hl => ?_)
              refine lv_goto (tgt := 37) hx hb dX8_told_68 (by decide) ?_
              exact ih37 (j37 + 1) (x37_3 + 1) ls (by omega) (lv_sub hl [0, 1, 2, 3, 4] rfl)
        exact key37 (n 4) 0 0 ls (by omega) (lv_sub hl [0, 1, 2, 3, 4] rfl)
    · skip
      refine lv_aload_n hx hb dX8_told_19 rfl (lv_at hl 0 rfl) ?_
      refine lv_iload_n hx hb dX8_told_20 rfl (lv_at hl 1 rfl) ?_
      refine lv_iload_n hx hb dX8_told_21 rfl (lv_at hl 2 rfl) ?_
      refine pg_call (va_runV (As := [.int a1, .int a2]) (rest := []) ⟨hx, hb, hml, hown, hts⟩ (k_X8_stored l dC dI h0 q n dl cI cZ F hI hN a1 a2 ((hg1 h_2)) (sp_vp h_3 rfl)) (cwV 2 hts gX8_told_X8_stored rfl rfl rfl (by decide +kernel) ⟨Nat.le_of_ble_eq_true rfl, Nat.le_of_ble_eq_true rfl⟩) (pu_pre hP hK (ci := 7) (q0 := 0) rfl rfl) rfl rfl hl.1 rfl (lv_room (Nat.le_of_ble_eq_true rfl)) dX8_told_22 ⟨Nat.le_of_ble_eq_true rfl, Nat.le_of_ble_eq_true rfl⟩) (fun w12 hw12 => ?_)
      obtain ⟨r12, rfl, hg12⟩ := hw12
      exact W.iret (v := r12) hx hb hr (fun t ht hW => ⟨_, rfl, ⟨r12, rfl, trivial⟩, ht⟩) (fun q h => by cases h) dX8_told_25
  · skip
    refine lv_iconst (v := (-1)) hx hb dX8_told_8 (by decide) ?_
    exact W.iret (v := (-1)) hx hb hr (fun t ht hW => ⟨_, rfl, ⟨(-1), rfl, trivial⟩, ht⟩) (fun q h => by cases h) dX8_told_9

set_option maxHeartbeats 4000000 in
set_option maxRecDepth 100000 in
theorem k_X8_count (l : Launch) (dC : Nat → ClassId) (dI : Nat → Nat → Nat) (h0 : Nat) (q n : Nat → Nat) (dl : Int32) (cI cZ : ClassId) (F : Nat → Nat → Int32) (hI : mi_ n F) (hN : nb_ n) (a1 : Int32) (a2 : Int32) : Met l yX8_count wsX8_count ({ frames := 2, cells := 0, slots := 0, locals := 42 }) (va_Pc [.ref h0, .int a1, .int a2] (pu_P (dC, dI) vwCl (mt_ cI cZ) (mw_ h0 q n dl cI cZ F))) (pg_Q (gi_ (fun r => True))) 0 0 pu_F := by
  refine Met.ofW (cc := cX8_count) (maxL := 3) (ret := (some .int)) (by decide) rfl ?_
  intro p e s m args below meth c s₁ B hml hv
  obtain ⟨rfl, hP, hK⟩ := hv
  have hx := B.exec
  have hb := B.bytes
  have hr := B.returns
  have hts := atoms_spec (ws := wsX8_count) B.pre
  have hown : s.vm.findClass RX8 = some m.cls := findClass_of_methodNamed B.named
  have hlocks := B.notSynchronized
  have hinX8 : ∀ w ∈ u_ws RX8 TX8 37, w ∈ wsX8_count := by decide +kernel
  have hl := lv_entry ([.ref h0, .int a1, .int a2]) (n := 3) (Nat.le_of_ble_eq_true rfl)
  rw [lg_entry_eq]
  generalize (lg_sl ([.ref h0, .int a1, .int a2]) ++ List.replicate (3 - (lg_sl ([.ref h0, .int a1, .int a2])).length) Slot.unset).toArray = ls at hl ⊢
  have hl : lv_has ls 3 [(0, .ref h0), (1, .int a1), (2, .int a2)] := hl
  refine lv_iload_n hx hb dX8_count_0 rfl (lv_at hl 2 rfl) ?_
  refine lv_iconst (v := 0) hx hb dX8_count_1 (by decide) ?_
  refine lv_iconst (v := 5) hx hb dX8_count_2 (by decide) ?_
  refine pu_call (va_runS (As := [.int a2, .int 0, .int 5]) (rest := []) ⟨hx, hb, hml, hown, hts⟩ (c_X8_in l a2 0 5) (va_cwS 3 hts gX8_count_X8_in rfl rfl rfl (by decide +kernel) ⟨Nat.le_of_ble_eq_true rfl, Nat.le_of_ble_eq_true rfl⟩) pu_preS rfl rfl hl.1 rfl (lv_room (Nat.le_of_ble_eq_true rfl)) dX8_count_3 ⟨Nat.le_of_ble_eq_true rfl, Nat.le_of_ble_eq_true rfl⟩) ?_
  refine lv_if_ne (tgt := 11) hx hb dX8_count_6 (by decide) (fun h_1 => ?_) (fun h_1 => ?_)
  · skip
    refine lv_iload_n hx hb dX8_count_11 rfl (lv_at hl 1 rfl) ?_
    refine pu_call (va_runS (As := [.int a1]) (rest := []) ⟨hx, hb, hml, hown, hts⟩ (c_X8_isWare l a1) (va_cwS 1 hts gX8_count_X8_isWare rfl rfl rfl (by decide +kernel) ⟨Nat.le_of_ble_eq_true rfl, Nat.le_of_ble_eq_true rfl⟩) pu_preS rfl rfl hl.1 rfl (lv_room (Nat.le_of_ble_eq_true rfl)) dX8_count_12 ⟨Nat.le_of_ble_eq_true rfl, Nat.le_of_ble_eq_true rfl⟩) ?_
    refine lv_if_eq (tgt := 30) hx hb dX8_count_15 (by decide) (fun h_2 => ?_) (fun h_2 => ?_)
    · skip
      refine lv_iload_n hx hb dX8_count_30 rfl (lv_at hl 1 rfl) ?_
      refine lv_iconst (v := (-1)) hx hb dX8_count_31 (by decide) ?_
      refine lv_icmp_eq (tgt := 37) hx hb dX8_count_32 (by decide) (fun h_3 => ?_) (fun h_3 => ?_)
      · skip
        refine lv_iload_n hx hb dX8_count_37 rfl (lv_at hl 2 rfl) ?_
        rcases (Decidable.em (a2 = 0)) with e_4 | e_4
        · refine lv_tableIn (off := 34) (tgt := 72) hx hb dX8_count_38 (by rw [e_4]; decide) (by rw [e_4]; decide) (by rw [e_4]; rfl) (by decide) ?_
          refine lv_aload_n hx hb dX8_count_72 rfl (lv_at hl 0 rfl) ?_
          refine va_get (D := (dC, dI)) (ci := 7) (v := .int (nI (n 0))) (C := RX8) (T := TX8) (N := 37) hx hb hts hinX8 hown hK hP 0 rfl rfl 0 (by decide) (hts (.fieldLink RX8 137 "FurPostsModel" "now" "I") (by decide +kernel)) (fun _ h9 => h9) rfl dX8_count_73 ?_
          exact W.iret (v := (nI (n 0))) hx hb hr (fun t ht hW => ⟨_, rfl, ⟨(nI (n 0)), rfl, trivial⟩, ht⟩) (fun q h => by cases h) dX8_count_76
        rcases (Decidable.em (a2 = 1)) with e_5 | e_5
        · refine lv_tableIn (off := 39) (tgt := 77) hx hb dX8_count_38 (by rw [e_5]; decide) (by rw [e_5]; decide) (by rw [e_5]; rfl) (by decide) ?_
          refine lv_aload_n hx hb dX8_count_77 rfl (lv_at hl 0 rfl) ?_
          refine va_get (D := (dC, dI)) (ci := 7) (v := .int (nI (n 1))) (C := RX8) (T := TX8) (N := 37) hx hb hts hinX8 hown hK hP 0 rfl rfl 1 (by decide) (hts (.fieldLink RX8 104 "FurPostsModel" "posts" "I") (by decide +kernel)) (fun _ h9 => h9) rfl dX8_count_78 ?_
          exact W.iret (v := (nI (n 1))) hx hb hr (fun t ht hW => ⟨_, rfl, ⟨(nI (n 1)), rfl, trivial⟩, ht⟩) (fun q h => by cases h) dX8_count_81
        rcases (Decidable.em (a2 = 2)) with e_6 | e_6
        · refine lv_tableIn (off := 44) (tgt := 82) hx hb dX8_count_38 (by rw [e_6]; decide) (by rw [e_6]; decide) (by rw [e_6]; rfl) (by decide) ?_
          refine lv_aload_n hx hb dX8_count_82 rfl (lv_at hl 0 rfl) ?_
          refine va_get (D := (dC, dI)) (ci := 7) (v := .int (nI (n 2))) (C := RX8) (T := TX8) (N := 37) hx hb hts hinX8 hown hK hP 0 rfl rfl 5 (by decide) (hts (.fieldLink RX8 115 "FurPostsModel" "ways" "I") (by decide +kernel)) (fun _ h9 => h9) rfl dX8_count_83 ?_
          exact W.iret (v := (nI (n 2))) hx hb hr (fun t ht hW => ⟨_, rfl, ⟨(nI (n 2)), rfl, trivial⟩, ht⟩) (fun q h => by cases h) dX8_count_86
        rcases (Decidable.em (a2 = 3)) with e_7 | e_7
        · refine lv_tableIn (off := 49) (tgt := 87) hx hb dX8_count_38 (by rw [e_7]; decide) (by rw [e_7]; decide) (by rw [e_7]; rfl) (by decide) ?_
          refine lv_aload_n hx hb dX8_count_87 rfl (lv_at hl 0 rfl) ?_
          refine va_get (D := (dC, dI)) (ci := 7) (v := .int (nI (n 3))) (C := RX8) (T := TX8) (N := 37) hx hb hts hinX8 hown hK hP 0 rfl rfl 13 (by decide) (hts (.fieldLink RX8 112 "FurPostsModel" "canoes" "I") (by decide +kernel)) (fun _ h9 => h9) rfl dX8_count_88 ?_
          exact W.iret (v := (nI (n 3))) hx hb hr (fun t ht hW => ⟨_, rfl, ⟨(nI (n 3)), rfl, trivial⟩, ht⟩) (fun q h => by cases h) dX8_count_91
        rcases (Decidable.em (a2 = 4)) with e_8 | e_8
        · refine lv_tableIn (off := 54) (tgt := 92) hx hb dX8_count_38 (by rw [e_8]; decide) (by rw [e_8]; decide) (by rw [e_8]; rfl) (by decide) ?_
          refine lv_aload_n hx hb dX8_count_92 rfl (lv_at hl 0 rfl) ?_
          refine va_get (D := (dC, dI)) (ci := 7) (v := .int (nI (n 4))) (C := RX8) (T := TX8) (N := 37) hx hb hts hinX8 hown hK hP 0 rfl rfl 25 (by decide) (hts (.fieldLink RX8 144 "FurPostsModel" "letters" "I") (by decide +kernel)) (fun _ h9 => h9) rfl dX8_count_93 ?_
          exact W.iret (v := (nI (n 4))) hx hb hr (fun t ht hW => ⟨_, rfl, ⟨(nI (n 4)), rfl, trivial⟩, ht⟩) (fun q h => by cases h) dX8_count_96
        refine lv_tableOut (tgt := 97) hx hb dX8_count_38 (by have j_0 := sw_n (n := 0) (k := 0) e_4 (by decide); have j_1 := sw_n (n := 1) (k := 1) e_5 (by decide); have j_2 := sw_n (n := 2) (k := 2) e_6 (by decide); have j_3 := sw_n (n := 3) (k := 3) e_7 (by decide); have j_4 := sw_n (n := 4) (k := 4) e_8 (by decide); omega) (by decide) ?_
        refine lv_aload_n hx hb dX8_count_97 rfl (lv_at hl 0 rfl) ?_
        refine va_get (D := (dC, dI)) (ci := 7) (v := .int dl) (C := RX8) (T := TX8) (N := 37) hx hb hts hinX8 hown hK hP 0 rfl rfl 35 (by decide) (hts (.fieldLink RX8 156 "FurPostsModel" "debtsLost" "I") (by decide +kernel)) (fun _ h9 => h9) rfl dX8_count_98 ?_
        exact W.iret (v := dl) hx hb hr (fun t ht hW => ⟨_, rfl, ⟨dl, rfl, trivial⟩, ht⟩) (fun q h => by cases h) dX8_count_101
      · skip
        refine lv_iconst (v := (-1)) hx hb dX8_count_35 (by decide) ?_
        exact W.iret (v := (-1)) hx hb hr (fun t ht hW => ⟨_, rfl, ⟨(-1), rfl, trivial⟩, ht⟩) (fun q h => by cases h) dX8_count_36
    · skip
      refine lv_aload_n hx hb dX8_count_18 rfl (lv_at hl 0 rfl) ?_
      refine va_get (D := (dC, dI)) (ci := 7) (v := .ref (q 34)) (C := RX8) (T := TX8) (N := 37) hx hb hts hinX8 hown hK hP 0 rfl rfl 34 (by decide) (hts (.fieldLink RX8 98 "FurPostsModel" "sums" "[I") (by decide +kernel)) (fun _ h9 => h9) rfl dX8_count_19 ?_
      refine lv_bipush (v := 6) hx hb dX8_count_22 (by decide) ?_
      refine lv_iload_n hx hb dX8_count_24 rfl (lv_at hl 2 rfl) ?_
      refine lv_imul hx hb dX8_count_25 ?_
      refine lv_iload_n hx hb dX8_count_26 rfl (lv_at hl 1 rfl) ?_
      refine lv_iadd hx hb dX8_count_27 ?_
      refine va_iald hx hb hK hP 30 0 rfl rfl (i := ((6 * a2) + a1)) (vp_lin (a := 6) (b := 6) (m := 6) (sp_vp h_1 rfl) (sp_vp h_2 rfl) rfl (by decide)) dX8_count_28 ?_
      exact W.iret (v := (F 34 (Int32.toNatClampNeg ((6 * a2) + a1)))) hx hb hr (fun t ht hW => ⟨_, rfl, ⟨(F 34 (Int32.toNatClampNeg ((6 * a2) + a1))), rfl, trivial⟩, ht⟩) (fun q h => by cases h) dX8_count_29
  · skip
    refine lv_iconst (v := (-1)) hx hb dX8_count_9 (by decide) ?_
    exact W.iret (v := (-1)) hx hb hr (fun t ht hW => ⟨_, rfl, ⟨(-1), rfl, trivial⟩, ht⟩) (fun q h => by cases h) dX8_count_10
