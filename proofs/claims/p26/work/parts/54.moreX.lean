set_option maxHeartbeats 8000000 in
set_option maxRecDepth 100000 in
theorem m_X7_loseLetters (l : Launch) (dC : Nat → ClassId) (dI : Nat → Nat → Nat) (h0 : Nat) (q : Nat → Nat) (cI : ClassId) (cy : Nat → ClassId) (A : Nat → Prop) (ad : Nat → Nat → Nat) (rl : Nat → Nat × Nat) (L : List Nat) (n : Nat → Nat) (G : Nat → Nat → Int32) (hN : nb_ n) (a1 : Int32) : Met l yX7_loseLetters wsX7_loseLetters ({ frames := 1, cells := 0, slots := 0, locals := 21 }) (va_Pc [.ref h0, .int a1] (ct_P (dC, dI) cI cy h0 q A ad rl L n G)) (va_Qv (fun u : Nat → Nat → Int32 => u = sX_loseLetters n G a1) (fun u s' => cp_ (dC, dI) cI cy h0 q A ad rl L n u s'.heap) A) 0 0 A := by
  refine Met.ofW (cc := cX7_loseLetters) (maxL := 4) (ret := none) (by decide) rfl ?_
  intro p e s m args below meth c s₁ B hml hv
  obtain ⟨rfl, hC, hK, hW0⟩ := hv
  have hx := B.exec
  have hb := B.bytes
  have hr := B.returns
  have hts := atoms_spec (ws := wsX7_loseLetters) B.pre
  have hown : s.vm.findClass RX7 = some m.cls := findClass_of_methodNamed B.named
  have hlocks := B.notSynchronized
  have hinX1 : ∀ w ∈ u_ws RX1 TX1 6, w ∈ wsX7_loseLetters := by decide +kernel
  have hinX3 : ∀ w ∈ u_ws RX3 TX3 6, w ∈ wsX7_loseLetters := by decide +kernel
  have hinX5 : ∀ w ∈ u_ws RX5 TX5 6, w ∈ wsX7_loseLetters := by decide +kernel
  have hinX7 : ∀ w ∈ u_ws RX7 TX7 14, w ∈ wsX7_loseLetters := by decide +kernel
  have hS : va_S A s.heap s.heap [] := va_S.rf
  have hl := lv_entry ([.ref h0, .int a1]) (n := 4) (Nat.le_of_ble_eq_true rfl)
  rw [lg_entry_eq]
  generalize (lg_sl ([.ref h0, .int a1]) ++ List.replicate (4 - (lg_sl ([.ref h0, .int a1])).length) Slot.unset).toArray = ls at hl ⊢
  have hl : lv_has ls 4 [(0, .ref h0), (1, .int a1)] := hl
  obtain ⟨H, hH, hC, hS⟩ : ∃ H, H = s.heap ∧ cp_ (dC, dI) cI cy h0 q A ad rl L n G H ∧ va_S A s.heap H [] := ⟨_, rfl, hC, hS⟩
  rw [← hH]
  generalize ([] : List Loc) = locs at hS ⊢
  refine lv_iconst (v := 0) hx hb dX7_loseLetters_0 (by decide) ?_
  refine lv_istore_n (lv' := [(2, .int 0), (0, .ref h0), (1, .int a1)]) hx hb dX7_loseLetters_1 rfl hl (by decide) rfl (fun ls hl => ?_)
  have key2 : ∀ (k jL2 : Nat) (GL2 : Nat → Nat → Int32) (H : Heap) (locs : List Loc) (ls : Array Slot), jL2 + k = (n 4) → cp_ (dC, dI) cI cy h0 q A ad rl L n GL2 H → va_S A s.heap H locs → lv_has ls 4 [(2, .int (nI jL2)), (0, .ref h0), (1, .int a1)] → (∀ (H : Heap) (locs : List Loc) (ls : Array Slot), cp_ (dC, dI) cI cy h0 q A ad rl L n ((sX_loseLetters_L2 a1 k jL2 GL2)) H → va_S A s.heap H locs → lv_has ls 4 [(2, .int (nI (n 4))), (0, .ref h0), (1, .int a1)] → W p l e (headSpec wsX7_loseLetters ({ frames := 1, cells := 0, slots := 0, locals := 21 })).room s m [.ref h0, .int a1].toArray below meth c H locs 0 0 (MQ below (va_Qv (fun u : Nat → Nat → Int32 => u = sX_loseLetters n G a1) (fun u s' => cp_ (dC, dI) cI cy h0 q A ad rl L n u s'.heap) A) [.ref h0, .int a1].toArray s 0 0 A) (F0 m 56 ls [])) → 
      W p l e (headSpec wsX7_loseLetters ({ frames := 1, cells := 0, slots := 0, locals := 21 })).room s m [.ref h0, .int a1].toArray below meth c H locs 0 0 (MQ below (va_Qv (fun u : Nat → Nat → Int32 => u = sX_loseLetters n G a1) (fun u s' => cp_ (dC, dI) cI cy h0 q A ad rl L n u s'.heap) A) [.ref h0, .int a1].toArray s 0 0 A) (F0 m 2 ls []) := by
    intro k
    induction k with
    | zero =>
      intro jL2 GL2 H locs ls hj hC hS hl hex
      have hj : jL2 = (n 4) := by omega
      subst jL2
      refine lv_iload_n hx hb dX7_loseLetters_2 rfl (lv_at hl 0 rfl) ?_
      refine lv_aload_n hx hb dX7_loseLetters_3 rfl (lv_at hl 1 rfl) ?_
      refine cx_get hx hb hts hinX7 hown hK hC 12 (by decide) (v := .int (nI (n 4))) rfl (hts (.fieldLink RX7 165 "FurPosts" "letterCount" "I") (by decide +kernel)) dX7_loseLetters_4 ?_
      refine lv_icmp_ge (tgt := 56) hx hb dX7_loseLetters_7 (by decide) (fun h_1 => ?_) (fun h_1 => absurd (lp_ge0 (B := (n 4)) rfl) h_1)
      exact hex H locs ls hC hS (lv_sub hl [0, 1, 2] rfl)
    | succ k ih2 =>
      intro jL2 GL2 H locs ls hj hC hS hl hex
      have hj2 : jL2 < (n 4) := by omega
      refine lv_iload_n hx hb dX7_loseLetters_2 rfl (lv_at hl 0 rfl) ?_
      refine lv_aload_n hx hb dX7_loseLetters_3 rfl (lv_at hl 1 rfl) ?_
      refine cx_get hx hb hts hinX7 hown hK hC 12 (by decide) (v := .int (nI (n 4))) rfl (hts (.fieldLink RX7 165 "FurPosts" "letterCount" "I") (by decide +kernel)) dX7_loseLetters_4 ?_
      refine lv_icmp_ge (tgt := 56) hx hb dX7_loseLetters_7 (by decide) (fun h_2 => absurd h_2 (lp_ge (B := (n 4)) (by omega) (by omega) rfl)) (fun h_2 => ?_)
      refine lv_aload_n hx hb dX7_loseLetters_10 rfl (lv_at hl 1 rfl) ?_
      refine lv_iload_n hx hb dX7_loseLetters_11 rfl (lv_at hl 0 rfl) ?_
      refine pu_call (va_runV (As := [.int (nI jL2)]) (rest := []) ⟨hx, hb, hml, hown, hts⟩ (k_X7_letterAt l dC dI h0 q cI cy A ad rl L n GL2 hN (nI jL2)) (cwV 1 hts gX7_loseLetters_X7_letterAt rfl rfl rfl (by decide +kernel) ⟨Nat.le_of_ble_eq_true rfl, Nat.le_of_ble_eq_true rfl⟩) (ct_pre hC hK hW0) rfl rfl hl.1 rfl (lv_room (Nat.le_of_ble_eq_true rfl)) dX7_loseLetters_12 ⟨Nat.le_of_ble_eq_true rfl, Nat.le_of_ble_eq_true rfl⟩) ?_
      rw [if_neg (sp_nIn (show jL2 < n 4 by omega) (by omega)), show (nI jL2).toNatClampNeg = jL2 from nI_clamp (by omega)]
      have hv3 : jL2 < n 4 := by omega
      refine lv_astore_n (lv' := [(3, .ref (ad 4 jL2)), (2, .int (nI jL2)), (0, .ref h0), (1, .int a1)]) hx hb dX7_loseLetters_15 rfl hl (by decide) rfl (fun ls hl => ?_)
      refine lv_aload_n hx hb dX7_loseLetters_16 rfl (lv_at hl 0 rfl) ?_
      refine lv_ifnull hx hb dX7_loseLetters_17 ?_
      refine lv_aload_n hx hb dX7_loseLetters_20 rfl (lv_at hl 0 rfl) ?_
      refine cl_get3 jL2 hx hb hts hinX1 hinX3 hinX5 hown hK hC hv3 (own := RX7) (index := 185) (hts (.fieldLink RX7 185 "FurPosts$Letter" "carrier" "I") (by decide +kernel)) dX7_loseLetters_21 ?_
      refine lv_topi (fun v4 (e4 : v4 = GL2 42 jL2) => ?_)
      refine lv_iload_n hx hb dX7_loseLetters_24 rfl (lv_at hl 3 rfl) ?_
      refine lv_icmp_ne (tgt := 50) hx hb dX7_loseLetters_25 (by decide) (fun h_5 => ?_) (fun h_5 => ?_)
      · skip
        refine lv_iinc (v := (nI (jL2 + 1))) (lv' := [(2, .int (nI (jL2 + 1))), (3, .ref (ad 4 jL2)), (0, .ref h0), (1, .int a1)]) hx hb dX7_loseLetters_50 hl (k := 1) rfl (show nI jL2 + 1 = nI (jL2 + 1) from nI_1 jL2) (by decide) rfl (fun ls hl => ?_)
        refine lv_goto (tgt := 2) hx hb dX7_loseLetters_53 (by decide) ?_
        have hI2 : (sX_loseLetters_L2 a1 (k + 1) jL2 GL2) = (sX_loseLetters_L2 a1 k (jL2 + 1) GL2) := by subst e4; exact (if_neg h_5)
        exact ih2 (jL2 + 1) GL2 H locs ls (by omega) hC hS (lv_sub hl [0, 2, 3] rfl) (by rw [← hI2]; exact hex)
      · skip
        refine lv_aload_n hx hb dX7_loseLetters_28 rfl (lv_at hl 0 rfl) ?_
        refine lv_iconst (v := (-1)) hx hb dX7_loseLetters_29 (by decide) ?_
        refine cl_put3 jL2 hx hb hts hinX1 hinX3 hinX5 hown hK hC hS hv3 (own := RX7) (index := 185) (v := (-1)) (hts (.fieldLink RX7 185 "FurPosts$Letter" "carrier" "I") (by decide +kernel)) dX7_loseLetters_30 (fun H locs hC hS => ?_)
        obtain ⟨G6, e6, hC⟩ : ∃ G6 : Nat → Nat → Int32, G6 = up2 GL2 42 jL2 (-1) ∧ cp_ (dC, dI) cI cy h0 q A ad rl L n G6 H := ⟨_, rfl, hC⟩
        refine lv_aload_n hx hb dX7_loseLetters_33 rfl (lv_at hl 0 rfl) ?_
        by_cases h_7 : G6 26 jL2 = 1
        · refine cl_inst jL2 hx hb hown (hts (.classLink RX7 188 RX1) (by decide +kernel)) hW0 hK hC hv3 dX7_loseLetters_34 ?_
          rw [if_pos h_7]
          refine lv_if_eq (tgt := 50) hx hb dX7_loseLetters_37 (by decide) (fun h_8 => absurd h_8 (by decide)) (fun h_8 => ?_)
          refine lv_aload_n hx hb dX7_loseLetters_40 rfl (lv_at hl 2 rfl) ?_
          refine lv_dup hx hb dX7_loseLetters_41 rfl ?_
          refine cx_get hx hb hts hinX7 hown hK hC 13 (by decide) (v := .int (G6 44 0)) rfl (hts (.fieldLink RX7 190 "FurPosts" "debtsLost" "I") (by decide +kernel)) dX7_loseLetters_42 ?_
          refine lv_topi (fun v9 (e9 : v9 = G6 44 0) => ?_)
          refine lv_iconst (v := 1) hx hb dX7_loseLetters_45 (by decide) ?_
          refine lv_iadd hx hb dX7_loseLetters_46 ?_
          refine cx_put44 hx hb hts hinX7 hown hK hC hS (v := (v9 + 1)) (hts (.fieldLink RX7 190 "FurPosts" "debtsLost" "I") (by decide +kernel)) dX7_loseLetters_47 (fun H locs hC hS => ?_)
          obtain ⟨G10, e10, hC⟩ : ∃ G10 : Nat → Nat → Int32, G10 = up2 G6 44 0 (v9 + 1) ∧ cp_ (dC, dI) cI cy h0 q A ad rl L n G10 H := ⟨_, rfl, hC⟩
          refine lv_iinc (v := (nI (jL2 + 1))) (lv' := [(2, .int (nI (jL2 + 1))), (3, .ref (ad 4 jL2)), (0, .ref h0), (1, .int a1)]) hx hb dX7_loseLetters_50 hl (k := 1) rfl (show nI jL2 + 1 = nI (jL2 + 1) from nI_1 jL2) (by decide) rfl (fun ls hl => ?_)
          refine lv_goto (tgt := 2) hx hb dX7_loseLetters_53 (by decide) ?_
          have hI2 : (sX_loseLetters_L2 a1 (k + 1) jL2 GL2) = (sX_loseLetters_L2 a1 k (jL2 + 1) G10) := by subst e10 e9 e6 e4; exact (if_pos h_5).trans (if_pos h_7)
          exact ih2 (jL2 + 1) G10 H locs ls (by omega) hC hS (lv_sub hl [0, 2, 3] rfl) (by rw [← hI2]; exact hex)
        · refine cl_inst jL2 hx hb hown (hts (.classLink RX7 188 RX1) (by decide +kernel)) hW0 hK hC hv3 dX7_loseLetters_34 ?_
          rw [if_neg h_7]
          refine lv_if_eq (tgt := 50) hx hb dX7_loseLetters_37 (by decide) (fun h_11 => ?_) (fun h_11 => absurd (by decide) h_11)
          refine lv_iinc (v := (nI (jL2 + 1))) (lv' := [(2, .int (nI (jL2 + 1))), (3, .ref (ad 4 jL2)), (0, .ref h0), (1, .int a1)]) hx hb dX7_loseLetters_50 hl (k := 1) rfl (show nI jL2 + 1 = nI (jL2 + 1) from nI_1 jL2) (by decide) rfl (fun ls hl => ?_)
          refine lv_goto (tgt := 2) hx hb dX7_loseLetters_53 (by decide) ?_
          have hI2 : (sX_loseLetters_L2 a1 (k + 1) jL2 GL2) = (sX_loseLetters_L2 a1 k (jL2 + 1) G6) := by subst e6 e4; exact (if_pos h_5).trans (if_neg h_7)
          exact ih2 (jL2 + 1) G6 H locs ls (by omega) hC hS (lv_sub hl [0, 2, 3] rfl) (by rw [← hI2]; exact hex)
  refine key2 (n 4) 0 G H locs ls (by omega) hC hS (lv_sub hl [0, 1, 2] rfl) (fun H locs ls hC hS hl => ?_)
  obtain ⟨G12, e12, hC⟩ : ∃ G12 : Nat → Nat → Int32, G12 = (sX_loseLetters_L2 a1 (n 4) 0 G) ∧ cp_ (dC, dI) cI cy h0 q A ad rl L n G12 H := ⟨_, rfl, hC⟩
  have hq13 : sX_loseLetters n G a1 = G12 := by subst e12; exact rfl
  exact W.vret hx hb hr (fun t9 ht hW => ⟨⟨G12, rfl, hq13.symm, by show cp_ (dC, dI) cI cy h0 q A ad rl L n G12 t9.heap; rw [ht]; exact hC⟩, hS.F ht⟩) hS.2.2 dX7_loseLetters_56

set_option maxHeartbeats 8000000 in
set_option maxRecDepth 100000 in
theorem m_X7_takeLetters (l : Launch) (dC : Nat → ClassId) (dI : Nat → Nat → Nat) (h0 : Nat) (q : Nat → Nat) (cI : ClassId) (cy : Nat → ClassId) (A : Nat → Prop) (ad : Nat → Nat → Nat) (rl : Nat → Nat × Nat) (L : List Nat) (n : Nat → Nat) (G : Nat → Nat → Int32) (hN : nb_ n) (a1 : Int32) (i2 : Nat) (hi2 : i2 < n 3) : Met l yX7_takeLetters wsX7_takeLetters ({ frames := 3, cells := 0, slots := 0, locals := 66 }) (va_Pc [.ref h0, .int a1, .ref (ad 3 i2)] (ct_P (dC, dI) cI cy h0 q A ad rl L n G)) (va_Qi (fun r (u : Nat → Nat → Int32) => (r, u) = sX_takeLetters n G a1 i2) (fun u s' => cp_ (dC, dI) cI cy h0 q A ad rl L n u s'.heap) A) 0 0 A := by
  refine Met.ofW (cc := cX7_takeLetters) (maxL := 6) (ret := (some .int)) (by decide) rfl ?_
  intro p e s m args below meth c s₁ B hml hv
  obtain ⟨rfl, hC, hK, hW0⟩ := hv
  have hx := B.exec
  have hb := B.bytes
  have hr := B.returns
  have hts := atoms_spec (ws := wsX7_takeLetters) B.pre
  have hown : s.vm.findClass RX7 = some m.cls := findClass_of_methodNamed B.named
  have hlocks := B.notSynchronized
  have hinX0 : ∀ w ∈ u_ws RX0 TX0 11, w ∈ wsX7_takeLetters := by decide +kernel
  have hinX1 : ∀ w ∈ u_ws RX1 TX1 6, w ∈ wsX7_takeLetters := by decide +kernel
  have hinX3 : ∀ w ∈ u_ws RX3 TX3 6, w ∈ wsX7_takeLetters := by decide +kernel
  have hinX5 : ∀ w ∈ u_ws RX5 TX5 6, w ∈ wsX7_takeLetters := by decide +kernel
  have hinX7 : ∀ w ∈ u_ws RX7 TX7 14, w ∈ wsX7_takeLetters := by decide +kernel
  have hS : va_S A s.heap s.heap [] := va_S.rf
  have hl := lv_entry ([.ref h0, .int a1, .ref (ad 3 i2)]) (n := 6) (Nat.le_of_ble_eq_true rfl)
  rw [lg_entry_eq]
  generalize (lg_sl ([.ref h0, .int a1, .ref (ad 3 i2)]) ++ List.replicate (6 - (lg_sl ([.ref h0, .int a1, .ref (ad 3 i2)])).length) Slot.unset).toArray = ls at hl ⊢
  have hl : lv_has ls 6 [(0, .ref h0), (1, .int a1), (2, .ref (ad 3 i2))] := hl
  obtain ⟨H, hH, hC, hS⟩ : ∃ H, H = s.heap ∧ cp_ (dC, dI) cI cy h0 q A ad rl L n G H ∧ va_S A s.heap H [] := ⟨_, rfl, hC, hS⟩
  rw [← hH]
  generalize ([] : List Loc) = locs at hS ⊢
  refine lv_iconst (v := 0) hx hb dX7_takeLetters_0 (by decide) ?_
  refine lv_istore_n (lv' := [(3, .int 0), (0, .ref h0), (1, .int a1), (2, .ref (ad 3 i2))]) hx hb dX7_takeLetters_1 rfl hl (by decide) rfl (fun ls hl => ?_)
  refine lv_iconst (v := 0) hx hb dX7_takeLetters_2 (by decide) ?_
  refine lv_istore (lv' := [(4, .int 0), (3, .int 0), (0, .ref h0), (1, .int a1), (2, .ref (ad 3 i2))]) hx hb dX7_takeLetters_3 hl (by decide) rfl (fun ls hl => ?_)
  have key5 : ∀ (k jL5 : Nat) (GL5 : Nat → Nat → Int32) (xL5_3 : Int32) (H : Heap) (locs : List Loc) (ls : Array Slot), jL5 + k = (n 4) → cp_ (dC, dI) cI cy h0 q A ad rl L n GL5 H → va_S A s.heap H locs → lv_has ls 6 [(4, .int (nI jL5)), (3, .int xL5_3), (0, .ref h0), (1, .int a1), (2, .ref (ad 3 i2))] → (∀ (H : Heap) (locs : List Loc) (ls : Array Slot), cp_ (dC, dI) cI cy h0 q A ad rl L n ((sX_takeLetters_L5 i2 n a1 k jL5 GL5 xL5_3).1) H → va_S A s.heap H locs → lv_has ls 6 [(4, .int (nI (n 4))), (3, .int ((sX_takeLetters_L5 i2 n a1 k jL5 GL5 xL5_3).2)), (0, .ref h0), (1, .int a1), (2, .ref (ad 3 i2))] → W p l e (headSpec wsX7_takeLetters ({ frames := 3, cells := 0, slots := 0, locals := 66 })).room s m [.ref h0, .int a1, .ref (ad 3 i2)].toArray below meth c H locs 0 0 (MQ below (va_Qi (fun r (u : Nat → Nat → Int32) => (r, u) = sX_takeLetters n G a1 i2) (fun u s' => cp_ (dC, dI) cI cy h0 q A ad rl L n u s'.heap) A) [.ref h0, .int a1, .ref (ad 3 i2)].toArray s 0 0 A) (F0 m 80 ls [])) → 
      W p l e (headSpec wsX7_takeLetters ({ frames := 3, cells := 0, slots := 0, locals := 66 })).room s m [.ref h0, .int a1, .ref (ad 3 i2)].toArray below meth c H locs 0 0 (MQ below (va_Qi (fun r (u : Nat → Nat → Int32) => (r, u) = sX_takeLetters n G a1 i2) (fun u s' => cp_ (dC, dI) cI cy h0 q A ad rl L n u s'.heap) A) [.ref h0, .int a1, .ref (ad 3 i2)].toArray s 0 0 A) (F0 m 5 ls []) := by
    intro k
    induction k with
    | zero =>
      intro jL5 GL5 xL5_3 H locs ls hj hC hS hl hex
      have hj : jL5 = (n 4) := by omega
      subst jL5
      refine lv_iload hx hb dX7_takeLetters_5 (lv_at hl 0 rfl) ?_
      refine lv_aload_n hx hb dX7_takeLetters_7 rfl (lv_at hl 2 rfl) ?_
      refine cx_get hx hb hts hinX7 hown hK hC 12 (by decide) (v := .int (nI (n 4))) rfl (hts (.fieldLink RX7 165 "FurPosts" "letterCount" "I") (by decide +kernel)) dX7_takeLetters_8 ?_
      refine lv_icmp_ge (tgt := 80) hx hb dX7_takeLetters_11 (by decide) (fun h_1 => ?_) (fun h_1 => absurd (lp_ge0 (B := (n 4)) rfl) h_1)
      exact hex H locs ls hC hS (lv_sub hl [0, 1, 2, 3, 4] rfl)
    | succ k ih5 =>
      intro jL5 GL5 xL5_3 H locs ls hj hC hS hl hex
      have hj5 : jL5 < (n 4) := by omega
      refine lv_iload hx hb dX7_takeLetters_5 (lv_at hl 0 rfl) ?_
      refine lv_aload_n hx hb dX7_takeLetters_7 rfl (lv_at hl 2 rfl) ?_
      refine cx_get hx hb hts hinX7 hown hK hC 12 (by decide) (v := .int (nI (n 4))) rfl (hts (.fieldLink RX7 165 "FurPosts" "letterCount" "I") (by decide +kernel)) dX7_takeLetters_8 ?_
      refine lv_icmp_ge (tgt := 80) hx hb dX7_takeLetters_11 (by decide) (fun h_2 => absurd h_2 (lp_ge (B := (n 4)) (by omega) (by omega) rfl)) (fun h_2 => ?_)
      refine lv_aload_n hx hb dX7_takeLetters_14 rfl (lv_at hl 2 rfl) ?_
      refine lv_iload hx hb dX7_takeLetters_15 (lv_at hl 0 rfl) ?_
      refine pu_call (va_runV (As := [.int (nI jL5)]) (rest := []) ⟨hx, hb, hml, hown, hts⟩ (k_X7_letterAt l dC dI h0 q cI cy A ad rl L n GL5 hN (nI jL5)) (cwV 1 hts gX7_takeLetters_X7_letterAt rfl rfl rfl (by decide +kernel) ⟨Nat.le_of_ble_eq_true rfl, Nat.le_of_ble_eq_true rfl⟩) (ct_pre hC hK hW0) rfl rfl hl.1 rfl (lv_room (Nat.le_of_ble_eq_true rfl)) dX7_takeLetters_17 ⟨Nat.le_of_ble_eq_true rfl, Nat.le_of_ble_eq_true rfl⟩) ?_
      rw [if_neg (sp_nIn (show jL5 < n 4 by omega) (by omega)), show (nI jL5).toNatClampNeg = jL5 from nI_clamp (by omega)]
      have hv3 : jL5 < n 4 := by omega
      refine lv_astore (lv' := [(5, .ref (ad 4 jL5)), (4, .int (nI jL5)), (3, .int xL5_3), (0, .ref h0), (1, .int a1), (2, .ref (ad 3 i2))]) hx hb dX7_takeLetters_20 hl (by decide) rfl (fun ls hl => ?_)
      refine lv_aload hx hb dX7_takeLetters_22 (lv_at hl 0 rfl) ?_
      refine lv_ifnull hx hb dX7_takeLetters_24 ?_
      refine lv_aload hx hb dX7_takeLetters_27 (lv_at hl 0 rfl) ?_
      refine cl_get2 jL5 hx hb hts hinX1 hinX3 hinX5 hown hK hC hv3 (own := RX7) (index := 172) (hts (.fieldLink RX7 172 "FurPosts$Letter" "bag" "I") (by decide +kernel)) dX7_takeLetters_29 ?_
      refine lv_topi (fun v4 (e4 : v4 = GL5 41 jL5) => ?_)
      refine lv_aload_n hx hb dX7_takeLetters_32 rfl (lv_at hl 5 rfl) ?_
      refine co_get 3 i2 (C := RX0) (T := TX0) (N := 11) (ci := 0) (v := .int (GL5 14 i2)) hx hb hts hinX0 hown hK hC hi2 (fun _ h9 => h9) rfl 0 (by decide) (hts (.fieldLink RX7 175 "FurPosts$Canoe" "from" "I") (by decide +kernel)) (fun _ h9 => h9) rfl dX7_takeLetters_33 ?_
      refine lv_topi (fun v5 (e5 : v5 = GL5 14 i2) => ?_)
      refine lv_icmp_ne (tgt := 74) hx hb dX7_takeLetters_36 (by decide) (fun h_6 => ?_) (fun h_6 => ?_)
      · skip
        refine lv_iinc (v := (nI (jL5 + 1))) (lv' := [(4, .int (nI (jL5 + 1))), (5, .ref (ad 4 jL5)), (3, .int xL5_3), (0, .ref h0), (1, .int a1), (2, .ref (ad 3 i2))]) hx hb dX7_takeLetters_74 hl (k := 1) rfl (show nI jL5 + 1 = nI (jL5 + 1) from nI_1 jL5) (by decide) rfl (fun ls hl => ?_)
        refine lv_goto (tgt := 5) hx hb dX7_takeLetters_77 (by decide) ?_
        have hI5 : (sX_takeLetters_L5 i2 n a1 (k + 1) jL5 GL5 xL5_3) = (sX_takeLetters_L5 i2 n a1 k (jL5 + 1) GL5 xL5_3) := by subst e5 e4; exact (if_neg h_6)
        exact ih5 (jL5 + 1) GL5 xL5_3 H locs ls (by omega) hC hS (lv_sub hl [0, 2, 3, 4, 5] rfl) (by rw [← hI5]; exact hex)
      · skip
        refine lv_aload_n hx hb dX7_takeLetters_39 rfl (lv_at hl 3 rfl) ?_
        refine lv_aload_n hx hb dX7_takeLetters_40 rfl (lv_at hl 5 rfl) ?_
        refine co_get 3 i2 (C := RX0) (T := TX0) (N := 11) (ci := 0) (v := .int (GL5 14 i2)) hx hb hts hinX0 hown hK hC hi2 (fun _ h9 => h9) rfl 0 (by decide) (hts (.fieldLink RX7 175 "FurPosts$Canoe" "from" "I") (by decide +kernel)) (fun _ h9 => h9) rfl dX7_takeLetters_41 ?_
        refine lv_topi (fun v7 (e7 : v7 = GL5 14 i2) => ?_)
        refine lv_aload hx hb dX7_takeLetters_44 (lv_at hl 0 rfl) ?_
        refine cl_get1 jL5 hx hb hts hinX1 hinX3 hinX5 hown hK hC hv3 (own := RX7) (index := 178) (hts (.fieldLink RX7 178 "FurPosts$Letter" "to" "I") (by decide +kernel)) dX7_takeLetters_46 ?_
        refine lv_topi (fun v8 (e8 : v8 = GL5 27 jL5) => ?_)
        refine pu_call (va_runV (As := [.int v7, .int v8]) (rest := []) ⟨hx, hb, hml, hown, hts⟩ (k_X7_next l dC dI h0 q cI cy A ad rl L n GL5 hN v7 v8) (cwV 2 hts gX7_takeLetters_X7_next rfl rfl rfl (by decide +kernel) ⟨Nat.le_of_ble_eq_true rfl, Nat.le_of_ble_eq_true rfl⟩) (ct_pre hC hK hW0) rfl rfl hl.1 rfl (lv_room (Nat.le_of_ble_eq_true rfl)) dX7_takeLetters_49 ⟨Nat.le_of_ble_eq_true rfl, Nat.le_of_ble_eq_true rfl⟩) ?_
        refine lv_topi (fun r9 (e9 : r9 = sX_next n GL5 v7 v8) => ?_)
        refine lv_aload_n hx hb dX7_takeLetters_52 rfl (lv_at hl 5 rfl) ?_
        refine co_get 3 i2 (C := RX0) (T := TX0) (N := 11) (ci := 0) (v := .int (GL5 15 i2)) hx hb hts hinX0 hown hK hC hi2 (fun _ h9 => h9) rfl 1 (by decide) (hts (.fieldLink RX7 184 "FurPosts$Canoe" "to" "I") (by decide +kernel)) (fun _ h9 => h9) rfl dX7_takeLetters_53 ?_
        refine lv_topi (fun v10 (e10 : v10 = GL5 15 i2) => ?_)
        refine lv_icmp_ne (tgt := 74) hx hb dX7_takeLetters_56 (by decide) (fun h_11 => ?_) (fun h_11 => ?_)
        · skip
          refine lv_iinc (v := (nI (jL5 + 1))) (lv' := [(4, .int (nI (jL5 + 1))), (5, .ref (ad 4 jL5)), (3, .int xL5_3), (0, .ref h0), (1, .int a1), (2, .ref (ad 3 i2))]) hx hb dX7_takeLetters_74 hl (k := 1) rfl (show nI jL5 + 1 = nI (jL5 + 1) from nI_1 jL5) (by decide) rfl (fun ls hl => ?_)
          refine lv_goto (tgt := 5) hx hb dX7_takeLetters_77 (by decide) ?_
          have hI5 : (sX_takeLetters_L5 i2 n a1 (k + 1) jL5 GL5 xL5_3) = (sX_takeLetters_L5 i2 n a1 k (jL5 + 1) GL5 xL5_3) := by subst e10 e9 e8 e7 e5 e4; exact (if_pos h_6).trans (if_neg h_11)
          exact ih5 (jL5 + 1) GL5 xL5_3 H locs ls (by omega) hC hS (lv_sub hl [0, 2, 3, 4, 5] rfl) (by rw [← hI5]; exact hex)
        · skip
          refine lv_aload hx hb dX7_takeLetters_59 (lv_at hl 0 rfl) ?_
          refine lv_iconst (v := (-1)) hx hb dX7_takeLetters_61 (by decide) ?_
          refine cl_put2 jL5 hx hb hts hinX1 hinX3 hinX5 hown hK hC hS hv3 (own := RX7) (index := 172) (v := (-1)) (hts (.fieldLink RX7 172 "FurPosts$Letter" "bag" "I") (by decide +kernel)) dX7_takeLetters_62 (fun H locs hC hS => ?_)
          obtain ⟨G12, e12, hC⟩ : ∃ G12 : Nat → Nat → Int32, G12 = up2 GL5 41 jL5 (-1) ∧ cp_ (dC, dI) cI cy h0 q A ad rl L n G12 H := ⟨_, rfl, hC⟩
          refine lv_aload hx hb dX7_takeLetters_65 (lv_at hl 0 rfl) ?_
          refine lv_iload_n hx hb dX7_takeLetters_67 rfl (lv_at hl 4 rfl) ?_
          refine cl_put3 jL5 hx hb hts hinX1 hinX3 hinX5 hown hK hC hS hv3 (own := RX7) (index := 185) (v := a1) (hts (.fieldLink RX7 185 "FurPosts$Letter" "carrier" "I") (by decide +kernel)) dX7_takeLetters_68 (fun H locs hC hS => ?_)
          obtain ⟨G13, e13, hC⟩ : ∃ G13 : Nat → Nat → Int32, G13 = up2 G12 42 jL5 a1 ∧ cp_ (dC, dI) cI cy h0 q A ad rl L n G13 H := ⟨_, rfl, hC⟩
          refine lv_iinc (v := (xL5_3 + 1)) (lv' := [(3, .int (xL5_3 + 1)), (5, .ref (ad 4 jL5)), (4, .int (nI jL5)), (0, .ref h0), (1, .int a1), (2, .ref (ad 3 i2))]) hx hb dX7_takeLetters_71 hl (k := 2) rfl rfl (by decide) rfl (fun ls hl => ?_)
          refine lv_iinc (v := (nI (jL5 + 1))) (lv' := [(4, .int (nI (jL5 + 1))), (3, .int (xL5_3 + 1)), (5, .ref (ad 4 jL5)), (0, .ref h0), (1, .int a1), (2, .ref (ad 3 i2))]) hx hb dX7_takeLetters_74 hl (k := 2) rfl (show nI jL5 + 1 = nI (jL5 + 1) from nI_1 jL5) (by decide) rfl (fun ls hl => ?_)
          refine lv_goto (tgt := 5) hx hb dX7_takeLetters_77 (by decide) ?_
          have hI5 : (sX_takeLetters_L5 i2 n a1 (k + 1) jL5 GL5 xL5_3) = (sX_takeLetters_L5 i2 n a1 k (jL5 + 1) G13 (xL5_3 + 1)) := by subst e13 e12 e10 e9 e8 e7 e5 e4; exact (if_pos h_6).trans (if_pos h_11)
          exact ih5 (jL5 + 1) G13 (xL5_3 + 1) H locs ls (by omega) hC hS (lv_sub hl [0, 1, 3, 4, 5] rfl) (by rw [← hI5]; exact hex)
  refine key5 (n 4) 0 G 0 H locs ls (by omega) hC hS (lv_sub hl [0, 1, 2, 3, 4] rfl) (fun H locs ls hC hS hl => ?_)
  obtain ⟨G14, e14, hC⟩ : ∃ G14 : Nat → Nat → Int32, G14 = (sX_takeLetters_L5 i2 n a1 (n 4) 0 G 0).1 ∧ cp_ (dC, dI) cI cy h0 q A ad rl L n G14 H := ⟨_, rfl, hC⟩
  obtain ⟨v15, e15⟩ : ∃ v15 : Int32, v15 = (sX_takeLetters_L5 i2 n a1 (n 4) 0 G 0).2 := ⟨_, rfl⟩
  rw [← e15] at hl
  refine lv_iload_n hx hb dX7_takeLetters_80 rfl (lv_at hl 1 rfl) ?_
  have hq16 : sX_takeLetters n G a1 i2 = (v15, G14) := by subst e15 e14; exact rfl
  exact W.iret (v := v15) hx hb hr (fun t9 ht hW => ⟨⟨v15, G14, rfl, hq16.symm, by show cp_ (dC, dI) cI cy h0 q A ad rl L n G14 t9.heap; rw [ht]; exact hC⟩, hS.F ht⟩) hS.2.2 dX7_takeLetters_81

set_option maxHeartbeats 8000000 in
set_option maxRecDepth 100000 in
theorem m_X7_landLetters (l : Launch) (dC : Nat → ClassId) (dI : Nat → Nat → Nat) (h0 : Nat) (q : Nat → Nat) (cI : ClassId) (cy : Nat → ClassId) (A : Nat → Prop) (ad : Nat → Nat → Nat) (rl : Nat → Nat × Nat) (L : List Nat) (n : Nat → Nat) (G : Nat → Nat → Int32) (hN : nb_ n) (a1 : Int32) (a2 : Int32) (i3 : Nat) (hi3 : i3 < n 1) : Met l yX7_landLetters wsX7_landLetters ({ frames := 2, cells := 0, slots := 0, locals := 43 }) (va_Pc [.ref h0, .int a1, .int a2, .ref (ad 1 i3)] (ct_P (dC, dI) cI cy h0 q A ad rl L n G)) (va_Qv (fun u : Nat → Nat → Int32 => u = sX_landLetters n G a1 a2 i3) (fun u s' => cp_ (dC, dI) cI cy h0 q A ad rl L n u s'.heap) A) 0 0 A := by
  refine Met.ofW (cc := cX7_landLetters) (maxL := 6) (ret := none) (by decide) rfl ?_
  intro p e s m args below meth c s₁ B hml hv
  obtain ⟨rfl, hC, hK, hW0⟩ := hv
  have hx := B.exec
  have hb := B.bytes
  have hr := B.returns
  have hts := atoms_spec (ws := wsX7_landLetters) B.pre
  have hown : s.vm.findClass RX7 = some m.cls := findClass_of_methodNamed B.named
  have hlocks := B.notSynchronized
  have hinX1 : ∀ w ∈ u_ws RX1 TX1 6, w ∈ wsX7_landLetters := by decide +kernel
  have hinX3 : ∀ w ∈ u_ws RX3 TX3 6, w ∈ wsX7_landLetters := by decide +kernel
  have hinX5 : ∀ w ∈ u_ws RX5 TX5 6, w ∈ wsX7_landLetters := by decide +kernel
  have hinX7 : ∀ w ∈ u_ws RX7 TX7 14, w ∈ wsX7_landLetters := by decide +kernel
  have hS : va_S A s.heap s.heap [] := va_S.rf
  have hl := lv_entry ([.ref h0, .int a1, .int a2, .ref (ad 1 i3)]) (n := 6) (Nat.le_of_ble_eq_true rfl)
  rw [lg_entry_eq]
  generalize (lg_sl ([.ref h0, .int a1, .int a2, .ref (ad 1 i3)]) ++ List.replicate (6 - (lg_sl ([.ref h0, .int a1, .int a2, .ref (ad 1 i3)])).length) Slot.unset).toArray = ls at hl ⊢
  have hl : lv_has ls 6 [(0, .ref h0), (1, .int a1), (2, .int a2), (3, .ref (ad 1 i3))] := hl
  obtain ⟨H, hH, hC, hS⟩ : ∃ H, H = s.heap ∧ cp_ (dC, dI) cI cy h0 q A ad rl L n G H ∧ va_S A s.heap H [] := ⟨_, rfl, hC, hS⟩
  rw [← hH]
  generalize ([] : List Loc) = locs at hS ⊢
  refine lv_iconst (v := 0) hx hb dX7_landLetters_0 (by decide) ?_
  refine lv_istore (lv' := [(4, .int 0), (0, .ref h0), (1, .int a1), (2, .int a2), (3, .ref (ad 1 i3))]) hx hb dX7_landLetters_1 hl (by decide) rfl (fun ls hl => ?_)
  have key3 : ∀ (k jL3 : Nat) (GL3 : Nat → Nat → Int32) (H : Heap) (locs : List Loc) (ls : Array Slot), jL3 + k = (n 4) → cp_ (dC, dI) cI cy h0 q A ad rl L n GL3 H → va_S A s.heap H locs → lv_has ls 6 [(4, .int (nI jL3)), (0, .ref h0), (1, .int a1), (2, .int a2), (3, .ref (ad 1 i3))] → (∀ (H : Heap) (locs : List Loc) (ls : Array Slot), cp_ (dC, dI) cI cy h0 q A ad rl L n ((sX_landLetters_L3 a1 a2 n i3 k jL3 GL3)) H → va_S A s.heap H locs → lv_has ls 6 [(4, .int (nI (n 4))), (0, .ref h0), (1, .int a1), (2, .int a2), (3, .ref (ad 1 i3))] → W p l e (headSpec wsX7_landLetters ({ frames := 2, cells := 0, slots := 0, locals := 43 })).room s m [.ref h0, .int a1, .int a2, .ref (ad 1 i3)].toArray below meth c H locs 0 0 (MQ below (va_Qv (fun u : Nat → Nat → Int32 => u = sX_landLetters n G a1 a2 i3) (fun u s' => cp_ (dC, dI) cI cy h0 q A ad rl L n u s'.heap) A) [.ref h0, .int a1, .int a2, .ref (ad 1 i3)].toArray s 0 0 A) (F0 m 70 ls [])) → 
      W p l e (headSpec wsX7_landLetters ({ frames := 2, cells := 0, slots := 0, locals := 43 })).room s m [.ref h0, .int a1, .int a2, .ref (ad 1 i3)].toArray below meth c H locs 0 0 (MQ below (va_Qv (fun u : Nat → Nat → Int32 => u = sX_landLetters n G a1 a2 i3) (fun u s' => cp_ (dC, dI) cI cy h0 q A ad rl L n u s'.heap) A) [.ref h0, .int a1, .int a2, .ref (ad 1 i3)].toArray s 0 0 A) (F0 m 3 ls []) := by
    intro k
    induction k with
    | zero =>
      intro jL3 GL3 H locs ls hj hC hS hl hex
      have hj : jL3 = (n 4) := by omega
      subst jL3
      refine lv_iload hx hb dX7_landLetters_3 (lv_at hl 0 rfl) ?_
      refine lv_aload_n hx hb dX7_landLetters_5 rfl (lv_at hl 1 rfl) ?_
      refine cx_get hx hb hts hinX7 hown hK hC 12 (by decide) (v := .int (nI (n 4))) rfl (hts (.fieldLink RX7 165 "FurPosts" "letterCount" "I") (by decide +kernel)) dX7_landLetters_6 ?_
      refine lv_icmp_ge (tgt := 70) hx hb dX7_landLetters_9 (by decide) (fun h_1 => ?_) (fun h_1 => absurd (lp_ge0 (B := (n 4)) rfl) h_1)
      exact hex H locs ls hC hS (lv_sub hl [0, 1, 2, 3, 4] rfl)
    | succ k ih3 =>
      intro jL3 GL3 H locs ls hj hC hS hl hex
      have hj3 : jL3 < (n 4) := by omega
      refine lv_iload hx hb dX7_landLetters_3 (lv_at hl 0 rfl) ?_
      refine lv_aload_n hx hb dX7_landLetters_5 rfl (lv_at hl 1 rfl) ?_
      refine cx_get hx hb hts hinX7 hown hK hC 12 (by decide) (v := .int (nI (n 4))) rfl (hts (.fieldLink RX7 165 "FurPosts" "letterCount" "I") (by decide +kernel)) dX7_landLetters_6 ?_
      refine lv_icmp_ge (tgt := 70) hx hb dX7_landLetters_9 (by decide) (fun h_2 => absurd h_2 (lp_ge (B := (n 4)) (by omega) (by omega) rfl)) (fun h_2 => ?_)
      refine lv_aload_n hx hb dX7_landLetters_12 rfl (lv_at hl 1 rfl) ?_
      refine lv_iload hx hb dX7_landLetters_13 (lv_at hl 0 rfl) ?_
      refine pu_call (va_runV (As := [.int (nI jL3)]) (rest := []) ⟨hx, hb, hml, hown, hts⟩ (k_X7_letterAt l dC dI h0 q cI cy A ad rl L n GL3 hN (nI jL3)) (cwV 1 hts gX7_landLetters_X7_letterAt rfl rfl rfl (by decide +kernel) ⟨Nat.le_of_ble_eq_true rfl, Nat.le_of_ble_eq_true rfl⟩) (ct_pre hC hK hW0) rfl rfl hl.1 rfl (lv_room (Nat.le_of_ble_eq_true rfl)) dX7_landLetters_15 ⟨Nat.le_of_ble_eq_true rfl, Nat.le_of_ble_eq_true rfl⟩) ?_
      rw [if_neg (sp_nIn (show jL3 < n 4 by omega) (by omega)), show (nI jL3).toNatClampNeg = jL3 from nI_clamp (by omega)]
      have hv3 : jL3 < n 4 := by omega
      refine lv_astore (lv' := [(5, .ref (ad 4 jL3)), (4, .int (nI jL3)), (0, .ref h0), (1, .int a1), (2, .int a2), (3, .ref (ad 1 i3))]) hx hb dX7_landLetters_18 hl (by decide) rfl (fun ls hl => ?_)
      refine lv_aload hx hb dX7_landLetters_20 (lv_at hl 0 rfl) ?_
      refine lv_ifnull hx hb dX7_landLetters_22 ?_
      refine lv_aload hx hb dX7_landLetters_25 (lv_at hl 0 rfl) ?_
      refine cl_get3 jL3 hx hb hts hinX1 hinX3 hinX5 hown hK hC hv3 (own := RX7) (index := 185) (hts (.fieldLink RX7 185 "FurPosts$Letter" "carrier" "I") (by decide +kernel)) dX7_landLetters_27 ?_
      refine lv_topi (fun v4 (e4 : v4 = GL3 42 jL3) => ?_)
      refine lv_iload_n hx hb dX7_landLetters_30 rfl (lv_at hl 3 rfl) ?_
      refine lv_icmp_ne (tgt := 64) hx hb dX7_landLetters_31 (by decide) (fun h_5 => ?_) (fun h_5 => ?_)
      · skip
        refine lv_iinc (v := (nI (jL3 + 1))) (lv' := [(4, .int (nI (jL3 + 1))), (5, .ref (ad 4 jL3)), (0, .ref h0), (1, .int a1), (2, .int a2), (3, .ref (ad 1 i3))]) hx hb dX7_landLetters_64 hl (k := 1) rfl (show nI jL3 + 1 = nI (jL3 + 1) from nI_1 jL3) (by decide) rfl (fun ls hl => ?_)
        refine lv_goto (tgt := 3) hx hb dX7_landLetters_67 (by decide) ?_
        have hI3 : (sX_landLetters_L3 a1 a2 n i3 (k + 1) jL3 GL3) = (sX_landLetters_L3 a1 a2 n i3 k (jL3 + 1) GL3) := by subst e4; exact (if_neg h_5)
        exact ih3 (jL3 + 1) GL3 H locs ls (by omega) hC hS (lv_sub hl [0, 2, 3, 4, 5] rfl) (by rw [← hI3]; exact hex)
      · skip
        refine lv_aload hx hb dX7_landLetters_34 (lv_at hl 0 rfl) ?_
        refine lv_iconst (v := (-1)) hx hb dX7_landLetters_36 (by decide) ?_
        refine cl_put3 jL3 hx hb hts hinX1 hinX3 hinX5 hown hK hC hS hv3 (own := RX7) (index := 185) (v := (-1)) (hts (.fieldLink RX7 185 "FurPosts$Letter" "carrier" "I") (by decide +kernel)) dX7_landLetters_37 (fun H locs hC hS => ?_)
        obtain ⟨G6, e6, hC⟩ : ∃ G6 : Nat → Nat → Int32, G6 = up2 GL3 42 jL3 (-1) ∧ cp_ (dC, dI) cI cy h0 q A ad rl L n G6 H := ⟨_, rfl, hC⟩
        refine lv_aload hx hb dX7_landLetters_40 (lv_at hl 0 rfl) ?_
        refine cl_get1 jL3 hx hb hts hinX1 hinX3 hinX5 hown hK hC hv3 (own := RX7) (index := 178) (hts (.fieldLink RX7 178 "FurPosts$Letter" "to" "I") (by decide +kernel)) dX7_landLetters_42 ?_
        refine lv_topi (fun v7 (e7 : v7 = G6 27 jL3) => ?_)
        refine lv_iload_n hx hb dX7_landLetters_45 rfl (lv_at hl 4 rfl) ?_
        refine lv_icmp_ne (tgt := 58) hx hb dX7_landLetters_46 (by decide) (fun h_8 => ?_) (fun h_8 => ?_)
        · skip
          refine lv_aload hx hb dX7_landLetters_58 (lv_at hl 0 rfl) ?_
          refine lv_iload_n hx hb dX7_landLetters_60 rfl (lv_at hl 4 rfl) ?_
          refine cl_put2 jL3 hx hb hts hinX1 hinX3 hinX5 hown hK hC hS hv3 (own := RX7) (index := 172) (v := a2) (hts (.fieldLink RX7 172 "FurPosts$Letter" "bag" "I") (by decide +kernel)) dX7_landLetters_61 (fun H locs hC hS => ?_)
          obtain ⟨G9, e9, hC⟩ : ∃ G9 : Nat → Nat → Int32, G9 = up2 G6 41 jL3 a2 ∧ cp_ (dC, dI) cI cy h0 q A ad rl L n G9 H := ⟨_, rfl, hC⟩
          refine lv_iinc (v := (nI (jL3 + 1))) (lv' := [(4, .int (nI (jL3 + 1))), (5, .ref (ad 4 jL3)), (0, .ref h0), (1, .int a1), (2, .int a2), (3, .ref (ad 1 i3))]) hx hb dX7_landLetters_64 hl (k := 1) rfl (show nI jL3 + 1 = nI (jL3 + 1) from nI_1 jL3) (by decide) rfl (fun ls hl => ?_)
          refine lv_goto (tgt := 3) hx hb dX7_landLetters_67 (by decide) ?_
          have hI3 : (sX_landLetters_L3 a1 a2 n i3 (k + 1) jL3 GL3) = (sX_landLetters_L3 a1 a2 n i3 k (jL3 + 1) G9) := by subst e9 e7 e6 e4; exact (if_pos h_5).trans (if_neg h_8)
          exact ih3 (jL3 + 1) G9 H locs ls (by omega) hC hS (lv_sub hl [0, 2, 3, 4, 5] rfl) (by rw [← hI3]; exact hex)
        · skip
          refine lv_aload hx hb dX7_landLetters_49 (lv_at hl 0 rfl) ?_
          refine lv_aload_n hx hb dX7_landLetters_51 rfl (lv_at hl 5 rfl) ?_
          by_cases h_10a : G6 26 jL3 = 0
          · skip
            refine va_callv (va_runU (As := [.ref (ad 1 i3)]) (rest := []) ⟨hx, hb, hml, hown, hts⟩ (m_X3_readAt l dC dI h0 q cI cy A ad rl L n G6 hN jL3 hv3 h_10a i3 hi3) (va_cwA 1 hts gX7_landLetters_X3_readAt_u207X3 rfl rfl rfl (nw_de hW0) (by decide +kernel) ⟨Nat.le_of_ble_eq_true rfl, Nat.le_of_ble_eq_true rfl⟩) (ct_preO 4 jL3 (r := (RX3, TX3, 6)) (ci := 2) hC hK hW0 hv3 (fun z9 h9 => (show z9 = lq_ ad G6 jL3 from h9).trans (lq_0 h_10a)) rfl) rfl rfl hl.1 rfl (lv_room (Nat.le_of_ble_eq_true rfl)) dX7_landLetters_52 ⟨Nat.le_of_ble_eq_true rfl, Nat.le_of_ble_eq_true rfl⟩) hS (fun _ _ h => h) (fun _ h => h) (fun u11 st11 H locs ht11 hvm11 hw11 hB11 hz11 hk11 hS => ?_)
            obtain ⟨G11, e11, hC⟩ : ∃ G11 : Nat → Nat → Int32, G11 = (sX_Order_readAt n G6 jL3 i3) ∧ cp_ (dC, dI) cI cy h0 q A ad rl L n G11 H := ⟨u11, hw11, by rw [← ht11]; exact hB11⟩
            refine lv_goto (tgt := 64) hx hb dX7_landLetters_55 (by decide) ?_
            refine lv_iinc (v := (nI (jL3 + 1))) (lv' := [(4, .int (nI (jL3 + 1))), (5, .ref (ad 4 jL3)), (0, .ref h0), (1, .int a1), (2, .int a2), (3, .ref (ad 1 i3))]) hx hb dX7_landLetters_64 hl (k := 1) rfl (show nI jL3 + 1 = nI (jL3 + 1) from nI_1 jL3) (by decide) rfl (fun ls hl => ?_)
            refine lv_goto (tgt := 3) hx hb dX7_landLetters_67 (by decide) ?_
            have hI3 : (sX_landLetters_L3 a1 a2 n i3 (k + 1) jL3 GL3) = (sX_landLetters_L3 a1 a2 n i3 k (jL3 + 1) G11) := by subst e11 e7 e6 e4; exact (if_pos h_5).trans ((if_pos h_8).trans (if_pos h_10a))
            exact ih3 (jL3 + 1) G11 H locs ls (by omega) hC hS (lv_sub hl [0, 2, 3, 4, 5] rfl) (by rw [← hI3]; exact hex)
          by_cases h_10b : G6 26 jL3 = 1
          · skip
            refine va_callv (va_runU (As := [.ref (ad 1 i3)]) (rest := []) ⟨hx, hb, hml, hown, hts⟩ (m_X1_readAt l dC dI h0 q cI cy A ad rl L n G6 hN jL3 hv3 h_10b i3 hi3) (va_cwA 1 hts gX7_landLetters_X1_readAt_u207X1 rfl rfl rfl (nw_de hW0) (by decide +kernel) ⟨Nat.le_of_ble_eq_true rfl, Nat.le_of_ble_eq_true rfl⟩) (ct_preO 4 jL3 (r := (RX1, TX1, 6)) (ci := 1) hC hK hW0 hv3 (fun z9 h9 => (show z9 = lq_ ad G6 jL3 from h9).trans (lq_1 h_10b)) rfl) rfl rfl hl.1 rfl (lv_room (Nat.le_of_ble_eq_true rfl)) dX7_landLetters_52 ⟨Nat.le_of_ble_eq_true rfl, Nat.le_of_ble_eq_true rfl⟩) hS (fun _ _ h => h) (fun _ h => h) (fun u12 st12 H locs ht12 hvm12 hw12 hB12 hz12 hk12 hS => ?_)
            obtain ⟨G12, e12, hC⟩ : ∃ G12 : Nat → Nat → Int32, G12 = (sX_Debt_readAt n G6 jL3 i3) ∧ cp_ (dC, dI) cI cy h0 q A ad rl L n G12 H := ⟨u12, hw12, by rw [← ht12]; exact hB12⟩
            refine lv_goto (tgt := 64) hx hb dX7_landLetters_55 (by decide) ?_
            refine lv_iinc (v := (nI (jL3 + 1))) (lv' := [(4, .int (nI (jL3 + 1))), (5, .ref (ad 4 jL3)), (0, .ref h0), (1, .int a1), (2, .int a2), (3, .ref (ad 1 i3))]) hx hb dX7_landLetters_64 hl (k := 1) rfl (show nI jL3 + 1 = nI (jL3 + 1) from nI_1 jL3) (by decide) rfl (fun ls hl => ?_)
            refine lv_goto (tgt := 3) hx hb dX7_landLetters_67 (by decide) ?_
            have hI3 : (sX_landLetters_L3 a1 a2 n i3 (k + 1) jL3 GL3) = (sX_landLetters_L3 a1 a2 n i3 k (jL3 + 1) G12) := by subst e12 e7 e6 e4; exact (if_pos h_5).trans ((if_pos h_8).trans ((if_neg h_10a).trans (if_pos h_10b)))
            exact ih3 (jL3 + 1) G12 H locs ls (by omega) hC hS (lv_sub hl [0, 2, 3, 4, 5] rfl) (by rw [← hI3]; exact hex)
          · skip
            refine va_callv (va_runU (As := [.ref (ad 1 i3)]) (rest := []) ⟨hx, hb, hml, hown, hts⟩ (m_X5_readAt l dC dI h0 q cI cy A ad rl L n G6 hN jL3 hv3 h_10a h_10b i3 hi3) (va_cwA 1 hts gX7_landLetters_X5_readAt_u207X5 rfl rfl rfl (nw_de hW0) (by decide +kernel) ⟨Nat.le_of_ble_eq_true rfl, Nat.le_of_ble_eq_true rfl⟩) (ct_preO 4 jL3 (r := (RX5, TX5, 6)) (ci := 4) hC hK hW0 hv3 (fun z9 h9 => (show z9 = lq_ ad G6 jL3 from h9).trans (lq_2 h_10a h_10b)) rfl) rfl rfl hl.1 rfl (lv_room (Nat.le_of_ble_eq_true rfl)) dX7_landLetters_52 ⟨Nat.le_of_ble_eq_true rfl, Nat.le_of_ble_eq_true rfl⟩) hS (fun _ _ h => h) (fun _ h => h) (fun u13 st13 H locs ht13 hvm13 hw13 hB13 hz13 hk13 hS => ?_)
            obtain ⟨G13, e13, hC⟩ : ∃ G13 : Nat → Nat → Int32, G13 = (sX_Report_readAt n G6 jL3 i3) ∧ cp_ (dC, dI) cI cy h0 q A ad rl L n G13 H := ⟨u13, hw13, by rw [← ht13]; exact hB13⟩
            refine lv_goto (tgt := 64) hx hb dX7_landLetters_55 (by decide) ?_
            refine lv_iinc (v := (nI (jL3 + 1))) (lv' := [(4, .int (nI (jL3 + 1))), (5, .ref (ad 4 jL3)), (0, .ref h0), (1, .int a1), (2, .int a2), (3, .ref (ad 1 i3))]) hx hb dX7_landLetters_64 hl (k := 1) rfl (show nI jL3 + 1 = nI (jL3 + 1) from nI_1 jL3) (by decide) rfl (fun ls hl => ?_)
            refine lv_goto (tgt := 3) hx hb dX7_landLetters_67 (by decide) ?_
            have hI3 : (sX_landLetters_L3 a1 a2 n i3 (k + 1) jL3 GL3) = (sX_landLetters_L3 a1 a2 n i3 k (jL3 + 1) G13) := by subst e13 e7 e6 e4; exact (if_pos h_5).trans ((if_pos h_8).trans ((if_neg h_10a).trans (if_neg h_10b)))
            exact ih3 (jL3 + 1) G13 H locs ls (by omega) hC hS (lv_sub hl [0, 2, 3, 4, 5] rfl) (by rw [← hI3]; exact hex)
  refine key3 (n 4) 0 G H locs ls (by omega) hC hS (lv_sub hl [0, 1, 2, 3, 4] rfl) (fun H locs ls hC hS hl => ?_)
  obtain ⟨G14, e14, hC⟩ : ∃ G14 : Nat → Nat → Int32, G14 = (sX_landLetters_L3 a1 a2 n i3 (n 4) 0 G) ∧ cp_ (dC, dI) cI cy h0 q A ad rl L n G14 H := ⟨_, rfl, hC⟩
  have hq15 : sX_landLetters n G a1 a2 i3 = G14 := by subst e14; exact rfl
  exact W.vret hx hb hr (fun t9 ht hW => ⟨⟨G14, rfl, hq15.symm, by show cp_ (dC, dI) cI cy h0 q A ad rl L n G14 t9.heap; rw [ht]; exact hC⟩, hS.F ht⟩) hS.2.2 dX7_landLetters_70

set_option maxHeartbeats 8000000 in
set_option maxRecDepth 100000 in
theorem m_X7_moveCanoe (l : Launch) (dC : Nat → ClassId) (dI : Nat → Nat → Nat) (h0 : Nat) (q : Nat → Nat) (cI : ClassId) (cy : Nat → ClassId) (A : Nat → Prop) (ad : Nat → Nat → Nat) (rl : Nat → Nat × Nat) (L : List Nat) (n : Nat → Nat) (G : Nat → Nat → Int32) (hN : nb_ n) (a1 : Int32) : Met l yX7_moveCanoe wsX7_moveCanoe ({ frames := 3, cells := 0, slots := 0, locals := 68 }) (va_Pc [.ref h0, .int a1] (ct_P (dC, dI) cI cy h0 q A ad rl L n G)) (va_Qv (fun u : Nat → Nat → Int32 => u = sX_moveCanoe n G a1) (fun u s' => cp_ (dC, dI) cI cy h0 q A ad rl L n u s'.heap) A) 0 0 A := by
  refine Met.ofW (cc := cX7_moveCanoe) (maxL := 5) (ret := none) (by decide) rfl ?_
  intro p e s m args below meth c s₁ B hml hv
  obtain ⟨rfl, hC, hK, hW0⟩ := hv
  have hx := B.exec
  have hb := B.bytes
  have hr := B.returns
  have hts := atoms_spec (ws := wsX7_moveCanoe) B.pre
  have hown : s.vm.findClass RX7 = some m.cls := findClass_of_methodNamed B.named
  have hlocks := B.notSynchronized
  have hinX0 : ∀ w ∈ u_ws RX0 TX0 11, w ∈ wsX7_moveCanoe := by decide +kernel
  have hinX7 : ∀ w ∈ u_ws RX7 TX7 14, w ∈ wsX7_moveCanoe := by decide +kernel
  have hS : va_S A s.heap s.heap [] := va_S.rf
  have hl := lv_entry ([.ref h0, .int a1]) (n := 5) (Nat.le_of_ble_eq_true rfl)
  rw [lg_entry_eq]
  generalize (lg_sl ([.ref h0, .int a1]) ++ List.replicate (5 - (lg_sl ([.ref h0, .int a1])).length) Slot.unset).toArray = ls at hl ⊢
  have hl : lv_has ls 5 [(0, .ref h0), (1, .int a1)] := hl
  obtain ⟨H, hH, hC, hS⟩ : ∃ H, H = s.heap ∧ cp_ (dC, dI) cI cy h0 q A ad rl L n G H ∧ va_S A s.heap H [] := ⟨_, rfl, hC, hS⟩
  rw [← hH]
  generalize ([] : List Loc) = locs at hS ⊢
  refine lv_aload_n hx hb dX7_moveCanoe_0 rfl (lv_at hl 0 rfl) ?_
  refine lv_iload_n hx hb dX7_moveCanoe_1 rfl (lv_at hl 1 rfl) ?_
  refine pu_call (va_runV (As := [.int a1]) (rest := []) ⟨hx, hb, hml, hown, hts⟩ (k_X7_canoeAt l dC dI h0 q cI cy A ad rl L n G hN a1) (cwV 1 hts gX7_moveCanoe_X7_canoeAt rfl rfl rfl (by decide +kernel) ⟨Nat.le_of_ble_eq_true rfl, Nat.le_of_ble_eq_true rfl⟩) (ct_pre hC hK hW0) rfl rfl hl.1 rfl (lv_room (Nat.le_of_ble_eq_true rfl)) dX7_moveCanoe_2 ⟨Nat.le_of_ble_eq_true rfl, Nat.le_of_ble_eq_true rfl⟩) ?_
  by_cases h_1 : (sp_in a1 0 ((nI (n 3)) - 1)) = 0
  · rw [if_pos h_1]
    refine lv_astore_nN (lv' := [(2, .null), (0, .ref h0), (1, .int a1)]) hx hb dX7_moveCanoe_5 rfl hl (by decide) rfl (fun ls hl => ?_)
    refine lv_aload_nN hx hb dX7_moveCanoe_6 rfl (lv_at hl 0 rfl) ?_
    refine lv_ifnullN (tgt := 17) hx hb dX7_moveCanoe_7 (by decide) ?_
    have hq2 : sX_moveCanoe n G a1 = G := by exact (if_pos h_1)
    exact W.vret hx hb hr (fun t9 ht hW => ⟨⟨G, rfl, hq2.symm, by show cp_ (dC, dI) cI cy h0 q A ad rl L n G t9.heap; rw [ht]; exact hC⟩, hS.F ht⟩) hS.2.2 dX7_moveCanoe_17
  · rw [if_neg h_1]
    have hv1 := sp_live h_1 (by omega)
    refine lv_astore_n (lv' := [(2, .ref (ad 3 a1.toNatClampNeg)), (0, .ref h0), (1, .int a1)]) hx hb dX7_moveCanoe_5 rfl hl (by decide) rfl (fun ls hl => ?_)
    refine lv_aload_n hx hb dX7_moveCanoe_6 rfl (lv_at hl 0 rfl) ?_
    refine lv_ifnull hx hb dX7_moveCanoe_7 ?_
    refine lv_aload_n hx hb dX7_moveCanoe_10 rfl (lv_at hl 0 rfl) ?_
    refine co_get 3 a1.toNatClampNeg (C := RX0) (T := TX0) (N := 11) (ci := 0) (v := .int (G 18 a1.toNatClampNeg)) hx hb hts hinX0 hown hK hC hv1 (fun _ h9 => h9) rfl 9 (by decide) (hts (.fieldLink RX7 142 "FurPosts$Canoe" "state" "I") (by decide +kernel)) (fun _ h9 => h9) rfl dX7_moveCanoe_11 ?_
    refine lv_topi (fun v3 (e3 : v3 = G 18 a1.toNatClampNeg) => ?_)
    refine lv_if_eq (tgt := 18) hx hb dX7_moveCanoe_14 (by decide) (fun h_4 => ?_) (fun h_4 => ?_)
    · skip
      refine lv_aload_n hx hb dX7_moveCanoe_18 rfl (lv_at hl 1 rfl) ?_
      refine lv_aload_n hx hb dX7_moveCanoe_19 rfl (lv_at hl 0 rfl) ?_
      refine co_get 3 a1.toNatClampNeg (C := RX0) (T := TX0) (N := 11) (ci := 0) (v := .int (G 16 a1.toNatClampNeg)) hx hb hts hinX0 hown hK hC hv1 (fun _ h9 => h9) rfl 2 (by decide) (hts (.fieldLink RX7 193 "FurPosts$Canoe" "way" "I") (by decide +kernel)) (fun _ h9 => h9) rfl dX7_moveCanoe_20 ?_
      refine lv_topi (fun v5 (e5 : v5 = G 16 a1.toNatClampNeg) => ?_)
      refine pu_call (va_runV (As := [.int v5]) (rest := []) ⟨hx, hb, hml, hown, hts⟩ (k_X7_wayAt l dC dI h0 q cI cy A ad rl L n G hN v5) (cwV 1 hts gX7_moveCanoe_X7_wayAt rfl rfl rfl (by decide +kernel) ⟨Nat.le_of_ble_eq_true rfl, Nat.le_of_ble_eq_true rfl⟩) (ct_pre hC hK hW0) rfl rfl hl.1 rfl (lv_room (Nat.le_of_ble_eq_true rfl)) dX7_moveCanoe_23 ⟨Nat.le_of_ble_eq_true rfl, Nat.le_of_ble_eq_true rfl⟩) ?_
      by_cases h_6 : (sp_in v5 0 ((nI (n 2)) - 1)) = 0
      · rw [if_pos h_6]
        refine lv_astore_nN (lv' := [(3, .null), (2, .ref (ad 3 a1.toNatClampNeg)), (0, .ref h0), (1, .int a1)]) hx hb dX7_moveCanoe_26 rfl hl (by decide) rfl (fun ls hl => ?_)
        refine lv_aload_n hx hb dX7_moveCanoe_27 rfl (lv_at hl 2 rfl) ?_
        refine lv_aload_n hx hb dX7_moveCanoe_28 rfl (lv_at hl 1 rfl) ?_
        refine co_get 3 a1.toNatClampNeg (C := RX0) (T := TX0) (N := 11) (ci := 0) (v := .int (G 15 a1.toNatClampNeg)) hx hb hts hinX0 hown hK hC hv1 (fun _ h9 => h9) rfl 1 (by decide) (hts (.fieldLink RX7 184 "FurPosts$Canoe" "to" "I") (by decide +kernel)) (fun _ h9 => h9) rfl dX7_moveCanoe_29 ?_
        refine lv_topi (fun v7 (e7 : v7 = G 15 a1.toNatClampNeg) => ?_)
        refine pu_call (va_runV (As := [.int v7]) (rest := []) ⟨hx, hb, hml, hown, hts⟩ (k_X7_postAt l dC dI h0 q cI cy A ad rl L n G hN v7) (cwV 1 hts gX7_moveCanoe_X7_postAt rfl rfl rfl (by decide +kernel) ⟨Nat.le_of_ble_eq_true rfl, Nat.le_of_ble_eq_true rfl⟩) (ct_pre hC hK hW0) rfl rfl hl.1 rfl (lv_room (Nat.le_of_ble_eq_true rfl)) dX7_moveCanoe_32 ⟨Nat.le_of_ble_eq_true rfl, Nat.le_of_ble_eq_true rfl⟩) ?_
        by_cases h_8 : (sp_in v7 0 ((nI (n 1)) - 1)) = 0
        · rw [if_pos h_8]
          refine lv_astoreN (lv' := [(4, .null), (3, .null), (2, .ref (ad 3 a1.toNatClampNeg)), (0, .ref h0), (1, .int a1)]) hx hb dX7_moveCanoe_35 hl (by decide) rfl (fun ls hl => ?_)
          refine lv_aload_nN hx hb dX7_moveCanoe_37 rfl (lv_at hl 1 rfl) ?_
          refine lv_ifnullN (tgt := 57) hx hb dX7_moveCanoe_38 (by decide) ?_
          have hq9 : sX_moveCanoe n G a1 = G := by subst e7 e5 e3; exact (if_neg h_1).trans ((if_pos h_4).trans ((if_pos h_6).trans (if_pos h_8)))
          exact W.vret hx hb hr (fun t9 ht hW => ⟨⟨G, rfl, hq9.symm, by show cp_ (dC, dI) cI cy h0 q A ad rl L n G t9.heap; rw [ht]; exact hC⟩, hS.F ht⟩) hS.2.2 dX7_moveCanoe_57
        · rw [if_neg h_8]
          have hv8 := sp_live h_8 (by omega)
          refine lv_astore (lv' := [(4, .ref (ad 1 v7.toNatClampNeg)), (3, .null), (2, .ref (ad 3 a1.toNatClampNeg)), (0, .ref h0), (1, .int a1)]) hx hb dX7_moveCanoe_35 hl (by decide) rfl (fun ls hl => ?_)
          refine lv_aload_nN hx hb dX7_moveCanoe_37 rfl (lv_at hl 1 rfl) ?_
          refine lv_ifnullN (tgt := 57) hx hb dX7_moveCanoe_38 (by decide) ?_
          have hq10 : sX_moveCanoe n G a1 = G := by subst e7 e5 e3; exact (if_neg h_1).trans ((if_pos h_4).trans ((if_pos h_6).trans (if_neg h_8)))
          exact W.vret hx hb hr (fun t9 ht hW => ⟨⟨G, rfl, hq10.symm, by show cp_ (dC, dI) cI cy h0 q A ad rl L n G t9.heap; rw [ht]; exact hC⟩, hS.F ht⟩) hS.2.2 dX7_moveCanoe_57
      · rw [if_neg h_6]
        have hv6 := sp_live h_6 (by omega)
        refine lv_astore_n (lv' := [(3, .ref (ad 2 v5.toNatClampNeg)), (2, .ref (ad 3 a1.toNatClampNeg)), (0, .ref h0), (1, .int a1)]) hx hb dX7_moveCanoe_26 rfl hl (by decide) rfl (fun ls hl => ?_)
        refine lv_aload_n hx hb dX7_moveCanoe_27 rfl (lv_at hl 2 rfl) ?_
        refine lv_aload_n hx hb dX7_moveCanoe_28 rfl (lv_at hl 1 rfl) ?_
        refine co_get 3 a1.toNatClampNeg (C := RX0) (T := TX0) (N := 11) (ci := 0) (v := .int (G 15 a1.toNatClampNeg)) hx hb hts hinX0 hown hK hC hv1 (fun _ h9 => h9) rfl 1 (by decide) (hts (.fieldLink RX7 184 "FurPosts$Canoe" "to" "I") (by decide +kernel)) (fun _ h9 => h9) rfl dX7_moveCanoe_29 ?_
        refine lv_topi (fun v11 (e11 : v11 = G 15 a1.toNatClampNeg) => ?_)
        refine pu_call (va_runV (As := [.int v11]) (rest := []) ⟨hx, hb, hml, hown, hts⟩ (k_X7_postAt l dC dI h0 q cI cy A ad rl L n G hN v11) (cwV 1 hts gX7_moveCanoe_X7_postAt rfl rfl rfl (by decide +kernel) ⟨Nat.le_of_ble_eq_true rfl, Nat.le_of_ble_eq_true rfl⟩) (ct_pre hC hK hW0) rfl rfl hl.1 rfl (lv_room (Nat.le_of_ble_eq_true rfl)) dX7_moveCanoe_32 ⟨Nat.le_of_ble_eq_true rfl, Nat.le_of_ble_eq_true rfl⟩) ?_
        by_cases h_12 : (sp_in v11 0 ((nI (n 1)) - 1)) = 0
        · rw [if_pos h_12]
          refine lv_astoreN (lv' := [(4, .null), (3, .ref (ad 2 v5.toNatClampNeg)), (2, .ref (ad 3 a1.toNatClampNeg)), (0, .ref h0), (1, .int a1)]) hx hb dX7_moveCanoe_35 hl (by decide) rfl (fun ls hl => ?_)
          refine lv_aload_n hx hb dX7_moveCanoe_37 rfl (lv_at hl 1 rfl) ?_
          refine lv_ifnull hx hb dX7_moveCanoe_38 ?_
          refine lv_aloadN hx hb dX7_moveCanoe_41 (lv_at hl 0 rfl) ?_
          refine lv_ifnullN (tgt := 57) hx hb dX7_moveCanoe_43 (by decide) ?_
          have hq13 : sX_moveCanoe n G a1 = G := by subst e11 e5 e3; exact (if_neg h_1).trans ((if_pos h_4).trans ((if_neg h_6).trans (if_pos h_12)))
          exact W.vret hx hb hr (fun t9 ht hW => ⟨⟨G, rfl, hq13.symm, by show cp_ (dC, dI) cI cy h0 q A ad rl L n G t9.heap; rw [ht]; exact hC⟩, hS.F ht⟩) hS.2.2 dX7_moveCanoe_57
        · rw [if_neg h_12]
          have hv12 := sp_live h_12 (by omega)
          refine lv_astore (lv' := [(4, .ref (ad 1 v11.toNatClampNeg)), (3, .ref (ad 2 v5.toNatClampNeg)), (2, .ref (ad 3 a1.toNatClampNeg)), (0, .ref h0), (1, .int a1)]) hx hb dX7_moveCanoe_35 hl (by decide) rfl (fun ls hl => ?_)
          refine lv_aload_n hx hb dX7_moveCanoe_37 rfl (lv_at hl 1 rfl) ?_
          refine lv_ifnull hx hb dX7_moveCanoe_38 ?_
          refine lv_aload hx hb dX7_moveCanoe_41 (lv_at hl 0 rfl) ?_
          refine lv_ifnull hx hb dX7_moveCanoe_43 ?_
          refine lv_aload_n hx hb dX7_moveCanoe_46 rfl (lv_at hl 1 rfl) ?_
          refine lv_aload_n hx hb dX7_moveCanoe_47 rfl (lv_at hl 3 rfl) ?_
          refine cx_get hx hb hts hinX7 hown hK hC 8 (by decide) (v := .int (nI (n 0))) rfl (hts (.fieldLink RX7 103 "FurPosts" "now" "I") (by decide +kernel)) dX7_moveCanoe_48 ?_
          refine pu_call (va_runV (As := [.int (nI (n 0))]) (rest := []) ⟨hx, hb, hml, hown, hts⟩ (k_X6_isOpenOn l dC dI h0 q cI cy A ad rl L n G hN v5.toNatClampNeg hv6 (nI (n 0))) (cwV 1 hts gX7_moveCanoe_X6_isOpenOn rfl rfl rfl (by decide +kernel) ⟨Nat.le_of_ble_eq_true rfl, Nat.le_of_ble_eq_true rfl⟩) (ct_preO 2 v5.toNatClampNeg (r := (RX6, TX6, 6)) (ci := 5) hC hK hW0 hv6 (fun _ h9 => h9) rfl) rfl rfl hl.1 rfl (lv_room (Nat.le_of_ble_eq_true rfl)) dX7_moveCanoe_51 ⟨Nat.le_of_ble_eq_true rfl, Nat.le_of_ble_eq_true rfl⟩) ?_
          refine lv_topi (fun r14 (e14 : r14 = sX_Way_isOpenOn n G v5.toNatClampNeg (nI (n 0))) => ?_)
          refine lv_if_ne (tgt := 58) hx hb dX7_moveCanoe_54 (by decide) (fun h_15 => ?_) (fun h_15 => ?_)
          · skip
            refine lv_aload_n hx hb dX7_moveCanoe_58 rfl (lv_at hl 2 rfl) ?_
            refine lv_dup hx hb dX7_moveCanoe_59 rfl ?_
            refine co_get 3 a1.toNatClampNeg (C := RX0) (T := TX0) (N := 11) (ci := 0) (v := .int (G 17 a1.toNatClampNeg)) hx hb hts hinX0 hown hK hC hv1 (fun _ h9 => h9) rfl 7 (by decide) (hts (.fieldLink RX7 145 "FurPosts$Canoe" "daysToGo" "I") (by decide +kernel)) (fun _ h9 => h9) rfl dX7_moveCanoe_60 ?_
            refine lv_topi (fun v16 (e16 : v16 = G 17 a1.toNatClampNeg) => ?_)
            refine lv_iconst (v := 1) hx hb dX7_moveCanoe_63 (by decide) ?_
            refine lv_isub hx hb dX7_moveCanoe_64 ?_
            refine cc_put17 a1.toNatClampNeg hx hb hts hinX0 hown hK hC hS hv1 (v := (v16 - 1)) (hts (.fieldLink RX7 145 "FurPosts$Canoe" "daysToGo" "I") (by decide +kernel)) dX7_moveCanoe_65 (fun H locs hC hS => ?_)
            obtain ⟨G17, e17, hC⟩ : ∃ G17 : Nat → Nat → Int32, G17 = up2 G 17 a1.toNatClampNeg (v16 - 1) ∧ cp_ (dC, dI) cI cy h0 q A ad rl L n G17 H := ⟨_, rfl, hC⟩
            refine lv_aload_n hx hb dX7_moveCanoe_68 rfl (lv_at hl 2 rfl) ?_
            refine co_get 3 a1.toNatClampNeg (C := RX0) (T := TX0) (N := 11) (ci := 0) (v := .int (G17 17 a1.toNatClampNeg)) hx hb hts hinX0 hown hK hC hv1 (fun _ h9 => h9) rfl 7 (by decide) (hts (.fieldLink RX7 145 "FurPosts$Canoe" "daysToGo" "I") (by decide +kernel)) (fun _ h9 => h9) rfl dX7_moveCanoe_69 ?_
            refine lv_topi (fun v18 (e18 : v18 = G17 17 a1.toNatClampNeg) => ?_)
            refine lv_if_ne (tgt := 93) hx hb dX7_moveCanoe_72 (by decide) (fun h_19 => ?_) (fun h_19 => ?_)
            · skip
              have hq20 : sX_moveCanoe n G a1 = G17 := by subst e18 e17 e16 e14 e11 e5 e3; exact (if_neg h_1).trans ((if_pos h_4).trans ((if_neg h_6).trans ((if_neg h_12).trans ((if_neg h_15).trans (if_neg h_19)))))
              exact W.vret hx hb hr (fun t9 ht hW => ⟨⟨G17, rfl, hq20.symm, by show cp_ (dC, dI) cI cy h0 q A ad rl L n G17 t9.heap; rw [ht]; exact hC⟩, hS.F ht⟩) hS.2.2 dX7_moveCanoe_93
            · skip
              refine lv_aload_n hx hb dX7_moveCanoe_75 rfl (lv_at hl 3 rfl) ?_
              refine lv_aload_n hx hb dX7_moveCanoe_76 rfl (lv_at hl 2 rfl) ?_
              refine lv_aload hx hb dX7_moveCanoe_77 (lv_at hl 0 rfl) ?_
              refine va_callv (va_runV (As := [.ref (ad 3 a1.toNatClampNeg), .ref (ad 1 v11.toNatClampNeg)]) (rest := []) ⟨hx, hb, hml, hown, hts⟩ (m_X7_landCanoe l dC dI h0 q cI cy A ad rl L n G17 hN a1.toNatClampNeg hv1 v11.toNatClampNeg hv12) (cwV 2 hts gX7_moveCanoe_X7_landCanoe rfl rfl rfl (by decide +kernel) ⟨Nat.le_of_ble_eq_true rfl, Nat.le_of_ble_eq_true rfl⟩) (ct_pre hC hK hW0) rfl rfl hl.1 rfl (lv_room (Nat.le_of_ble_eq_true rfl)) dX7_moveCanoe_79 ⟨Nat.le_of_ble_eq_true rfl, Nat.le_of_ble_eq_true rfl⟩) hS (fun _ _ h => h) (fun _ h => h) (fun u21 st21 H locs ht21 hvm21 hw21 hB21 hz21 hk21 hS => ?_)
              obtain ⟨G21, e21, hC⟩ : ∃ G21 : Nat → Nat → Int32, G21 = (sX_landCanoe n G17 a1.toNatClampNeg v11.toNatClampNeg) ∧ cp_ (dC, dI) cI cy h0 q A ad rl L n G21 H := ⟨u21, hw21, by rw [← ht21]; exact hB21⟩
              refine lv_aload_n hx hb dX7_moveCanoe_82 rfl (lv_at hl 3 rfl) ?_
              refine lv_iload_n hx hb dX7_moveCanoe_83 rfl (lv_at hl 4 rfl) ?_
              refine lv_aload_n hx hb dX7_moveCanoe_84 rfl (lv_at hl 2 rfl) ?_
              refine co_get 3 a1.toNatClampNeg (C := RX0) (T := TX0) (N := 11) (ci := 0) (v := .int (G21 15 a1.toNatClampNeg)) hx hb hts hinX0 hown hK hC hv1 (fun _ h9 => h9) rfl 1 (by decide) (hts (.fieldLink RX7 184 "FurPosts$Canoe" "to" "I") (by decide +kernel)) (fun _ h9 => h9) rfl dX7_moveCanoe_85 ?_
              refine lv_topi (fun v22 (e22 : v22 = G21 15 a1.toNatClampNeg) => ?_)
              refine lv_aload hx hb dX7_moveCanoe_88 (lv_at hl 0 rfl) ?_
              refine va_callv (va_runV (As := [.int a1, .int v22, .ref (ad 1 v11.toNatClampNeg)]) (rest := []) ⟨hx, hb, hml, hown, hts⟩ (m_X7_landLetters l dC dI h0 q cI cy A ad rl L n G21 hN a1 v22 v11.toNatClampNeg hv12) (cwV 3 hts gX7_moveCanoe_X7_landLetters rfl rfl rfl (by decide +kernel) ⟨Nat.le_of_ble_eq_true rfl, Nat.le_of_ble_eq_true rfl⟩) (ct_pre hC hK hW0) rfl rfl hl.1 rfl (lv_room (Nat.le_of_ble_eq_true rfl)) dX7_moveCanoe_90 ⟨Nat.le_of_ble_eq_true rfl, Nat.le_of_ble_eq_true rfl⟩) hS (fun _ _ h => h) (fun _ h => h) (fun u23 st23 H locs ht23 hvm23 hw23 hB23 hz23 hk23 hS => ?_)
              obtain ⟨G23, e23, hC⟩ : ∃ G23 : Nat → Nat → Int32, G23 = (sX_landLetters n G21 a1 v22 v11.toNatClampNeg) ∧ cp_ (dC, dI) cI cy h0 q A ad rl L n G23 H := ⟨u23, hw23, by rw [← ht23]; exact hB23⟩
              have hq24 : sX_moveCanoe n G a1 = G23 := by subst e23 e22 e21 e18 e17 e16 e14 e11 e5 e3; exact (if_neg h_1).trans ((if_pos h_4).trans ((if_neg h_6).trans ((if_neg h_12).trans ((if_neg h_15).trans (if_pos h_19)))))
              exact W.vret hx hb hr (fun t9 ht hW => ⟨⟨G23, rfl, hq24.symm, by show cp_ (dC, dI) cI cy h0 q A ad rl L n G23 t9.heap; rw [ht]; exact hC⟩, hS.F ht⟩) hS.2.2 dX7_moveCanoe_93
          · skip
            have hq25 : sX_moveCanoe n G a1 = G := by subst e14 e11 e5 e3; exact (if_neg h_1).trans ((if_pos h_4).trans ((if_neg h_6).trans ((if_neg h_12).trans (if_pos h_15))))
            exact W.vret hx hb hr (fun t9 ht hW => ⟨⟨G, rfl, hq25.symm, by show cp_ (dC, dI) cI cy h0 q A ad rl L n G t9.heap; rw [ht]; exact hC⟩, hS.F ht⟩) hS.2.2 dX7_moveCanoe_57
    · skip
      have hq26 : sX_moveCanoe n G a1 = G := by subst e3; exact (if_neg h_1).trans (if_neg h_4)
      exact W.vret hx hb hr (fun t9 ht hW => ⟨⟨G, rfl, hq26.symm, by show cp_ (dC, dI) cI cy h0 q A ad rl L n G t9.heap; rw [ht]; exact hC⟩, hS.F ht⟩) hS.2.2 dX7_moveCanoe_17

set_option maxHeartbeats 8000000 in
set_option maxRecDepth 100000 in
theorem m_X7_lose (l : Launch) (dC : Nat → ClassId) (dI : Nat → Nat → Nat) (h0 : Nat) (q : Nat → Nat) (cI : ClassId) (cy : Nat → ClassId) (A : Nat → Prop) (ad : Nat → Nat → Nat) (rl : Nat → Nat × Nat) (L : List Nat) (n : Nat → Nat) (G : Nat → Nat → Int32) (hN : nb_ n) (a1 : Int32) : Met l yX7_lose wsX7_lose ({ frames := 2, cells := 0, slots := 0, locals := 44 }) (va_Pc [.ref h0, .int a1] (ct_P (dC, dI) cI cy h0 q A ad rl L n G)) (va_Qi (fun r (u : Nat → Nat → Int32) => (r, u) = sX_lose n G a1) (fun u s' => cp_ (dC, dI) cI cy h0 q A ad rl L n u s'.heap) A) 0 0 A := by
  refine Met.ofW (cc := cX7_lose) (maxL := 5) (ret := (some .int)) (by decide) rfl ?_
  intro p e s m args below meth c s₁ B hml hv
  obtain ⟨rfl, hC, hK, hW0⟩ := hv
  have hx := B.exec
  have hb := B.bytes
  have hr := B.returns
  have hts := atoms_spec (ws := wsX7_lose) B.pre
  have hown : s.vm.findClass RX7 = some m.cls := findClass_of_methodNamed B.named
  have hlocks := B.notSynchronized
  have hinX0 : ∀ w ∈ u_ws RX0 TX0 11, w ∈ wsX7_lose := by decide +kernel
  have hinX7 : ∀ w ∈ u_ws RX7 TX7 14, w ∈ wsX7_lose := by decide +kernel
  have hS : va_S A s.heap s.heap [] := va_S.rf
  have hl := lv_entry ([.ref h0, .int a1]) (n := 5) (Nat.le_of_ble_eq_true rfl)
  rw [lg_entry_eq]
  generalize (lg_sl ([.ref h0, .int a1]) ++ List.replicate (5 - (lg_sl ([.ref h0, .int a1])).length) Slot.unset).toArray = ls at hl ⊢
  have hl : lv_has ls 5 [(0, .ref h0), (1, .int a1)] := hl
  obtain ⟨H, hH, hC, hS⟩ : ∃ H, H = s.heap ∧ cp_ (dC, dI) cI cy h0 q A ad rl L n G H ∧ va_S A s.heap H [] := ⟨_, rfl, hC, hS⟩
  rw [← hH]
  generalize ([] : List Loc) = locs at hS ⊢
  refine lv_aload_n hx hb dX7_lose_0 rfl (lv_at hl 0 rfl) ?_
  refine lv_iload_n hx hb dX7_lose_1 rfl (lv_at hl 1 rfl) ?_
  refine pu_call (va_runV (As := [.int a1]) (rest := []) ⟨hx, hb, hml, hown, hts⟩ (k_X7_canoeAt l dC dI h0 q cI cy A ad rl L n G hN a1) (cwV 1 hts gX7_lose_X7_canoeAt rfl rfl rfl (by decide +kernel) ⟨Nat.le_of_ble_eq_true rfl, Nat.le_of_ble_eq_true rfl⟩) (ct_pre hC hK hW0) rfl rfl hl.1 rfl (lv_room (Nat.le_of_ble_eq_true rfl)) dX7_lose_2 ⟨Nat.le_of_ble_eq_true rfl, Nat.le_of_ble_eq_true rfl⟩) ?_
  by_cases h_1 : (sp_in a1 0 ((nI (n 3)) - 1)) = 0
  · rw [if_pos h_1]
    refine lv_astore_nN (lv' := [(2, .null), (0, .ref h0), (1, .int a1)]) hx hb dX7_lose_5 rfl hl (by decide) rfl (fun ls hl => ?_)
    refine lv_aload_nN hx hb dX7_lose_6 rfl (lv_at hl 0 rfl) ?_
    refine lv_ifnullN (tgt := 17) hx hb dX7_lose_7 (by decide) ?_
    refine lv_iconst (v := (-1)) hx hb dX7_lose_17 (by decide) ?_
    have hq2 : sX_lose n G a1 = ((-1), G) := by exact (if_pos h_1)
    exact W.iret (v := (-1)) hx hb hr (fun t9 ht hW => ⟨⟨(-1), G, rfl, hq2.symm, by show cp_ (dC, dI) cI cy h0 q A ad rl L n G t9.heap; rw [ht]; exact hC⟩, hS.F ht⟩) hS.2.2 dX7_lose_18
  · rw [if_neg h_1]
    have hv1 := sp_live h_1 (by omega)
    refine lv_astore_n (lv' := [(2, .ref (ad 3 a1.toNatClampNeg)), (0, .ref h0), (1, .int a1)]) hx hb dX7_lose_5 rfl hl (by decide) rfl (fun ls hl => ?_)
    refine lv_aload_n hx hb dX7_lose_6 rfl (lv_at hl 0 rfl) ?_
    refine lv_ifnull hx hb dX7_lose_7 ?_
    refine lv_aload_n hx hb dX7_lose_10 rfl (lv_at hl 0 rfl) ?_
    refine co_get 3 a1.toNatClampNeg (C := RX0) (T := TX0) (N := 11) (ci := 0) (v := .int (G 18 a1.toNatClampNeg)) hx hb hts hinX0 hown hK hC hv1 (fun _ h9 => h9) rfl 9 (by decide) (hts (.fieldLink RX7 142 "FurPosts$Canoe" "state" "I") (by decide +kernel)) (fun _ h9 => h9) rfl dX7_lose_11 ?_
    refine lv_topi (fun v3 (e3 : v3 = G 18 a1.toNatClampNeg) => ?_)
    refine lv_if_eq (tgt := 19) hx hb dX7_lose_14 (by decide) (fun h_4 => ?_) (fun h_4 => ?_)
    · skip
      refine lv_aload_n hx hb dX7_lose_19 rfl (lv_at hl 0 rfl) ?_
      refine lv_iconst (v := 2) hx hb dX7_lose_20 (by decide) ?_
      refine cc_put18 a1.toNatClampNeg hx hb hts hinX0 hown hK hC hS hv1 (v := 2) (hts (.fieldLink RX7 142 "FurPosts$Canoe" "state" "I") (by decide +kernel)) dX7_lose_21 (fun H locs hC hS => ?_)
      obtain ⟨G5, e5, hC⟩ : ∃ G5 : Nat → Nat → Int32, G5 = up2 G 18 a1.toNatClampNeg 2 ∧ cp_ (dC, dI) cI cy h0 q A ad rl L n G5 H := ⟨_, rfl, hC⟩
      refine lv_aload_n hx hb dX7_lose_24 rfl (lv_at hl 0 rfl) ?_
      refine lv_iconst (v := 0) hx hb dX7_lose_25 (by decide) ?_
      refine cc_put17 a1.toNatClampNeg hx hb hts hinX0 hown hK hC hS hv1 (v := 0) (hts (.fieldLink RX7 145 "FurPosts$Canoe" "daysToGo" "I") (by decide +kernel)) dX7_lose_26 (fun H locs hC hS => ?_)
      obtain ⟨G6, e6, hC⟩ : ∃ G6 : Nat → Nat → Int32, G6 = up2 G5 17 a1.toNatClampNeg 0 ∧ cp_ (dC, dI) cI cy h0 q A ad rl L n G6 H := ⟨_, rfl, hC⟩
      refine lv_iconst (v := 0) hx hb dX7_lose_29 (by decide) ?_
      refine lv_istore_n (lv' := [(3, .int 0), (2, .ref (ad 3 a1.toNatClampNeg)), (0, .ref h0), (1, .int a1)]) hx hb dX7_lose_30 rfl hl (by decide) rfl (fun ls hl => ?_)
      refine lv_iconst (v := 0) hx hb dX7_lose_31 (by decide) ?_
      refine lv_istore (lv' := [(4, .int 0), (3, .int 0), (2, .ref (ad 3 a1.toNatClampNeg)), (0, .ref h0), (1, .int a1)]) hx hb dX7_lose_32 hl (by decide) rfl (fun ls hl => ?_)
      have key34 : ∀ (k jL34 : Nat) (GL34 : Nat → Nat → Int32) (xL34_3 : Int32) (H : Heap) (locs : List Loc) (ls : Array Slot), jL34 + k = 6 → cp_ (dC, dI) cI cy h0 q A ad rl L n GL34 H → va_S A s.heap H locs → lv_has ls 5 [(4, .int (nI jL34)), (3, .int xL34_3), (2, .ref (ad 3 a1.toNatClampNeg)), (0, .ref h0), (1, .int a1)] → (∀ (H : Heap) (locs : List Loc) (ls : Array Slot), cp_ (dC, dI) cI cy h0 q A ad rl L n ((sX_lose_L34 a1 k jL34 GL34 xL34_3).1) H → va_S A s.heap H locs → lv_has ls 5 [(4, .int (nI 6)), (3, .int ((sX_lose_L34 a1 k jL34 GL34 xL34_3).2)), (2, .ref (ad 3 a1.toNatClampNeg)), (0, .ref h0), (1, .int a1)] → W p l e (headSpec wsX7_lose ({ frames := 2, cells := 0, slots := 0, locals := 44 })).room s m [.ref h0, .int a1].toArray below meth c H locs 0 0 (MQ below (va_Qi (fun r (u : Nat → Nat → Int32) => (r, u) = sX_lose n G a1) (fun u s' => cp_ (dC, dI) cI cy h0 q A ad rl L n u s'.heap) A) [.ref h0, .int a1].toArray s 0 0 A) (F0 m 84 ls [])) → 
          W p l e (headSpec wsX7_lose ({ frames := 2, cells := 0, slots := 0, locals := 44 })).room s m [.ref h0, .int a1].toArray below meth c H locs 0 0 (MQ below (va_Qi (fun r (u : Nat → Nat → Int32) => (r, u) = sX_lose n G a1) (fun u s' => cp_ (dC, dI) cI cy h0 q A ad rl L n u s'.heap) A) [.ref h0, .int a1].toArray s 0 0 A) (F0 m 34 ls []) := by
        intro k
        induction k with
        | zero =>
          intro jL34 GL34 xL34_3 H locs ls hj hC hS hl hex
          have hj : jL34 = 6 := by omega
          subst jL34
          refine lv_iload hx hb dX7_lose_34 (lv_at hl 0 rfl) ?_
          refine lv_bipush (v := 6) hx hb dX7_lose_36 (by decide) ?_
          refine lv_icmp_ge (tgt := 84) hx hb dX7_lose_38 (by decide) (fun h_7 => ?_) (fun h_7 => absurd (lp_ge0 (B := 6) rfl) h_7)
          exact hex H locs ls hC hS (lv_sub hl [0, 1, 2, 3, 4] rfl)
        | succ k ih34 =>
          intro jL34 GL34 xL34_3 H locs ls hj hC hS hl hex
          have hj34 : jL34 < 6 := by omega
          refine lv_iload hx hb dX7_lose_34 (lv_at hl 0 rfl) ?_
          refine lv_bipush (v := 6) hx hb dX7_lose_36 (by decide) ?_
          refine lv_icmp_ge (tgt := 84) hx hb dX7_lose_38 (by decide) (fun h_8 => absurd h_8 (lp_ge (B := 6) (by omega) (by omega) rfl)) (fun h_8 => ?_)
          refine lv_iload_n hx hb dX7_lose_41 rfl (lv_at hl 1 rfl) ?_
          refine lv_aload_n hx hb dX7_lose_42 rfl (lv_at hl 2 rfl) ?_
          refine co_get 3 a1.toNatClampNeg (C := RX0) (T := TX0) (N := 11) (ci := 0) (v := .ref (ad 10 a1.toNatClampNeg)) hx hb hts hinX0 hown hK hC hv1 (fun _ h9 => h9) rfl 5 (by decide) (hts (.fieldLink RX7 148 "FurPosts$Canoe" "wares" "[I") (by decide +kernel)) (fun _ h9 => h9) rfl dX7_lose_43 ?_
          refine lv_iload hx hb dX7_lose_46 (lv_at hl 0 rfl) ?_
          refine ci_ald 10 a1.toNatClampNeg hx hb hK hC hv1 (by decide) (w := (nI jL34)) (vp_in_nI (show jL34 < 6 by omega) (by decide)) dX7_lose_48 ?_
          refine lv_topi (fun v9 (e9 : v9 = GL34 22 (6 * a1.toNatClampNeg + (nI jL34).toNatClampNeg)) => ?_)
          rw [(show (nI jL34).toNatClampNeg = jL34 from nI_clamp (by omega))] at e9
          refine lv_iadd hx hb dX7_lose_49 ?_
          refine lv_istore_n (lv' := [(3, .int (xL34_3 + v9)), (4, .int (nI jL34)), (2, .ref (ad 3 a1.toNatClampNeg)), (0, .ref h0), (1, .int a1)]) hx hb dX7_lose_50 rfl hl (by decide) rfl (fun ls hl => ?_)
          refine lv_aload_n hx hb dX7_lose_51 rfl (lv_at hl 3 rfl) ?_
          refine cx_get hx hb hts hinX7 hown hK hC 6 (by decide) (v := .ref (q 7)) rfl (hts (.fieldLink RX7 41 "FurPosts" "tallies" "[[I") (by decide +kernel)) dX7_lose_52 ?_
          refine lv_iload hx hb dX7_lose_55 (lv_at hl 1 rfl) ?_
          refine cr_ald27 hx hb hK hC (w := (nI jL34)) (vp_in_nI (show jL34 < 6 by omega) (by decide)) dX7_lose_57 ?_
          rw [(show (nI jL34).toNatClampNeg = jL34 from nI_clamp (by omega))]
          refine lv_iconst (v := 4) hx hb dX7_lose_58 (by decide) ?_
          refine lv_dup2_11 hx hb dX7_lose_59 rfl rfl ?_
          refine ci_ald 14 jL34 hx hb hK hC (show jL34 < 6 by omega) (by decide) (w := 4) (by unfold vp_in; decide) dX7_lose_60 ?_
          refine lv_topi (fun v10 (e10 : v10 = GL34 34 (6 * (4 : Int32).toNatClampNeg + jL34)) => ?_)
          rw [(show (4 : Int32).toNatClampNeg = 4 from by decide)] at e10
          refine lv_aload_n hx hb dX7_lose_61 rfl (lv_at hl 2 rfl) ?_
          refine co_get 3 a1.toNatClampNeg (C := RX0) (T := TX0) (N := 11) (ci := 0) (v := .ref (ad 10 a1.toNatClampNeg)) hx hb hts hinX0 hown hK hC hv1 (fun _ h9 => h9) rfl 5 (by decide) (hts (.fieldLink RX7 148 "FurPosts$Canoe" "wares" "[I") (by decide +kernel)) (fun _ h9 => h9) rfl dX7_lose_62 ?_
          refine lv_iload hx hb dX7_lose_65 (lv_at hl 1 rfl) ?_
          refine ci_ald 10 a1.toNatClampNeg hx hb hK hC hv1 (by decide) (w := (nI jL34)) (vp_in_nI (show jL34 < 6 by omega) (by decide)) dX7_lose_67 ?_
          refine lv_topi (fun v11 (e11 : v11 = GL34 22 (6 * a1.toNatClampNeg + (nI jL34).toNatClampNeg)) => ?_)
          rw [(show (nI jL34).toNatClampNeg = jL34 from nI_clamp (by omega))] at e11
          refine lv_iadd hx hb dX7_lose_68 ?_
          refine ci_ast 14 jL34 hx hb hK hC hS (show jL34 < 6 by omega) (by decide) (w := 4) (x := (v10 + v11)) (by unfold vp_in; decide) dX7_lose_69 (fun H locs hC hS => ?_)
          obtain ⟨G12, e12, hC⟩ : ∃ G12 : Nat → Nat → Int32, G12 = up2 GL34 34 (6 * (4 : Int32).toNatClampNeg + jL34) (v10 + v11) ∧ cp_ (dC, dI) cI cy h0 q A ad rl L n G12 H := ⟨_, rfl, hC⟩
          rw [(show (4 : Int32).toNatClampNeg = 4 from by decide)] at e12
          refine lv_aload_n hx hb dX7_lose_70 rfl (lv_at hl 2 rfl) ?_
          refine co_get 3 a1.toNatClampNeg (C := RX0) (T := TX0) (N := 11) (ci := 0) (v := .ref (ad 10 a1.toNatClampNeg)) hx hb hts hinX0 hown hK hC hv1 (fun _ h9 => h9) rfl 5 (by decide) (hts (.fieldLink RX7 148 "FurPosts$Canoe" "wares" "[I") (by decide +kernel)) (fun _ h9 => h9) rfl dX7_lose_71 ?_
          refine lv_iload hx hb dX7_lose_74 (lv_at hl 1 rfl) ?_
          refine lv_iconst (v := 0) hx hb dX7_lose_76 (by decide) ?_
          refine ci_ast 10 a1.toNatClampNeg hx hb hK hC hS hv1 (by decide) (w := (nI jL34)) (x := 0) (vp_in_nI (show jL34 < 6 by omega) (by decide)) dX7_lose_77 (fun H locs hC hS => ?_)
          obtain ⟨G13, e13, hC⟩ : ∃ G13 : Nat → Nat → Int32, G13 = up2 G12 22 (6 * a1.toNatClampNeg + (nI jL34).toNatClampNeg) 0 ∧ cp_ (dC, dI) cI cy h0 q A ad rl L n G13 H := ⟨_, rfl, hC⟩
          rw [(show (nI jL34).toNatClampNeg = jL34 from nI_clamp (by omega))] at e13
          refine lv_iinc (v := (nI (jL34 + 1))) (lv' := [(4, .int (nI (jL34 + 1))), (3, .int (xL34_3 + v9)), (2, .ref (ad 3 a1.toNatClampNeg)), (0, .ref h0), (1, .int a1)]) hx hb dX7_lose_78 hl (k := 1) rfl (show nI jL34 + 1 = nI (jL34 + 1) from nI_1 jL34) (by decide) rfl (fun ls hl => ?_)
          refine lv_goto (tgt := 34) hx hb dX7_lose_81 (by decide) ?_
          have hI34 : (sX_lose_L34 a1 (k + 1) jL34 GL34 xL34_3) = (sX_lose_L34 a1 k (jL34 + 1) G13 (xL34_3 + v9)) := by subst e13 e12 e11 e10 e9 e6 e5 e3; exact rfl
          exact ih34 (jL34 + 1) G13 (xL34_3 + v9) H locs ls (by omega) hC hS (lv_sub hl [0, 1, 2, 3, 4] rfl) (by rw [← hI34]; exact hex)
      refine key34 6 0 G6 0 H locs ls (by omega) hC hS (lv_sub hl [0, 1, 2, 3, 4] rfl) (fun H locs ls hC hS hl => ?_)
      obtain ⟨G14, e14, hC⟩ : ∃ G14 : Nat → Nat → Int32, G14 = (sX_lose_L34 a1 6 0 G6 0).1 ∧ cp_ (dC, dI) cI cy h0 q A ad rl L n G14 H := ⟨_, rfl, hC⟩
      obtain ⟨v15, e15⟩ : ∃ v15 : Int32, v15 = (sX_lose_L34 a1 6 0 G6 0).2 := ⟨_, rfl⟩
      rw [← e15] at hl
      refine lv_aload_n hx hb dX7_lose_84 rfl (lv_at hl 3 rfl) ?_
      refine lv_iload_n hx hb dX7_lose_85 rfl (lv_at hl 4 rfl) ?_
      refine va_callv (va_runV (As := [.int a1]) (rest := []) ⟨hx, hb, hml, hown, hts⟩ (m_X7_loseLetters l dC dI h0 q cI cy A ad rl L n G14 hN a1) (cwV 1 hts gX7_lose_X7_loseLetters rfl rfl rfl (by decide +kernel) ⟨Nat.le_of_ble_eq_true rfl, Nat.le_of_ble_eq_true rfl⟩) (ct_pre hC hK hW0) rfl rfl hl.1 rfl (lv_room (Nat.le_of_ble_eq_true rfl)) dX7_lose_86 ⟨Nat.le_of_ble_eq_true rfl, Nat.le_of_ble_eq_true rfl⟩) hS (fun _ _ h => h) (fun _ h => h) (fun u16 st16 H locs ht16 hvm16 hw16 hB16 hz16 hk16 hS => ?_)
      obtain ⟨G16, e16, hC⟩ : ∃ G16 : Nat → Nat → Int32, G16 = (sX_loseLetters n G14 a1) ∧ cp_ (dC, dI) cI cy h0 q A ad rl L n G16 H := ⟨u16, hw16, by rw [← ht16]; exact hB16⟩
      refine lv_iload_n hx hb dX7_lose_89 rfl (lv_at hl 1 rfl) ?_
      have hq17 : sX_lose n G a1 = (v15, G16) := by subst e16 e15 e14 e6 e5 e3; exact (if_neg h_1).trans (if_pos h_4)
      exact W.iret (v := v15) hx hb hr (fun t9 ht hW => ⟨⟨v15, G16, rfl, hq17.symm, by show cp_ (dC, dI) cI cy h0 q A ad rl L n G16 t9.heap; rw [ht]; exact hC⟩, hS.F ht⟩) hS.2.2 dX7_lose_90
    · skip
      refine lv_iconst (v := (-1)) hx hb dX7_lose_17 (by decide) ?_
      have hq18 : sX_lose n G a1 = ((-1), G) := by subst e3; exact (if_neg h_1).trans (if_neg h_4)
      exact W.iret (v := (-1)) hx hb hr (fun t9 ht hW => ⟨⟨(-1), G, rfl, hq18.symm, by show cp_ (dC, dI) cI cy h0 q A ad rl L n G t9.heap; rw [ht]; exact hC⟩, hS.F ht⟩) hS.2.2 dX7_lose_18

set_option maxHeartbeats 8000000 in
set_option maxRecDepth 100000 in
theorem m_X7_go (l : Launch) (dC : Nat → ClassId) (dI : Nat → Nat → Nat) (h0 : Nat) (q : Nat → Nat) (cI : ClassId) (cy : Nat → ClassId) (A : Nat → Prop) (ad : Nat → Nat → Nat) (rl : Nat → Nat × Nat) (L : List Nat) (n : Nat → Nat) (G : Nat → Nat → Int32) (hN : nb_ n) (a1 : Int32) : Met l yX7_go wsX7_go ({ frames := 4, cells := 0, slots := 0, locals := 92 }) (va_Pc [.ref h0, .int a1] (ct_P (dC, dI) cI cy h0 q A ad rl L n G)) (va_Qi (fun r (u : (Nat → Nat) × (Nat → Nat → Int32)) => (r, u) = sX_go n G a1 ∧ nb_ u.1) (fun u s' => cp_ (dC, dI) cI cy h0 q A ad rl L u.1 u.2 s'.heap) A) 0 0 A := by
  refine Met.ofW (cc := cX7_go) (maxL := 4) (ret := (some .int)) (by decide) rfl ?_
  intro p e s m args below meth c s₁ B hml hv
  obtain ⟨rfl, hC, hK, hW0⟩ := hv
  have hx := B.exec
  have hb := B.bytes
  have hr := B.returns
  have hts := atoms_spec (ws := wsX7_go) B.pre
  have hown : s.vm.findClass RX7 = some m.cls := findClass_of_methodNamed B.named
  have hlocks := B.notSynchronized
  have hinX7 : ∀ w ∈ u_ws RX7 TX7 14, w ∈ wsX7_go := by decide +kernel
  have hS : va_S A s.heap s.heap [] := va_S.rf
  have hl := lv_entry ([.ref h0, .int a1]) (n := 4) (Nat.le_of_ble_eq_true rfl)
  rw [lg_entry_eq]
  generalize (lg_sl ([.ref h0, .int a1]) ++ List.replicate (4 - (lg_sl ([.ref h0, .int a1])).length) Slot.unset).toArray = ls at hl ⊢
  have hl : lv_has ls 4 [(0, .ref h0), (1, .int a1)] := hl
  obtain ⟨H, hH, hC, hS⟩ : ∃ H, H = s.heap ∧ cp_ (dC, dI) cI cy h0 q A ad rl L n G H ∧ va_S A s.heap H [] := ⟨_, rfl, hC, hS⟩
  rw [← hH]
  generalize ([] : List Loc) = locs at hS ⊢
  refine lv_iload_n hx hb dX7_go_0 rfl (lv_at hl 1 rfl) ?_
  refine lv_iconst (v := 0) hx hb dX7_go_1 (by decide) ?_
  refine lv_sipush (v := 400) hx hb dX7_go_2 (by decide) ?_
  refine pu_call (va_runS (As := [.int a1, .int 0, .int 400]) (rest := []) ⟨hx, hb, hml, hown, hts⟩ (c_X7_isWithin l a1 0 400) (va_cwS 3 hts gX7_go_X7_isWithin rfl rfl rfl (by decide +kernel) ⟨Nat.le_of_ble_eq_true rfl, Nat.le_of_ble_eq_true rfl⟩) pu_preS rfl rfl hl.1 rfl (lv_room (Nat.le_of_ble_eq_true rfl)) dX7_go_5 ⟨Nat.le_of_ble_eq_true rfl, Nat.le_of_ble_eq_true rfl⟩) ?_
  refine lv_if_ne (tgt := 13) hx hb dX7_go_8 (by decide) (fun h_1 => ?_) (fun h_1 => ?_)
  · skip
    have hM := sp_tn h_1 (n := 400) (by decide)
    refine lv_iconst (v := 0) hx hb dX7_go_13 (by decide) ?_
    refine lv_istore_n (lv' := [(2, .int 0), (0, .ref h0), (1, .int a1)]) hx hb dX7_go_14 rfl hl (by decide) rfl (fun ls hl => ?_)
    have key15 : ∀ (k jL15 : Nat) (nL15 : Nat → Nat) (GL15 : Nat → Nat → Int32) (H : Heap) (locs : List Loc) (ls : Array Slot), jL15 + k = a1.toNatClampNeg → sX_go n G a1 = (sX_go_L15  k jL15 nL15 GL15) → nb_ nL15 → cp_ (dC, dI) cI cy h0 q A ad rl L nL15 GL15 H → va_S A s.heap H locs → lv_has ls 4 [(2, .int (nI jL15)), (0, .ref h0), (1, .int a1)] → 
        W p l e (headSpec wsX7_go ({ frames := 4, cells := 0, slots := 0, locals := 92 })).room s m [.ref h0, .int a1].toArray below meth c H locs 0 0 (MQ below (va_Qi (fun r (u : (Nat → Nat) × (Nat → Nat → Int32)) => (r, u) = sX_go n G a1 ∧ nb_ u.1) (fun u s' => cp_ (dC, dI) cI cy h0 q A ad rl L u.1 u.2 s'.heap) A) [.ref h0, .int a1].toArray s 0 0 A) (F0 m 15 ls []) := by
      intro k
      induction k with
      | zero =>
        intro jL15 nL15 GL15 H locs ls hj hE15 hN hC hS hl
        have hj : jL15 = a1.toNatClampNeg := by omega
        subst jL15
        refine lv_iload_n hx hb dX7_go_15 rfl (lv_at hl 0 rfl) ?_
        refine lv_iload_n hx hb dX7_go_16 rfl (lv_at hl 2 rfl) ?_
        refine lv_icmp_ge (tgt := 67) hx hb dX7_go_17 (by decide) (fun h_2 => ?_) (fun h_2 => absurd (lp_ge0 (B := a1.toNatClampNeg) hM.2) h_2)
        refine lv_aload_n hx hb dX7_go_67 rfl (lv_at hl 1 rfl) ?_
        refine cx_get hx hb hts hinX7 hown hK hC 8 (by decide) (v := .int (nI (nL15 0))) rfl (hts (.fieldLink RX7 103 "FurPosts" "now" "I") (by decide +kernel)) dX7_go_68 ?_
        have hq3 : sX_go n G a1 = ((nI (nL15 0)), nL15, GL15) := by exact hE15
        exact W.iret (v := (nI (nL15 0))) hx hb hr (fun t9 ht hW => ⟨⟨(nI (nL15 0)), (nL15, GL15), rfl, ⟨hq3.symm, hN⟩, by show cp_ (dC, dI) cI cy h0 q A ad rl L nL15 GL15 t9.heap; rw [ht]; exact hC⟩, hS.F ht⟩) hS.2.2 dX7_go_71
      | succ k ih15 =>
        intro jL15 nL15 GL15 H locs ls hj hE15 hN hC hS hl
        have hj15 : jL15 < a1.toNatClampNeg := by omega
        refine lv_iload_n hx hb dX7_go_15 rfl (lv_at hl 0 rfl) ?_
        refine lv_iload_n hx hb dX7_go_16 rfl (lv_at hl 2 rfl) ?_
        refine lv_icmp_ge (tgt := 67) hx hb dX7_go_17 (by decide) (fun h_4 => absurd h_4 (lp_ge (B := a1.toNatClampNeg) (by omega) (by omega) hM.2)) (fun h_4 => ?_)
        refine lv_aload_n hx hb dX7_go_20 rfl (lv_at hl 1 rfl) ?_
        refine cx_get hx hb hts hinX7 hown hK hC 8 (by decide) (v := .int (nI (nL15 0))) rfl (hts (.fieldLink RX7 103 "FurPosts" "now" "I") (by decide +kernel)) dX7_go_21 ?_
        refine lv_sipush (v := 3000) hx hb dX7_go_24 (by decide) ?_
        refine lv_icmp_ge (tgt := 67) hx hb dX7_go_27 (by decide) (fun h_5 => ?_) (fun h_5 => ?_)
        · skip
          refine lv_aload_n hx hb dX7_go_67 rfl (lv_at hl 1 rfl) ?_
          refine cx_get hx hb hts hinX7 hown hK hC 8 (by decide) (v := .int (nI (nL15 0))) rfl (hts (.fieldLink RX7 103 "FurPosts" "now" "I") (by decide +kernel)) dX7_go_68 ?_
          have hq6 : sX_go n G a1 = ((nI (nL15 0)), nL15, GL15) := by exact hE15.trans (if_pos h_5)
          exact W.iret (v := (nI (nL15 0))) hx hb hr (fun t9 ht hW => ⟨⟨(nI (nL15 0)), (nL15, GL15), rfl, ⟨hq6.symm, hN⟩, by show cp_ (dC, dI) cI cy h0 q A ad rl L nL15 GL15 t9.heap; rw [ht]; exact hC⟩, hS.F ht⟩) hS.2.2 dX7_go_71
        · skip
          have h3000 := h_5
          refine lv_iconst (v := 0) hx hb dX7_go_30 (by decide) ?_
          refine lv_istore_n (lv' := [(3, .int 0), (2, .int (nI jL15)), (0, .ref h0), (1, .int a1)]) hx hb dX7_go_31 rfl hl (by decide) rfl (fun ls hl => ?_)
          have key32 : ∀ (k jL32 : Nat) (GL32 : Nat → Nat → Int32) (H : Heap) (locs : List Loc) (ls : Array Slot), jL32 + k = (nL15 3) → cp_ (dC, dI) cI cy h0 q A ad rl L nL15 GL32 H → va_S A s.heap H locs → lv_has ls 4 [(3, .int (nI jL32)), (2, .int (nI jL15)), (0, .ref h0), (1, .int a1)] → (∀ (H : Heap) (locs : List Loc) (ls : Array Slot), cp_ (dC, dI) cI cy h0 q A ad rl L nL15 ((sX_go_L32 nL15 k jL32 GL32)) H → va_S A s.heap H locs → lv_has ls 4 [(3, .int (nI (nL15 3))), (2, .int (nI jL15)), (0, .ref h0), (1, .int a1)] → W p l e (headSpec wsX7_go ({ frames := 4, cells := 0, slots := 0, locals := 92 })).room s m [.ref h0, .int a1].toArray below meth c H locs 0 0 (MQ below (va_Qi (fun r (u : (Nat → Nat) × (Nat → Nat → Int32)) => (r, u) = sX_go n G a1 ∧ nb_ u.1) (fun u s' => cp_ (dC, dI) cI cy h0 q A ad rl L u.1 u.2 s'.heap) A) [.ref h0, .int a1].toArray s 0 0 A) (F0 m 51 ls [])) → 
              W p l e (headSpec wsX7_go ({ frames := 4, cells := 0, slots := 0, locals := 92 })).room s m [.ref h0, .int a1].toArray below meth c H locs 0 0 (MQ below (va_Qi (fun r (u : (Nat → Nat) × (Nat → Nat → Int32)) => (r, u) = sX_go n G a1 ∧ nb_ u.1) (fun u s' => cp_ (dC, dI) cI cy h0 q A ad rl L u.1 u.2 s'.heap) A) [.ref h0, .int a1].toArray s 0 0 A) (F0 m 32 ls []) := by
            intro k
            induction k with
            | zero =>
              intro jL32 GL32 H locs ls hj hC hS hl hex
              have hj : jL32 = (nL15 3) := by omega
              subst jL32
              refine lv_iload_n hx hb dX7_go_32 rfl (lv_at hl 0 rfl) ?_
              refine lv_aload_n hx hb dX7_go_33 rfl (lv_at hl 2 rfl) ?_
              refine cx_get hx hb hts hinX7 hown hK hC 11 (by decide) (v := .int (nI (nL15 3))) rfl (hts (.fieldLink RX7 113 "FurPosts" "canoeCount" "I") (by decide +kernel)) dX7_go_34 ?_
              refine lv_icmp_ge (tgt := 51) hx hb dX7_go_37 (by decide) (fun h_7 => ?_) (fun h_7 => absurd (lp_ge0 (B := (nL15 3)) rfl) h_7)
              exact hex H locs ls hC hS (lv_sub hl [0, 1, 2, 3] rfl)
            | succ k ih32 =>
              intro jL32 GL32 H locs ls hj hC hS hl hex
              have hj32 : jL32 < (nL15 3) := by omega
              refine lv_iload_n hx hb dX7_go_32 rfl (lv_at hl 0 rfl) ?_
              refine lv_aload_n hx hb dX7_go_33 rfl (lv_at hl 2 rfl) ?_
              refine cx_get hx hb hts hinX7 hown hK hC 11 (by decide) (v := .int (nI (nL15 3))) rfl (hts (.fieldLink RX7 113 "FurPosts" "canoeCount" "I") (by decide +kernel)) dX7_go_34 ?_
              refine lv_icmp_ge (tgt := 51) hx hb dX7_go_37 (by decide) (fun h_8 => absurd h_8 (lp_ge (B := (nL15 3)) (by omega) (by omega) rfl)) (fun h_8 => ?_)
              refine lv_aload_n hx hb dX7_go_40 rfl (lv_at hl 2 rfl) ?_
              refine lv_iload_n hx hb dX7_go_41 rfl (lv_at hl 0 rfl) ?_
              refine va_callv (va_runV (As := [.int (nI jL32)]) (rest := []) ⟨hx, hb, hml, hown, hts⟩ (m_X7_moveCanoe l dC dI h0 q cI cy A ad rl L nL15 GL32 hN (nI jL32)) (cwV 1 hts gX7_go_X7_moveCanoe rfl rfl rfl (by decide +kernel) ⟨Nat.le_of_ble_eq_true rfl, Nat.le_of_ble_eq_true rfl⟩) (ct_pre hC hK hW0) rfl rfl hl.1 rfl (lv_room (Nat.le_of_ble_eq_true rfl)) dX7_go_42 ⟨Nat.le_of_ble_eq_true rfl, Nat.le_of_ble_eq_true rfl⟩) hS (fun _ _ h => h) (fun _ h => h) (fun u9 st9 H locs ht9 hvm9 hw9 hB9 hz9 hk9 hS => ?_)
              obtain ⟨G9, e9, hC⟩ : ∃ G9 : Nat → Nat → Int32, G9 = (sX_moveCanoe nL15 GL32 (nI jL32)) ∧ cp_ (dC, dI) cI cy h0 q A ad rl L nL15 G9 H := ⟨u9, hw9, by rw [← ht9]; exact hB9⟩
              refine lv_iinc (v := (nI (jL32 + 1))) (lv' := [(3, .int (nI (jL32 + 1))), (2, .int (nI jL15)), (0, .ref h0), (1, .int a1)]) hx hb dX7_go_45 hl (k := 0) rfl (show nI jL32 + 1 = nI (jL32 + 1) from nI_1 jL32) (by decide) rfl (fun ls hl => ?_)
              refine lv_goto (tgt := 32) hx hb dX7_go_48 (by decide) ?_
              have hI32 : (sX_go_L32 nL15 (k + 1) jL32 GL32) = (sX_go_L32 nL15 k (jL32 + 1) G9) := by subst e9; exact rfl
              exact ih32 (jL32 + 1) G9 H locs ls (by omega) hC hS (lv_sub hl [0, 1, 2, 3] rfl) (by rw [← hI32]; exact hex)
          refine key32 (nL15 3) 0 GL15 H locs ls (by omega) hC hS (lv_sub hl [0, 1, 2, 3] rfl) (fun H locs ls hC hS hl => ?_)
          obtain ⟨G10, e10, hC⟩ : ∃ G10 : Nat → Nat → Int32, G10 = (sX_go_L32 nL15 (nL15 3) 0 GL15) ∧ cp_ (dC, dI) cI cy h0 q A ad rl L nL15 G10 H := ⟨_, rfl, hC⟩
          refine lv_aload_n hx hb dX7_go_51 rfl (lv_at hl 2 rfl) ?_
          refine lv_dup hx hb dX7_go_52 rfl ?_
          refine cx_get hx hb hts hinX7 hown hK hC 8 (by decide) (v := .int (nI (nL15 0))) rfl (hts (.fieldLink RX7 103 "FurPosts" "now" "I") (by decide +kernel)) dX7_go_53 ?_
          refine lv_iconst (v := 1) hx hb dX7_go_56 (by decide) ?_
          refine lv_iadd hx hb dX7_go_57 ?_
          rw [nI_1]
          refine cx_putn0 hx hb hts hinX7 hown hK hC hS (k := ((nL15 0) + 1)) (hts (.fieldLink RX7 103 "FurPosts" "now" "I") (by decide +kernel)) dX7_go_58 (fun H locs hC hS => ?_)
          obtain ⟨n11, e11, hC⟩ : ∃ n11 : Nat → Nat, n11 = va_up nL15 0 ((nL15 0) + 1) ∧ cp_ (dC, dI) cI cy h0 q A ad rl L n11 G10 H := ⟨_, rfl, hC⟩
          have hN : nb_ n11 := by rw [e11]; exact ⟨show ((nL15 0) + 1) ≤ 3000 by have := nI_linv (B := 3000) h3000 rfl (by omega); omega, hN.2⟩
          refine lv_iinc (v := (nI (jL15 + 1))) (lv' := [(2, .int (nI (jL15 + 1))), (3, .int (nI (nL15 3))), (0, .ref h0), (1, .int a1)]) hx hb dX7_go_61 hl (k := 1) rfl (show nI jL15 + 1 = nI (jL15 + 1) from nI_1 jL15) (by decide) rfl (fun ls hl => ?_)
          refine lv_goto (tgt := 15) hx hb dX7_go_64 (by decide) ?_
          exact ih15 (jL15 + 1) n11 G10 H locs ls (by omega) (by subst e11 e10; exact hE15.trans (if_neg h_5)) hN hC hS (lv_sub hl [0, 2, 3] rfl)
    exact key15 a1.toNatClampNeg 0 n G H locs ls (by omega) (by exact (if_neg h_1)) hN hC hS (lv_sub hl [0, 1, 2] rfl)
  · skip
    refine lv_iconst (v := (-1)) hx hb dX7_go_11 (by decide) ?_
    have hq12 : sX_go n G a1 = ((-1), n, G) := by exact (if_pos h_1)
    exact W.iret (v := (-1)) hx hb hr (fun t9 ht hW => ⟨⟨(-1), (n, G), rfl, ⟨hq12.symm, hN⟩, by show cp_ (dC, dI) cI cy h0 q A ad rl L n G t9.heap; rw [ht]; exact hC⟩, hS.F ht⟩) hS.2.2 dX7_go_12
