set_option maxHeartbeats 4000000 in
set_option maxRecDepth 100000 in
theorem k_X7_next (l : Launch) (dC : Nat → ClassId) (dI : Nat → Nat → Nat) (h0 : Nat) (q n : Nat → Nat) (dl : Int32) (cI : ClassId) (cy : Nat → ClassId) (L : List Nat) (t : Nat → Nat) (f : Nat → va_E) (hT : ty_ cI cy L t f) (hQ : qs_ q t) (hN : nb_ n) (a1 : Int32) (a2 : Int32) : Met l yX7_next wsX7_next ({ frames := 2, cells := 0, slots := 0, locals := 43 }) (va_Pc [.ref h0, .int a1, .int a2] (pt_P (dC, dI) vwCl (tt_ cI cy) (xo_ h0 q n dl ++ va_pl L f))) (pg_Q (gi_ (fun r => True))) 0 0 pu_F := by
  refine Met.ofW (cc := cX7_next) (maxL := 4) (ret := (some .int)) (by decide) rfl ?_
  intro p e s m args below meth c s₁ B hml hv
  obtain ⟨rfl, hP, hK, hW0⟩ := hv
  have hx := B.exec
  have hb := B.bytes
  have hr := B.returns
  have hts := atoms_spec (ws := wsX7_next) B.pre
  have hown : s.vm.findClass RX7 = some m.cls := findClass_of_methodNamed B.named
  have hlocks := B.notSynchronized
  have hinX7 : ∀ w ∈ u_ws RX7 TX7 14, w ∈ wsX7_next := by decide +kernel
  have hl := lv_entry ([.ref h0, .int a1, .int a2]) (n := 4) (Nat.le_of_ble_eq_true rfl)
  rw [lg_entry_eq]
  generalize (lg_sl ([.ref h0, .int a1, .int a2]) ++ List.replicate (4 - (lg_sl ([.ref h0, .int a1, .int a2])).length) Slot.unset).toArray = ls at hl ⊢
  have hl : lv_has ls 4 [(0, .ref h0), (1, .int a1), (2, .int a2)] := hl
  refine lv_aload_n hx hb dX7_next_0 rfl (lv_at hl 0 rfl) ?_
  refine lv_iload_n hx hb dX7_next_1 rfl (lv_at hl 1 rfl) ?_
  refine lv_iload_n hx hb dX7_next_2 rfl (lv_at hl 2 rfl) ?_
  refine pg_call (va_runV (As := [.int a1, .int a2]) (rest := []) ⟨hx, hb, hml, hown, hts⟩ (k_X7_areTwoPosts l dC dI h0 q n dl cI cy L t f hT hQ hN a1 a2) (cwV 2 hts gX7_next_X7_areTwoPosts rfl rfl rfl (by decide +kernel) ⟨Nat.le_of_ble_eq_true rfl, Nat.le_of_ble_eq_true rfl⟩) (pt_pre hP hK hW0 (ci := 6) (q0 := 0) rfl rfl) rfl rfl hl.1 rfl (lv_room (Nat.le_of_ble_eq_true rfl)) dX7_next_3 ⟨Nat.le_of_ble_eq_true rfl, Nat.le_of_ble_eq_true rfl⟩) (fun w1 hw1 => ?_)
  obtain ⟨r1, rfl, hg1⟩ := hw1
  refine lv_if_eq (tgt := 22) hx hb dX7_next_6 (by decide) (fun h_2 => ?_) (fun h_2 => ?_)
  · skip
    refine lv_iconst (v := (-1)) hx hb dX7_next_22 (by decide) ?_
    exact W.iret (v := (-1)) hx hb hr (fun t ht hW => ⟨_, rfl, ⟨(-1), rfl, trivial⟩, ht⟩) (fun q h => by cases h) dX7_next_23
  · skip
    refine lv_aload_n hx hb dX7_next_9 rfl (lv_at hl 0 rfl) ?_
    refine va_get (D := (dC, dI)) (ci := 6) (v := .ref (q 5)) (C := RX7) (T := TX7) (N := 14) hx hb hts hinX7 hown hK hP 0 rfl rfl 4 (by decide) (hts (.fieldLink RX7 35 "FurPosts" "distances" "[[I") (by decide +kernel)) (fun _ h9 => h9) rfl dX7_next_10 ?_
    refine lv_iload_n hx hb dX7_next_13 rfl (lv_at hl 1 rfl) ?_
    obtain ⟨hm3, i3, r3, hi3, he3, k3_0⟩ := at_12 (xo_ h0 q n dl) hT hQ.2.2.2.2.1
    refine va_ald2 hx hb hK hP i3 6 he3 rfl (i := a1) ((hg1 h_2).1) (b := r3 (Int32.toNatClampNeg a1)) (if_pos (vp_lt ((hg1 h_2).1))) dX7_next_14 ?_
    have hr4 := k3_0 (Int32.toNatClampNeg a1) (vp_lt ((hg1 h_2).1))
    generalize r3 (Int32.toNatClampNeg a1) = b4 at hr4 ⊢
    refine lv_iload_n hx hb dX7_next_15 rfl (lv_at hl 2 rfl) ?_
    obtain ⟨hm5, i5, g5, hi5, he5⟩ := at_16 (xo_ h0 q n dl) hT hr4
    refine va_iald hx hb hK hP i5 0 he5 rfl (i := a2) ((hg1 h_2).2) dX7_next_16 ?_
    refine lv_topi (fun v6 _ => ?_)
    refine lv_bipush (v := 100) hx hb dX7_next_17 (by decide) ?_
    refine lv_icmp_lt (tgt := 24) hx hb dX7_next_19 (by decide) (fun h_7 => ?_) (fun h_7 => ?_)
    · skip
      refine lv_iconst (v := 0) hx hb dX7_next_24 (by decide) ?_
      refine lv_istore_n (lv' := [(3, .int 0), (0, .ref h0), (1, .int a1), (2, .int a2)]) hx hb dX7_next_25 rfl hl (by decide) rfl (fun ls hl => ?_)
      have key26 : ∀ (k j26 : Nat) (ls : Array Slot), j26 + k = 8 → lv_has ls 4 [(3, .int (nI j26)), (0, .ref h0), (1, .int a1), (2, .int a2)] →
          W p l e (headSpec wsX7_next ({ frames := 2, cells := 0, slots := 0, locals := 43 })).room s m [.ref h0, .int a1, .int a2].toArray below meth c s.heap [] 0 0 (MQ below (pg_Q (gi_ (fun r => True))) [.ref h0, .int a1, .int a2].toArray s 0 0 pu_F) (F0 m 26 ls []) := by
        intro k
        induction k with
        | zero =>
          intro j26 ls hj hl
          have hj : j26 = 8 := by omega
          subst j26
          refine lv_iload_n hx hb dX7_next_26 rfl (lv_at hl 0 rfl) ?_
          refine lv_bipush (v := 8) hx hb dX7_next_27 (by decide) ?_
          refine lv_icmp_ge (tgt := 73) hx hb dX7_next_29 (by decide) (fun h_8 => ?_) (fun h_8 => absurd (lp_ge0 (B := 8) rfl) h_8)
          refine lv_iconst (v := (-1)) hx hb dX7_next_73 (by decide) ?_
          exact W.iret (v := (-1)) hx hb hr (fun t ht hW => ⟨_, rfl, ⟨(-1), rfl, trivial⟩, ht⟩) (fun q h => by cases h) dX7_next_74
        | succ k ih26 =>
          intro j26 ls hj hl
          have hj26 : j26 < 8 := by omega
          refine lv_iload_n hx hb dX7_next_26 rfl (lv_at hl 0 rfl) ?_
          refine lv_bipush (v := 8) hx hb dX7_next_27 (by decide) ?_
          refine lv_icmp_ge (tgt := 73) hx hb dX7_next_29 (by decide) (fun h_9 => absurd h_9 (lp_ge (B := 8) (by omega) (by omega) rfl)) (fun h_9 => ?_)
          refine lv_aload_n hx hb dX7_next_32 rfl (lv_at hl 1 rfl) ?_
          refine va_get (D := (dC, dI)) (ci := 6) (v := .ref (q 5)) (C := RX7) (T := TX7) (N := 14) hx hb hts hinX7 hown hK hP 0 rfl rfl 4 (by decide) (hts (.fieldLink RX7 35 "FurPosts" "distances" "[[I") (by decide +kernel)) (fun _ h9 => h9) rfl dX7_next_33 ?_
          refine lv_iload_n hx hb dX7_next_36 rfl (lv_at hl 2 rfl) ?_
          refine va_ald2 hx hb hK hP i3 6 he3 rfl (i := a1) ((hg1 h_2).1) (b := r3 (Int32.toNatClampNeg a1)) (if_pos (vp_lt ((hg1 h_2).1))) dX7_next_37 ?_
          have hr10 := k3_0 (Int32.toNatClampNeg a1) (vp_lt ((hg1 h_2).1))
          generalize r3 (Int32.toNatClampNeg a1) = b10 at hr10 ⊢
          refine lv_iload_n hx hb dX7_next_38 rfl (lv_at hl 0 rfl) ?_
          obtain ⟨hm11, i11, g11, hi11, he11⟩ := at_16 (xo_ h0 q n dl) hT hr10
          refine va_iald hx hb hK hP i11 0 he11 rfl (i := (nI j26)) (vp_in_nI (show j26 < 8 by omega) (by decide)) dX7_next_39 ?_
          refine lv_topi (fun v12 _ => ?_)
          refine lv_iconst (v := 1) hx hb dX7_next_40 (by decide) ?_
          refine lv_icmp_ne (tgt := 67) hx hb dX7_next_41 (by decide) (fun h_13 => ?_) (fun h_13 => ?_)
          · skip
            refine lv_iinc (v := (nI (j26 + 1))) (lv' := [(3, .int (nI (j26 + 1))), (0, .ref h0), (1, .int a1), (2, .int a2)]) hx hb dX7_next_67 hl (k := 0) rfl (show nI j26 + 1 = nI (j26 + 1) from nI_1 j26) (by decide) rfl (fun ls hl => ?_)
            refine lv_goto (tgt := 26) hx hb dX7_next_70 (by decide) ?_
            exact ih26 (j26 + 1) ls (by omega) (lv_sub hl [0, 1, 2, 3] rfl)
          · skip
            refine lv_aload_n hx hb dX7_next_44 rfl (lv_at hl 1 rfl) ?_
            refine va_get (D := (dC, dI)) (ci := 6) (v := .ref (q 5)) (C := RX7) (T := TX7) (N := 14) hx hb hts hinX7 hown hK hP 0 rfl rfl 4 (by decide) (hts (.fieldLink RX7 35 "FurPosts" "distances" "[[I") (by decide +kernel)) (fun _ h9 => h9) rfl dX7_next_45 ?_
            refine lv_iload_n hx hb dX7_next_48 rfl (lv_at hl 0 rfl) ?_
            refine va_ald2 hx hb hK hP i3 6 he3 rfl (i := (nI j26)) (vp_in_nI (show j26 < 8 by omega) (by decide)) (b := r3 (Int32.toNatClampNeg (nI j26))) (if_pos (vp_lt (vp_in_nI (show j26 < 8 by omega) (by decide)))) dX7_next_49 ?_
            have hr14 := k3_0 (Int32.toNatClampNeg (nI j26)) (vp_lt (vp_in_nI (show j26 < 8 by omega) (by decide)))
            generalize r3 (Int32.toNatClampNeg (nI j26)) = b14 at hr14 ⊢
            refine lv_iload_n hx hb dX7_next_50 rfl (lv_at hl 3 rfl) ?_
            obtain ⟨hm15, i15, g15, hi15, he15⟩ := at_16 (xo_ h0 q n dl) hT hr14
            refine va_iald hx hb hK hP i15 0 he15 rfl (i := a2) ((hg1 h_2).2) dX7_next_51 ?_
            refine lv_topi (fun v16 _ => ?_)
            refine lv_aload_n hx hb dX7_next_52 rfl (lv_at hl 1 rfl) ?_
            refine va_get (D := (dC, dI)) (ci := 6) (v := .ref (q 5)) (C := RX7) (T := TX7) (N := 14) hx hb hts hinX7 hown hK hP 0 rfl rfl 4 (by decide) (hts (.fieldLink RX7 35 "FurPosts" "distances" "[[I") (by decide +kernel)) (fun _ h9 => h9) rfl dX7_next_53 ?_
            refine lv_iload_n hx hb dX7_next_56 rfl (lv_at hl 2 rfl) ?_
            refine va_ald2 hx hb hK hP i3 6 he3 rfl (i := a1) ((hg1 h_2).1) (b := r3 (Int32.toNatClampNeg a1)) (if_pos (vp_lt ((hg1 h_2).1))) dX7_next_57 ?_
            have hr17 := k3_0 (Int32.toNatClampNeg a1) (vp_lt ((hg1 h_2).1))
            generalize r3 (Int32.toNatClampNeg a1) = b17 at hr17 ⊢
            refine lv_iload_n hx hb dX7_next_58 rfl (lv_at hl 3 rfl) ?_
            obtain ⟨hm18, i18, g18, hi18, he18⟩ := at_16 (xo_ h0 q n dl) hT hr17
            refine va_iald hx hb hK hP i18 0 he18 rfl (i := a2) ((hg1 h_2).2) dX7_next_59 ?_
            refine lv_topi (fun v19 _ => ?_)
            refine lv_iconst (v := 1) hx hb dX7_next_60 (by decide) ?_
            refine lv_isub hx hb dX7_next_61 ?_
            refine lv_topi (fun v20 _ => ?_)
            refine lv_icmp_ne (tgt := 67) hx hb dX7_next_62 (by decide) (fun h_21 => ?_) (fun h_21 => ?_)
            · skip
              refine lv_iinc (v := (nI (j26 + 1))) (lv' := [(3, .int (nI (j26 + 1))), (0, .ref h0), (1, .int a1), (2, .int a2)]) hx hb dX7_next_67 hl (k := 0) rfl (show nI j26 + 1 = nI (j26 + 1) from nI_1 j26) (by decide) rfl (fun ls hl => ?_)
              refine lv_goto (tgt := 26) hx hb dX7_next_70 (by decide) ?_
              exact ih26 (j26 + 1) ls (by omega) (lv_sub hl [0, 1, 2, 3] rfl)
            · skip
              refine lv_iload_n hx hb dX7_next_65 rfl (lv_at hl 0 rfl) ?_
              exact W.iret (v := (nI j26)) hx hb hr (fun t ht hW => ⟨_, rfl, ⟨(nI j26), rfl, trivial⟩, ht⟩) (fun q h => by cases h) dX7_next_66
      exact key26 8 0 ls (by omega) (lv_sub hl [0, 1, 2, 3] rfl)
    · skip
      refine lv_iconst (v := (-1)) hx hb dX7_next_22 (by decide) ?_
      exact W.iret (v := (-1)) hx hb hr (fun t ht hW => ⟨_, rfl, ⟨(-1), rfl, trivial⟩, ht⟩) (fun q h => by cases h) dX7_next_23

set_option maxHeartbeats 4000000 in
set_option maxRecDepth 100000 in
theorem k_X7_canLoad (l : Launch) (dC : Nat → ClassId) (dI : Nat → Nat → Nat) (h0 : Nat) (q n : Nat → Nat) (dl : Int32) (cI : ClassId) (cy : Nat → ClassId) (L : List Nat) (t : Nat → Nat) (f : Nat → va_E) (hT : ty_ cI cy L t f) (hQ : qs_ q t) (hN : nb_ n) (a1 : Nat) (ka1 : t a1 = 1) (a2 : Nat) (ka2 : t a2 = 2) : Met l yX7_canLoad wsX7_canLoad ({ frames := 0, cells := 0, slots := 0, locals := 0 }) (va_Pc [.ref h0, .ref a1, .ref a2] (pt_P (dC, dI) vwCl (tt_ cI cy) (xo_ h0 q n dl ++ va_pl L f))) (pg_Q (gi_ (fun r => True))) 0 0 pu_F := by
  refine Met.ofW (cc := cX7_canLoad) (maxL := 5) (ret := (some .boolean)) (by decide) rfl ?_
  intro p e s m args below meth c s₁ B hml hv
  obtain ⟨rfl, hP, hK, hW0⟩ := hv
  have hx := B.exec
  have hb := B.bytes
  have hr := B.returns
  have hts := atoms_spec (ws := wsX7_canLoad) B.pre
  have hown : s.vm.findClass RX7 = some m.cls := findClass_of_methodNamed B.named
  have hlocks := B.notSynchronized
  have hinX4 : ∀ w ∈ u_ws RX4 TX4 4, w ∈ wsX7_canLoad := by decide +kernel
  have hinX6 : ∀ w ∈ u_ws RX6 TX6 6, w ∈ wsX7_canLoad := by decide +kernel
  have hinX7 : ∀ w ∈ u_ws RX7 TX7 14, w ∈ wsX7_canLoad := by decide +kernel
  have hl := lv_entry ([.ref h0, .ref a1, .ref a2]) (n := 5) (Nat.le_of_ble_eq_true rfl)
  rw [lg_entry_eq]
  generalize (lg_sl ([.ref h0, .ref a1, .ref a2]) ++ List.replicate (5 - (lg_sl ([.ref h0, .ref a1, .ref a2])).length) Slot.unset).toArray = ls at hl ⊢
  have hl : lv_has ls 5 [(0, .ref h0), (1, .ref a1), (2, .ref a2)] := hl
  refine lv_iconst (v := 0) hx hb dX7_canLoad_0 (by decide) ?_
  refine lv_istore_n (lv' := [(3, .int 0), (0, .ref h0), (1, .ref a1), (2, .ref a2)]) hx hb dX7_canLoad_1 rfl hl (by decide) rfl (fun ls hl => ?_)
  refine lv_iconst (v := 0) hx hb dX7_canLoad_2 (by decide) ?_
  refine lv_istore (lv' := [(4, .int 0), (3, .int 0), (0, .ref h0), (1, .ref a1), (2, .ref a2)]) hx hb dX7_canLoad_3 hl (by decide) rfl (fun ls hl => ?_)
  have key5 : ∀ (k j5 : Nat) (x5_3 : Int32) (ls : Array Slot), j5 + k = 6 → lv_has ls 5 [(4, .int (nI j5)), (3, .int x5_3), (0, .ref h0), (1, .ref a1), (2, .ref a2)] →
      W p l e (headSpec wsX7_canLoad ({ frames := 0, cells := 0, slots := 0, locals := 0 })).room s m [.ref h0, .ref a1, .ref a2].toArray below meth c s.heap [] 0 0 (MQ below (pg_Q (gi_ (fun r => True))) [.ref h0, .ref a1, .ref a2].toArray s 0 0 pu_F) (F0 m 5 ls []) := by
    intro k
    induction k with
    | zero =>
      intro j5 x5_3 ls hj hl
      have hj : j5 = 6 := by omega
      subst j5
      refine lv_iload hx hb dX7_canLoad_5 (lv_at hl 0 rfl) ?_
      refine lv_bipush (v := 6) hx hb dX7_canLoad_7 (by decide) ?_
      refine lv_icmp_ge (tgt := 47) hx hb dX7_canLoad_9 (by decide) (fun h_1 => ?_) (fun h_1 => absurd (lp_ge0 (B := 6) rfl) h_1)
      refine lv_iload_n hx hb dX7_canLoad_47 rfl (lv_at hl 1 rfl) ?_
      refine lv_aload_n hx hb dX7_canLoad_48 rfl (lv_at hl 4 rfl) ?_
      obtain ⟨hm2, i2, g2, hi2, he2⟩ := at_2 (xo_ h0 q n dl) hT ka2
      refine va_get (D := (dC, dI)) (ci := 5) (v := .int (g2 5)) (C := RX6) (T := TX6) (N := 6) hx hb hts hinX6 hown hK hP i2 he2 rfl 5 (by decide) (hts (.fieldLink RX7 162 "FurPosts$Way" "bears" "I") (by decide +kernel)) (fun _ h9 => h9) rfl dX7_canLoad_49 ?_
      refine lv_icmp_gt (tgt := 59) hx hb dX7_canLoad_52 (by decide) (fun h_3 => ?_) (fun h_3 => ?_)
      · skip
        refine lv_iconst (v := 0) hx hb dX7_canLoad_59 (by decide) ?_
        exact W.zret (v := 0) hx hb hr rfl (fun t ht hW => ⟨_, rfl, ⟨0, rfl, trivial⟩, ht⟩) (fun q h => by cases h) dX7_canLoad_60
      · skip
        refine lv_iconst (v := 1) hx hb dX7_canLoad_55 (by decide) ?_
        refine lv_goto (tgt := 60) hx hb dX7_canLoad_56 (by decide) ?_
        exact W.zret (v := 1) hx hb hr rfl (fun t ht hW => ⟨_, rfl, ⟨1, rfl, trivial⟩, ht⟩) (fun q h => by cases h) dX7_canLoad_60
    | succ k ih5 =>
      intro j5 x5_3 ls hj hl
      have hj5 : j5 < 6 := by omega
      refine lv_iload hx hb dX7_canLoad_5 (lv_at hl 0 rfl) ?_
      refine lv_bipush (v := 6) hx hb dX7_canLoad_7 (by decide) ?_
      refine lv_icmp_ge (tgt := 47) hx hb dX7_canLoad_9 (by decide) (fun h_4 => absurd h_4 (lp_ge (B := 6) (by omega) (by omega) rfl)) (fun h_4 => ?_)
      refine lv_aload_n hx hb dX7_canLoad_12 rfl (lv_at hl 2 rfl) ?_
      refine va_get (D := (dC, dI)) (ci := 6) (v := .ref (q 8)) (C := RX7) (T := TX7) (N := 14) hx hb hts hinX7 hown hK hP 0 rfl rfl 7 (by decide) (hts (.fieldLink RX7 44 "FurPosts" "loaded" "[I") (by decide +kernel)) (fun _ h9 => h9) rfl dX7_canLoad_13 ?_
      refine lv_iload hx hb dX7_canLoad_16 (lv_at hl 0 rfl) ?_
      obtain ⟨hm5, i5, g5, hi5, he5⟩ := at_15 (xo_ h0 q n dl) hT hQ.2.2.2.2.2.2.2
      refine va_iald hx hb hK hP i5 0 he5 rfl (i := (nI j5)) (vp_in_nI (show j5 < 6 by omega) (by decide)) dX7_canLoad_18 ?_
      refine lv_topi (fun v6 _ => ?_)
      refine lv_aload_n hx hb dX7_canLoad_19 rfl (lv_at hl 3 rfl) ?_
      obtain ⟨hm7, i7, s7, p7, o7, r7, hi7, he7, k7_0, k7_1, k7_2, k7_3⟩ := at_1 (xo_ h0 q n dl) hT ka1
      refine va_get (D := (dC, dI)) (ci := 3) (v := .ref s7) (C := RX4) (T := TX4) (N := 4) hx hb hts hinX4 hown hK hP i7 he7 rfl 0 (by decide) (hts (.fieldLink RX7 92 "FurPosts$Post" "stock" "[I") (by decide +kernel)) (fun _ h9 => h9) rfl dX7_canLoad_20 ?_
      refine lv_iload hx hb dX7_canLoad_23 (lv_at hl 0 rfl) ?_
      obtain ⟨hm8, i8, g8, hi8, he8⟩ := at_15 (xo_ h0 q n dl) hT k7_0
      refine va_iald hx hb hK hP i8 0 he8 rfl (i := (nI j5)) (vp_in_nI (show j5 < 6 by omega) (by decide)) dX7_canLoad_25 ?_
      refine lv_topi (fun v9 _ => ?_)
      refine lv_icmp_le (tgt := 31) hx hb dX7_canLoad_26 (by decide) (fun h_10 => ?_) (fun h_10 => ?_)
      · skip
        refine lv_iload_n hx hb dX7_canLoad_31 rfl (lv_at hl 1 rfl) ?_
        refine lv_aload_n hx hb dX7_canLoad_32 rfl (lv_at hl 2 rfl) ?_
        refine va_get (D := (dC, dI)) (ci := 6) (v := .ref (q 8)) (C := RX7) (T := TX7) (N := 14) hx hb hts hinX7 hown hK hP 0 rfl rfl 7 (by decide) (hts (.fieldLink RX7 44 "FurPosts" "loaded" "[I") (by decide +kernel)) (fun _ h9 => h9) rfl dX7_canLoad_33 ?_
        refine lv_iload hx hb dX7_canLoad_36 (lv_at hl 0 rfl) ?_
        refine va_iald hx hb hK hP i5 0 he5 rfl (i := (nI j5)) (vp_in_nI (show j5 < 6 by omega) (by decide)) dX7_canLoad_38 ?_
        refine lv_topi (fun v11 _ => ?_)
        refine lv_iadd hx hb dX7_canLoad_39 ?_
        refine lv_topi (fun v12 _ => ?_)
        refine lv_istore_n (lv' := [(3, .int v12), (4, .int (nI j5)), (0, .ref h0), (1, .ref a1), (2, .ref a2)]) hx hb dX7_canLoad_40 rfl hl (by decide) rfl (fun ls hl => ?_)
        refine lv_iinc (v := (nI (j5 + 1))) (lv' := [(4, .int (nI (j5 + 1))), (3, .int v12), (0, .ref h0), (1, .ref a1), (2, .ref a2)]) hx hb dX7_canLoad_41 hl (k := 1) rfl (show nI j5 + 1 = nI (j5 + 1) from nI_1 j5) (by decide) rfl (fun ls hl => ?_)
        refine lv_goto (tgt := 5) hx hb dX7_canLoad_44 (by decide) ?_
        exact ih5 (j5 + 1) v12 ls (by omega) (lv_sub hl [0, 1, 2, 3, 4] rfl)
      · skip
        refine lv_iconst (v := 0) hx hb dX7_canLoad_29 (by decide) ?_
        exact W.zret (v := 0) hx hb hr rfl (fun t ht hW => ⟨_, rfl, ⟨0, rfl, trivial⟩, ht⟩) (fun q h => by cases h) dX7_canLoad_30
  exact key5 6 0 0 ls (by omega) (lv_sub hl [0, 1, 2, 3, 4] rfl)

set_option maxHeartbeats 4000000 in
set_option maxRecDepth 100000 in
theorem k_X7_areWantsRight (l : Launch) (dC : Nat → ClassId) (dI : Nat → Nat → Nat) (h0 : Nat) (q n : Nat → Nat) (dl : Int32) (cI : ClassId) (cy : Nat → ClassId) (L : List Nat) (t : Nat → Nat) (f : Nat → va_E) (hT : ty_ cI cy L t f) (hQ : qs_ q t) (hN : nb_ n) (a1 : Int32) (hb0 : vp_in a1 6) : Met l yX7_areWantsRight wsX7_areWantsRight ({ frames := 0, cells := 0, slots := 0, locals := 0 }) (va_Pc [.ref h0, .int a1] (pt_P (dC, dI) vwCl (tt_ cI cy) (xo_ h0 q n dl ++ va_pl L f))) (pg_Q (gi_ (fun r => True))) 0 0 pu_F := by
  refine Met.ofW (cc := cX7_areWantsRight) (maxL := 4) (ret := (some .boolean)) (by decide) rfl ?_
  intro p e s m args below meth c s₁ B hml hv
  obtain ⟨rfl, hP, hK, hW0⟩ := hv
  have hx := B.exec
  have hb := B.bytes
  have hr := B.returns
  have hts := atoms_spec (ws := wsX7_areWantsRight) B.pre
  have hown : s.vm.findClass RX7 = some m.cls := findClass_of_methodNamed B.named
  have hlocks := B.notSynchronized
  have hinX7 : ∀ w ∈ u_ws RX7 TX7 14, w ∈ wsX7_areWantsRight := by decide +kernel
  have hl := lv_entry ([.ref h0, .int a1]) (n := 4) (Nat.le_of_ble_eq_true rfl)
  rw [lg_entry_eq]
  generalize (lg_sl ([.ref h0, .int a1]) ++ List.replicate (4 - (lg_sl ([.ref h0, .int a1])).length) Slot.unset).toArray = ls at hl ⊢
  have hl : lv_has ls 4 [(0, .ref h0), (1, .int a1)] := hl
  refine lv_iconst (v := 0) hx hb dX7_areWantsRight_0 (by decide) ?_
  refine lv_istore_n (lv' := [(2, .int 0), (0, .ref h0), (1, .int a1)]) hx hb dX7_areWantsRight_1 rfl hl (by decide) rfl (fun ls hl => ?_)
  refine lv_iconst (v := 0) hx hb dX7_areWantsRight_2 (by decide) ?_
  refine lv_istore_n (lv' := [(3, .int 0), (2, .int 0), (0, .ref h0), (1, .int a1)]) hx hb dX7_areWantsRight_3 rfl hl (by decide) rfl (fun ls hl => ?_)
  have key4 : ∀ (k j4 : Nat) (x4_2 : Int32) (ls : Array Slot), j4 + k = 21 → lv_has ls 4 [(3, .int (nI j4)), (2, .int x4_2), (0, .ref h0), (1, .int a1)] →
      W p l e (headSpec wsX7_areWantsRight ({ frames := 0, cells := 0, slots := 0, locals := 0 })).room s m [.ref h0, .int a1].toArray below meth c s.heap [] 0 0 (MQ below (pg_Q (gi_ (fun r => True))) [.ref h0, .int a1].toArray s 0 0 pu_F) (F0 m 4 ls []) := by
    intro k
    induction k with
    | zero =>
      intro j4 x4_2 ls hj hl
      have hj : j4 = 21 := by omega
      subst j4
      refine lv_iload_n hx hb dX7_areWantsRight_4 rfl (lv_at hl 0 rfl) ?_
      refine lv_bipush (v := 20) hx hb dX7_areWantsRight_5 (by decide) ?_
      refine lv_icmp_gt (tgt := 27) hx hb dX7_areWantsRight_7 (by decide) (fun h_1 => ?_) (fun h_1 => absurd (lp_gt0 (B := 21) (by omega) rfl) h_1)
      refine lv_iload_n hx hb dX7_areWantsRight_27 rfl (lv_at hl 1 rfl) ?_
      refine lv_sipush (v := 1000) hx hb dX7_areWantsRight_28 (by decide) ?_
      refine lv_icmp_ne (tgt := 38) hx hb dX7_areWantsRight_31 (by decide) (fun h_2 => ?_) (fun h_2 => ?_)
      · skip
        refine lv_iconst (v := 0) hx hb dX7_areWantsRight_38 (by decide) ?_
        exact W.zret (v := 0) hx hb hr rfl (fun t ht hW => ⟨_, rfl, ⟨0, rfl, trivial⟩, ht⟩) (fun q h => by cases h) dX7_areWantsRight_39
      · skip
        refine lv_iconst (v := 1) hx hb dX7_areWantsRight_34 (by decide) ?_
        refine lv_goto (tgt := 39) hx hb dX7_areWantsRight_35 (by decide) ?_
        exact W.zret (v := 1) hx hb hr rfl (fun t ht hW => ⟨_, rfl, ⟨1, rfl, trivial⟩, ht⟩) (fun q h => by cases h) dX7_areWantsRight_39
    | succ k ih4 =>
      intro j4 x4_2 ls hj hl
      have hj4 : j4 < 21 := by omega
      refine lv_iload_n hx hb dX7_areWantsRight_4 rfl (lv_at hl 0 rfl) ?_
      refine lv_bipush (v := 20) hx hb dX7_areWantsRight_5 (by decide) ?_
      refine lv_icmp_gt (tgt := 27) hx hb dX7_areWantsRight_7 (by decide) (fun h_3 => absurd h_3 (lp_gt (B := 21) (by omega) (by omega) rfl)) (fun h_3 => ?_)
      refine lv_iload_n hx hb dX7_areWantsRight_10 rfl (lv_at hl 1 rfl) ?_
      refine lv_aload_n hx hb dX7_areWantsRight_11 rfl (lv_at hl 2 rfl) ?_
      refine va_get (D := (dC, dI)) (ci := 6) (v := .ref (q 6)) (C := RX7) (T := TX7) (N := 14) hx hb hts hinX7 hown hK hP 0 rfl rfl 5 (by decide) (hts (.fieldLink RX7 38 "FurPosts" "wants" "[[I") (by decide +kernel)) (fun _ h9 => h9) rfl dX7_areWantsRight_12 ?_
      refine lv_iload_n hx hb dX7_areWantsRight_15 rfl (lv_at hl 3 rfl) ?_
      obtain ⟨hm4, i4, r4, hi4, he4, k4_0⟩ := at_13 (xo_ h0 q n dl) hT hQ.2.2.2.2.2.1
      refine va_ald2 hx hb hK hP i4 7 he4 rfl (i := a1) hb0 (b := r4 (Int32.toNatClampNeg a1)) (if_pos (vp_lt hb0)) dX7_areWantsRight_16 ?_
      have hr5 := k4_0 (Int32.toNatClampNeg a1) (vp_lt hb0)
      generalize r4 (Int32.toNatClampNeg a1) = b5 at hr5 ⊢
      refine lv_iload_n hx hb dX7_areWantsRight_17 rfl (lv_at hl 0 rfl) ?_
      obtain ⟨hm6, i6, g6, hi6, he6⟩ := at_18 (xo_ h0 q n dl) hT hr5
      refine va_iald hx hb hK hP i6 0 he6 rfl (i := (nI j4)) (vp_in_nI (show j4 < 21 by omega) (by decide)) dX7_areWantsRight_18 ?_
      refine lv_topi (fun v7 _ => ?_)
      refine lv_iadd hx hb dX7_areWantsRight_19 ?_
      refine lv_topi (fun v8 _ => ?_)
      refine lv_istore_n (lv' := [(2, .int v8), (3, .int (nI j4)), (0, .ref h0), (1, .int a1)]) hx hb dX7_areWantsRight_20 rfl hl (by decide) rfl (fun ls hl => ?_)
      refine lv_iinc (v := (nI (j4 + 1))) (lv' := [(3, .int (nI (j4 + 1))), (2, .int v8), (0, .ref h0), (1, .int a1)]) hx hb dX7_areWantsRight_21 hl (k := 1) rfl (show nI j4 + 1 = nI (j4 + 1) from nI_1 j4) (by decide) rfl (fun ls hl => ?_)
      refine lv_goto (tgt := 4) hx hb dX7_areWantsRight_24 (by decide) ?_
      exact ih4 (j4 + 1) v8 ls (by omega) (lv_sub hl [0, 1, 2, 3] rfl)
  exact key4 21 0 0 ls (by omega) (lv_sub hl [0, 1, 2, 3] rfl)

set_option maxHeartbeats 4000000 in
set_option maxRecDepth 100000 in
theorem k_X7_countBag (l : Launch) (dC : Nat → ClassId) (dI : Nat → Nat → Nat) (h0 : Nat) (q n : Nat → Nat) (dl : Int32) (cI : ClassId) (cy : Nat → ClassId) (L : List Nat) (t : Nat → Nat) (f : Nat → va_E) (hT : ty_ cI cy L t f) (hQ : qs_ q t) (hN : nb_ n) (a1 : Int32) : Met l yX7_countBag wsX7_countBag ({ frames := 1, cells := 0, slots := 0, locals := 21 }) (va_Pc [.ref h0, .int a1] (pt_P (dC, dI) vwCl (tt_ cI cy) (xo_ h0 q n dl ++ va_pl L f))) (pg_Q (gi_ (fun r => True))) 0 0 pu_F := by
  refine Met.ofW (cc := cX7_countBag) (maxL := 5) (ret := (some .int)) (by decide) rfl ?_
  intro p e s m args below meth c s₁ B hml hv
  obtain ⟨rfl, hP, hK, hW0⟩ := hv
  have hx := B.exec
  have hb := B.bytes
  have hr := B.returns
  have hts := atoms_spec (ws := wsX7_countBag) B.pre
  have hown : s.vm.findClass RX7 = some m.cls := findClass_of_methodNamed B.named
  have hlocks := B.notSynchronized
  have hinX1 : ∀ w ∈ u_ws RX1 TX1 6, w ∈ wsX7_countBag := by decide +kernel
  have hinX3 : ∀ w ∈ u_ws RX3 TX3 6, w ∈ wsX7_countBag := by decide +kernel
  have hinX5 : ∀ w ∈ u_ws RX5 TX5 6, w ∈ wsX7_countBag := by decide +kernel
  have hinX7 : ∀ w ∈ u_ws RX7 TX7 14, w ∈ wsX7_countBag := by decide +kernel
  have hl := lv_entry ([.ref h0, .int a1]) (n := 5) (Nat.le_of_ble_eq_true rfl)
  rw [lg_entry_eq]
  generalize (lg_sl ([.ref h0, .int a1]) ++ List.replicate (5 - (lg_sl ([.ref h0, .int a1])).length) Slot.unset).toArray = ls at hl ⊢
  have hl : lv_has ls 5 [(0, .ref h0), (1, .int a1)] := hl
  refine lv_iconst (v := 0) hx hb dX7_countBag_0 (by decide) ?_
  refine lv_istore_n (lv' := [(2, .int 0), (0, .ref h0), (1, .int a1)]) hx hb dX7_countBag_1 rfl hl (by decide) rfl (fun ls hl => ?_)
  refine lv_iconst (v := 0) hx hb dX7_countBag_2 (by decide) ?_
  refine lv_istore_n (lv' := [(3, .int 0), (2, .int 0), (0, .ref h0), (1, .int a1)]) hx hb dX7_countBag_3 rfl hl (by decide) rfl (fun ls hl => ?_)
  have key4 : ∀ (k j4 : Nat) (x4_2 : Int32) (ls : Array Slot), j4 + k = (n 4) → lv_has ls 5 [(3, .int (nI j4)), (2, .int x4_2), (0, .ref h0), (1, .int a1)] →
      W p l e (headSpec wsX7_countBag ({ frames := 1, cells := 0, slots := 0, locals := 21 })).room s m [.ref h0, .int a1].toArray below meth c s.heap [] 0 0 (MQ below (pg_Q (gi_ (fun r => True))) [.ref h0, .int a1].toArray s 0 0 pu_F) (F0 m 4 ls []) := by
    intro k
    induction k with
    | zero =>
      intro j4 x4_2 ls hj hl
      have hj : j4 = (n 4) := by omega
      subst j4
      refine lv_iload_n hx hb dX7_countBag_4 rfl (lv_at hl 0 rfl) ?_
      refine lv_aload_n hx hb dX7_countBag_5 rfl (lv_at hl 2 rfl) ?_
      refine va_get (D := (dC, dI)) (ci := 6) (v := .int (nI (n 4))) (C := RX7) (T := TX7) (N := 14) hx hb hts hinX7 hown hK hP 0 rfl rfl 12 (by decide) (hts (.fieldLink RX7 165 "FurPosts" "letterCount" "I") (by decide +kernel)) (fun _ h9 => h9) rfl dX7_countBag_6 ?_
      refine lv_icmp_ge (tgt := 42) hx hb dX7_countBag_9 (by decide) (fun h_1 => ?_) (fun h_1 => absurd (lp_ge0 (B := (n 4)) rfl) h_1)
      refine lv_iload_n hx hb dX7_countBag_42 rfl (lv_at hl 1 rfl) ?_
      exact W.iret (v := x4_2) hx hb hr (fun t ht hW => ⟨_, rfl, ⟨x4_2, rfl, trivial⟩, ht⟩) (fun q h => by cases h) dX7_countBag_43
    | succ k ih4 =>
      intro j4 x4_2 ls hj hl
      have hj4 : j4 < (n 4) := by omega
      refine lv_iload_n hx hb dX7_countBag_4 rfl (lv_at hl 0 rfl) ?_
      refine lv_aload_n hx hb dX7_countBag_5 rfl (lv_at hl 2 rfl) ?_
      refine va_get (D := (dC, dI)) (ci := 6) (v := .int (nI (n 4))) (C := RX7) (T := TX7) (N := 14) hx hb hts hinX7 hown hK hP 0 rfl rfl 12 (by decide) (hts (.fieldLink RX7 165 "FurPosts" "letterCount" "I") (by decide +kernel)) (fun _ h9 => h9) rfl dX7_countBag_6 ?_
      refine lv_icmp_ge (tgt := 42) hx hb dX7_countBag_9 (by decide) (fun h_2 => absurd h_2 (lp_ge (B := (n 4)) (by omega) (by omega) rfl)) (fun h_2 => ?_)
      refine lv_aload_n hx hb dX7_countBag_12 rfl (lv_at hl 2 rfl) ?_
      refine lv_iload_n hx hb dX7_countBag_13 rfl (lv_at hl 0 rfl) ?_
      refine pg_call (va_runV (As := [.int (nI j4)]) (rest := []) ⟨hx, hb, hml, hown, hts⟩ (k_X7_letterAt l dC dI h0 q n dl cI cy L t f hT hQ hN (nI j4)) (cwV 1 hts gX7_countBag_X7_letterAt rfl rfl rfl (by decide +kernel) ⟨Nat.le_of_ble_eq_true rfl, Nat.le_of_ble_eq_true rfl⟩) (pt_pre hP hK hW0 (ci := 6) (q0 := 0) rfl rfl) rfl rfl hl.1 rfl (lv_room (Nat.le_of_ble_eq_true rfl)) dX7_countBag_14 ⟨Nat.le_of_ble_eq_true rfl, Nat.le_of_ble_eq_true rfl⟩) (fun w3 hw3 => ?_)
      obtain ⟨o3, rfl, hg3⟩ := hw3
      cases o3 with
      | none =>
        refine lv_astoreN (lv' := [(4, .null), (3, .int (nI j4)), (2, .int x4_2), (0, .ref h0), (1, .int a1)]) hx hb dX7_countBag_17 hl (by decide) rfl (fun ls hl => ?_)
        refine lv_aloadN hx hb dX7_countBag_19 (lv_at hl 0 rfl) ?_
        refine lv_ifnullN (tgt := 36) hx hb dX7_countBag_21 (by decide) ?_
        refine lv_iinc (v := (nI (j4 + 1))) (lv' := [(3, .int (nI (j4 + 1))), (4, .null), (2, .int x4_2), (0, .ref h0), (1, .int a1)]) hx hb dX7_countBag_36 hl (k := 1) rfl (show nI j4 + 1 = nI (j4 + 1) from nI_1 j4) (by decide) rfl (fun ls hl => ?_)
        refine lv_goto (tgt := 4) hx hb dX7_countBag_39 (by decide) ?_
        exact ih4 (j4 + 1) x4_2 ls (by omega) (lv_sub hl [0, 2, 3, 4] rfl)
      | some b3 =>
        have hk3 := hg3 b3 rfl
        refine lv_astore (lv' := [(4, .ref b3), (3, .int (nI j4)), (2, .int x4_2), (0, .ref h0), (1, .int a1)]) hx hb dX7_countBag_17 hl (by decide) rfl (fun ls hl => ?_)
        refine lv_aload hx hb dX7_countBag_19 (lv_at hl 0 rfl) ?_
        refine lv_ifnull hx hb dX7_countBag_21 ?_
        refine lv_aload hx hb dX7_countBag_24 (lv_at hl 0 rfl) ?_
        refine gl_get 2 (by decide) hx hb hts hinX1 hinX3 hinX5 hown hK hP hT hk3.1 (own := RX7) (index := 172) (hts (.fieldLink RX7 172 "FurPosts$Letter" "bag" "I") (by decide +kernel)) dX7_countBag_26 (fun v4 => ?_)
        refine lv_iload_n hx hb dX7_countBag_29 rfl (lv_at hl 4 rfl) ?_
        refine lv_icmp_ne (tgt := 36) hx hb dX7_countBag_30 (by decide) (fun h_5 => ?_) (fun h_5 => ?_)
        · skip
          refine lv_iinc (v := (nI (j4 + 1))) (lv' := [(3, .int (nI (j4 + 1))), (4, .ref b3), (2, .int x4_2), (0, .ref h0), (1, .int a1)]) hx hb dX7_countBag_36 hl (k := 1) rfl (show nI j4 + 1 = nI (j4 + 1) from nI_1 j4) (by decide) rfl (fun ls hl => ?_)
          refine lv_goto (tgt := 4) hx hb dX7_countBag_39 (by decide) ?_
          exact ih4 (j4 + 1) x4_2 ls (by omega) (lv_sub hl [0, 2, 3, 4] rfl)
        · skip
          refine lv_iinc (v := (x4_2 + 1)) (lv' := [(2, .int (x4_2 + 1)), (4, .ref b3), (3, .int (nI j4)), (0, .ref h0), (1, .int a1)]) hx hb dX7_countBag_33 hl (k := 2) rfl rfl (by decide) rfl (fun ls hl => ?_)
          refine lv_iinc (v := (nI (j4 + 1))) (lv' := [(3, .int (nI (j4 + 1))), (2, .int (x4_2 + 1)), (4, .ref b3), (0, .ref h0), (1, .int a1)]) hx hb dX7_countBag_36 hl (k := 2) rfl (show nI j4 + 1 = nI (j4 + 1) from nI_1 j4) (by decide) rfl (fun ls hl => ?_)
          refine lv_goto (tgt := 4) hx hb dX7_countBag_39 (by decide) ?_
          exact ih4 (j4 + 1) (x4_2 + 1) ls (by omega) (lv_sub hl [0, 1, 3, 4] rfl)
  exact key4 (n 4) 0 0 ls (by omega) (lv_sub hl [0, 1, 2, 3] rfl)

set_option maxHeartbeats 4000000 in
set_option maxRecDepth 100000 in
theorem k_X7_countOfAll (l : Launch) (dC : Nat → ClassId) (dI : Nat → Nat → Nat) (h0 : Nat) (q n : Nat → Nat) (dl : Int32) (cI : ClassId) (cy : Nat → ClassId) (L : List Nat) (t : Nat → Nat) (f : Nat → va_E) (hT : ty_ cI cy L t f) (hQ : qs_ q t) (hN : nb_ n) (a1 : Int32) : Met l yX7_countOfAll wsX7_countOfAll ({ frames := 0, cells := 0, slots := 0, locals := 0 }) (va_Pc [.ref h0, .int a1] (pt_P (dC, dI) vwCl (tt_ cI cy) (xo_ h0 q n dl ++ va_pl L f))) (pg_Q (gi_ (fun r => True))) 0 0 pu_F := by
  refine Met.ofW (cc := cX7_countOfAll) (maxL := 2) (ret := (some .int)) (by decide) rfl ?_
  intro p e s m args below meth c s₁ B hml hv
  obtain ⟨rfl, hP, hK, hW0⟩ := hv
  have hx := B.exec
  have hb := B.bytes
  have hr := B.returns
  have hts := atoms_spec (ws := wsX7_countOfAll) B.pre
  have hown : s.vm.findClass RX7 = some m.cls := findClass_of_methodNamed B.named
  have hlocks := B.notSynchronized
  have hinX7 : ∀ w ∈ u_ws RX7 TX7 14, w ∈ wsX7_countOfAll := by decide +kernel
  have hl := lv_entry ([.ref h0, .int a1]) (n := 2) (Nat.le_of_ble_eq_true rfl)
  rw [lg_entry_eq]
  generalize (lg_sl ([.ref h0, .int a1]) ++ List.replicate (2 - (lg_sl ([.ref h0, .int a1])).length) Slot.unset).toArray = ls at hl ⊢
  have hl : lv_has ls 2 [(0, .ref h0), (1, .int a1)] := hl
  refine lv_iload_n hx hb dX7_countOfAll_0 rfl (lv_at hl 1 rfl) ?_
  rcases (Decidable.em (a1 = 0)) with e_1 | e_1
  · refine lv_tableIn (off := 39) (tgt := 40) hx hb dX7_countOfAll_1 (by rw [e_1]; decide) (by rw [e_1]; decide) (by rw [e_1]; rfl) (by decide) ?_
    refine lv_aload_n hx hb dX7_countOfAll_40 rfl (lv_at hl 0 rfl) ?_
    refine va_get (D := (dC, dI)) (ci := 6) (v := .int (nI (n 0))) (C := RX7) (T := TX7) (N := 14) hx hb hts hinX7 hown hK hP 0 rfl rfl 8 (by decide) (hts (.fieldLink RX7 103 "FurPosts" "now" "I") (by decide +kernel)) (fun _ h9 => h9) rfl dX7_countOfAll_41 ?_
    exact W.iret (v := (nI (n 0))) hx hb hr (fun t ht hW => ⟨_, rfl, ⟨(nI (n 0)), rfl, trivial⟩, ht⟩) (fun q h => by cases h) dX7_countOfAll_44
  rcases (Decidable.em (a1 = 1)) with e_2 | e_2
  · refine lv_tableIn (off := 44) (tgt := 45) hx hb dX7_countOfAll_1 (by rw [e_2]; decide) (by rw [e_2]; decide) (by rw [e_2]; rfl) (by decide) ?_
    refine lv_aload_n hx hb dX7_countOfAll_45 rfl (lv_at hl 0 rfl) ?_
    refine va_get (D := (dC, dI)) (ci := 6) (v := .int (nI (n 1))) (C := RX7) (T := TX7) (N := 14) hx hb hts hinX7 hown hK hP 0 rfl rfl 9 (by decide) (hts (.fieldLink RX7 54 "FurPosts" "postCount" "I") (by decide +kernel)) (fun _ h9 => h9) rfl dX7_countOfAll_46 ?_
    exact W.iret (v := (nI (n 1))) hx hb hr (fun t ht hW => ⟨_, rfl, ⟨(nI (n 1)), rfl, trivial⟩, ht⟩) (fun q h => by cases h) dX7_countOfAll_49
  rcases (Decidable.em (a1 = 2)) with e_3 | e_3
  · refine lv_tableIn (off := 49) (tgt := 50) hx hb dX7_countOfAll_1 (by rw [e_3]; decide) (by rw [e_3]; decide) (by rw [e_3]; rfl) (by decide) ?_
    refine lv_aload_n hx hb dX7_countOfAll_50 rfl (lv_at hl 0 rfl) ?_
    refine va_get (D := (dC, dI)) (ci := 6) (v := .int (nI (n 2))) (C := RX7) (T := TX7) (N := 14) hx hb hts hinX7 hown hK hP 0 rfl rfl 10 (by decide) (hts (.fieldLink RX7 63 "FurPosts" "wayCount" "I") (by decide +kernel)) (fun _ h9 => h9) rfl dX7_countOfAll_51 ?_
    exact W.iret (v := (nI (n 2))) hx hb hr (fun t ht hW => ⟨_, rfl, ⟨(nI (n 2)), rfl, trivial⟩, ht⟩) (fun q h => by cases h) dX7_countOfAll_54
  rcases (Decidable.em (a1 = 3)) with e_4 | e_4
  · refine lv_tableIn (off := 54) (tgt := 55) hx hb dX7_countOfAll_1 (by rw [e_4]; decide) (by rw [e_4]; decide) (by rw [e_4]; rfl) (by decide) ?_
    refine lv_aload_n hx hb dX7_countOfAll_55 rfl (lv_at hl 0 rfl) ?_
    refine va_get (D := (dC, dI)) (ci := 6) (v := .int (nI (n 3))) (C := RX7) (T := TX7) (N := 14) hx hb hts hinX7 hown hK hP 0 rfl rfl 11 (by decide) (hts (.fieldLink RX7 113 "FurPosts" "canoeCount" "I") (by decide +kernel)) (fun _ h9 => h9) rfl dX7_countOfAll_56 ?_
    exact W.iret (v := (nI (n 3))) hx hb hr (fun t ht hW => ⟨_, rfl, ⟨(nI (n 3)), rfl, trivial⟩, ht⟩) (fun q h => by cases h) dX7_countOfAll_59
  rcases (Decidable.em (a1 = 4)) with e_5 | e_5
  · refine lv_tableIn (off := 59) (tgt := 60) hx hb dX7_countOfAll_1 (by rw [e_5]; decide) (by rw [e_5]; decide) (by rw [e_5]; rfl) (by decide) ?_
    refine lv_aload_n hx hb dX7_countOfAll_60 rfl (lv_at hl 0 rfl) ?_
    refine va_get (D := (dC, dI)) (ci := 6) (v := .int (nI (n 4))) (C := RX7) (T := TX7) (N := 14) hx hb hts hinX7 hown hK hP 0 rfl rfl 12 (by decide) (hts (.fieldLink RX7 165 "FurPosts" "letterCount" "I") (by decide +kernel)) (fun _ h9 => h9) rfl dX7_countOfAll_61 ?_
    exact W.iret (v := (nI (n 4))) hx hb hr (fun t ht hW => ⟨_, rfl, ⟨(nI (n 4)), rfl, trivial⟩, ht⟩) (fun q h => by cases h) dX7_countOfAll_64
  rcases (Decidable.em (a1 = 5)) with e_6 | e_6
  · refine lv_tableIn (off := 64) (tgt := 65) hx hb dX7_countOfAll_1 (by rw [e_6]; decide) (by rw [e_6]; decide) (by rw [e_6]; rfl) (by decide) ?_
    refine lv_aload_n hx hb dX7_countOfAll_65 rfl (lv_at hl 0 rfl) ?_
    refine va_get (D := (dC, dI)) (ci := 6) (v := .int dl) (C := RX7) (T := TX7) (N := 14) hx hb hts hinX7 hown hK hP 0 rfl rfl 13 (by decide) (hts (.fieldLink RX7 190 "FurPosts" "debtsLost" "I") (by decide +kernel)) (fun _ h9 => h9) rfl dX7_countOfAll_66 ?_
    exact W.iret (v := dl) hx hb hr (fun t ht hW => ⟨_, rfl, ⟨dl, rfl, trivial⟩, ht⟩) (fun q h => by cases h) dX7_countOfAll_69
  refine lv_tableOut (tgt := 70) hx hb dX7_countOfAll_1 (by have j_0 := sw_n (n := 0) (k := 0) e_1 (by decide); have j_1 := sw_n (n := 1) (k := 1) e_2 (by decide); have j_2 := sw_n (n := 2) (k := 2) e_3 (by decide); have j_3 := sw_n (n := 3) (k := 3) e_4 (by decide); have j_4 := sw_n (n := 4) (k := 4) e_5 (by decide); have j_5 := sw_n (n := 5) (k := 5) e_6 (by decide); omega) (by decide) ?_
  refine lv_iconst (v := (-1)) hx hb dX7_countOfAll_70 (by decide) ?_
  exact W.iret (v := (-1)) hx hb hr (fun t ht hW => ⟨_, rfl, ⟨(-1), rfl, trivial⟩, ht⟩) (fun q h => by cases h) dX7_countOfAll_71

set_option maxHeartbeats 4000000 in
set_option maxRecDepth 100000 in
theorem k_X7_owes (l : Launch) (dC : Nat → ClassId) (dI : Nat → Nat → Nat) (h0 : Nat) (q n : Nat → Nat) (dl : Int32) (cI : ClassId) (cy : Nat → ClassId) (L : List Nat) (t : Nat → Nat) (f : Nat → va_E) (hT : ty_ cI cy L t f) (hQ : qs_ q t) (hN : nb_ n) (a1 : Int32) (a2 : Int32) : Met l yX7_owes wsX7_owes ({ frames := 1, cells := 0, slots := 0, locals := 21 }) (va_Pc [.ref h0, .int a1, .int a2] (pt_P (dC, dI) vwCl (tt_ cI cy) (xo_ h0 q n dl ++ va_pl L f))) (pg_Q (gi_ (fun r => True))) 0 0 pu_F := by
  refine Met.ofW (cc := cX7_owes) (maxL := 4) (ret := (some .int)) (by decide) rfl ?_
  intro p e s m args below meth c s₁ B hml hv
  obtain ⟨rfl, hP, hK, hW0⟩ := hv
  have hx := B.exec
  have hb := B.bytes
  have hr := B.returns
  have hts := atoms_spec (ws := wsX7_owes) B.pre
  have hown : s.vm.findClass RX7 = some m.cls := findClass_of_methodNamed B.named
  have hlocks := B.notSynchronized
  have hinX4 : ∀ w ∈ u_ws RX4 TX4 4, w ∈ wsX7_owes := by decide +kernel
  have hl := lv_entry ([.ref h0, .int a1, .int a2]) (n := 4) (Nat.le_of_ble_eq_true rfl)
  rw [lg_entry_eq]
  generalize (lg_sl ([.ref h0, .int a1, .int a2]) ++ List.replicate (4 - (lg_sl ([.ref h0, .int a1, .int a2])).length) Slot.unset).toArray = ls at hl ⊢
  have hl : lv_has ls 4 [(0, .ref h0), (1, .int a1), (2, .int a2)] := hl
  refine lv_aload_n hx hb dX7_owes_0 rfl (lv_at hl 0 rfl) ?_
  refine lv_iload_n hx hb dX7_owes_1 rfl (lv_at hl 1 rfl) ?_
  refine pg_call (va_runV (As := [.int a1]) (rest := []) ⟨hx, hb, hml, hown, hts⟩ (k_X7_postAt l dC dI h0 q n dl cI cy L t f hT hQ hN a1) (cwV 1 hts gX7_owes_X7_postAt rfl rfl rfl (by decide +kernel) ⟨Nat.le_of_ble_eq_true rfl, Nat.le_of_ble_eq_true rfl⟩) (pt_pre hP hK hW0 (ci := 6) (q0 := 0) rfl rfl) rfl rfl hl.1 rfl (lv_room (Nat.le_of_ble_eq_true rfl)) dX7_owes_2 ⟨Nat.le_of_ble_eq_true rfl, Nat.le_of_ble_eq_true rfl⟩) (fun w1 hw1 => ?_)
  obtain ⟨o1, rfl, hg1⟩ := hw1
  cases o1 with
  | none =>
    refine lv_astore_nN (lv' := [(3, .null), (0, .ref h0), (1, .int a1), (2, .int a2)]) hx hb dX7_owes_5 rfl hl (by decide) rfl (fun ls hl => ?_)
    refine lv_aload_nN hx hb dX7_owes_6 rfl (lv_at hl 0 rfl) ?_
    refine lv_ifnullN (tgt := 17) hx hb dX7_owes_7 (by decide) ?_
    refine lv_iconst (v := 0) hx hb dX7_owes_17 (by decide) ?_
    refine lv_goto (tgt := 27) hx hb dX7_owes_18 (by decide) ?_
    exact W.iret (v := 0) hx hb hr (fun t ht hW => ⟨_, rfl, ⟨0, rfl, trivial⟩, ht⟩) (fun q h => by cases h) dX7_owes_27
  | some b1 =>
    have hk1 := hg1 b1 rfl
    refine lv_astore_n (lv' := [(3, .ref b1), (0, .ref h0), (1, .int a1), (2, .int a2)]) hx hb dX7_owes_5 rfl hl (by decide) rfl (fun ls hl => ?_)
    refine lv_aload_n hx hb dX7_owes_6 rfl (lv_at hl 0 rfl) ?_
    refine lv_ifnull hx hb dX7_owes_7 ?_
    refine lv_iload_n hx hb dX7_owes_10 rfl (lv_at hl 3 rfl) ?_
    refine pu_call (va_runS (As := [.int a2]) (rest := []) ⟨hx, hb, hml, hown, hts⟩ (c_X7_isHunter l a2) (va_cwS 1 hts gX7_owes_X7_isHunter rfl rfl rfl (by decide +kernel) ⟨Nat.le_of_ble_eq_true rfl, Nat.le_of_ble_eq_true rfl⟩) pu_preS rfl rfl hl.1 rfl (lv_room (Nat.le_of_ble_eq_true rfl)) dX7_owes_11 ⟨Nat.le_of_ble_eq_true rfl, Nat.le_of_ble_eq_true rfl⟩) ?_
    refine lv_if_ne (tgt := 21) hx hb dX7_owes_14 (by decide) (fun h_2 => ?_) (fun h_2 => ?_)
    · skip
      refine lv_aload_n hx hb dX7_owes_21 rfl (lv_at hl 0 rfl) ?_
      obtain ⟨hm3, i3, s3, p3, o3, r3, hi3, he3, k3_0, k3_1, k3_2, k3_3⟩ := at_1 (xo_ h0 q n dl) hT hk1.1
      refine va_get (D := (dC, dI)) (ci := 3) (v := .ref o3) (C := RX4) (T := TX4) (N := 4) hx hb hts hinX4 hown hK hP i3 he3 rfl 2 (by decide) (hts (.fieldLink RX7 214 "FurPosts$Post" "owed" "[I") (by decide +kernel)) (fun _ h9 => h9) rfl dX7_owes_22 ?_
      refine lv_iload_n hx hb dX7_owes_25 rfl (lv_at hl 3 rfl) ?_
      obtain ⟨hm4, i4, g4, hi4, he4⟩ := at_17 (xo_ h0 q n dl) hT k3_2
      refine va_iald hx hb hK hP i4 0 he4 rfl (i := a2) (sp_vp h_2 rfl) dX7_owes_26 ?_
      refine lv_topi (fun v5 _ => ?_)
      exact W.iret (v := v5) hx hb hr (fun t ht hW => ⟨_, rfl, ⟨v5, rfl, trivial⟩, ht⟩) (fun q h => by cases h) dX7_owes_27
    · skip
      refine lv_iconst (v := 0) hx hb dX7_owes_17 (by decide) ?_
      refine lv_goto (tgt := 27) hx hb dX7_owes_18 (by decide) ?_
      exact W.iret (v := 0) hx hb hr (fun t ht hW => ⟨_, rfl, ⟨0, rfl, trivial⟩, ht⟩) (fun q h => by cases h) dX7_owes_27

set_option maxHeartbeats 4000000 in
set_option maxRecDepth 100000 in
theorem k_X7_price (l : Launch) (dC : Nat → ClassId) (dI : Nat → Nat → Nat) (h0 : Nat) (q n : Nat → Nat) (dl : Int32) (cI : ClassId) (cy : Nat → ClassId) (L : List Nat) (t : Nat → Nat) (f : Nat → va_E) (hT : ty_ cI cy L t f) (hQ : qs_ q t) (hN : nb_ n) (a1 : Int32) (a2 : Int32) : Met l yX7_price wsX7_price ({ frames := 1, cells := 0, slots := 0, locals := 21 }) (va_Pc [.ref h0, .int a1, .int a2] (pt_P (dC, dI) vwCl (tt_ cI cy) (xo_ h0 q n dl ++ va_pl L f))) (pg_Q (gi_ (fun r => True))) 0 0 pu_F := by
  refine Met.ofW (cc := cX7_price) (maxL := 4) (ret := (some .int)) (by decide) rfl ?_
  intro p e s m args below meth c s₁ B hml hv
  obtain ⟨rfl, hP, hK, hW0⟩ := hv
  have hx := B.exec
  have hb := B.bytes
  have hr := B.returns
  have hts := atoms_spec (ws := wsX7_price) B.pre
  have hown : s.vm.findClass RX7 = some m.cls := findClass_of_methodNamed B.named
  have hlocks := B.notSynchronized
  have hinX4 : ∀ w ∈ u_ws RX4 TX4 4, w ∈ wsX7_price := by decide +kernel
  have hl := lv_entry ([.ref h0, .int a1, .int a2]) (n := 4) (Nat.le_of_ble_eq_true rfl)
  rw [lg_entry_eq]
  generalize (lg_sl ([.ref h0, .int a1, .int a2]) ++ List.replicate (4 - (lg_sl ([.ref h0, .int a1, .int a2])).length) Slot.unset).toArray = ls at hl ⊢
  have hl : lv_has ls 4 [(0, .ref h0), (1, .int a1), (2, .int a2)] := hl
  refine lv_aload_n hx hb dX7_price_0 rfl (lv_at hl 0 rfl) ?_
  refine lv_iload_n hx hb dX7_price_1 rfl (lv_at hl 1 rfl) ?_
  refine pg_call (va_runV (As := [.int a1]) (rest := []) ⟨hx, hb, hml, hown, hts⟩ (k_X7_postAt l dC dI h0 q n dl cI cy L t f hT hQ hN a1) (cwV 1 hts gX7_price_X7_postAt rfl rfl rfl (by decide +kernel) ⟨Nat.le_of_ble_eq_true rfl, Nat.le_of_ble_eq_true rfl⟩) (pt_pre hP hK hW0 (ci := 6) (q0 := 0) rfl rfl) rfl rfl hl.1 rfl (lv_room (Nat.le_of_ble_eq_true rfl)) dX7_price_2 ⟨Nat.le_of_ble_eq_true rfl, Nat.le_of_ble_eq_true rfl⟩) (fun w1 hw1 => ?_)
  obtain ⟨o1, rfl, hg1⟩ := hw1
  cases o1 with
  | none =>
    refine lv_astore_nN (lv' := [(3, .null), (0, .ref h0), (1, .int a1), (2, .int a2)]) hx hb dX7_price_5 rfl hl (by decide) rfl (fun ls hl => ?_)
    refine lv_aload_nN hx hb dX7_price_6 rfl (lv_at hl 0 rfl) ?_
    refine lv_ifnullN (tgt := 17) hx hb dX7_price_7 (by decide) ?_
    refine lv_iconst (v := (-1)) hx hb dX7_price_17 (by decide) ?_
    refine lv_goto (tgt := 27) hx hb dX7_price_18 (by decide) ?_
    exact W.iret (v := (-1)) hx hb hr (fun t ht hW => ⟨_, rfl, ⟨(-1), rfl, trivial⟩, ht⟩) (fun q h => by cases h) dX7_price_27
  | some b1 =>
    have hk1 := hg1 b1 rfl
    refine lv_astore_n (lv' := [(3, .ref b1), (0, .ref h0), (1, .int a1), (2, .int a2)]) hx hb dX7_price_5 rfl hl (by decide) rfl (fun ls hl => ?_)
    refine lv_aload_n hx hb dX7_price_6 rfl (lv_at hl 0 rfl) ?_
    refine lv_ifnull hx hb dX7_price_7 ?_
    refine lv_iload_n hx hb dX7_price_10 rfl (lv_at hl 3 rfl) ?_
    refine pu_call (va_runS (As := [.int a2]) (rest := []) ⟨hx, hb, hml, hown, hts⟩ (c_X7_isWare l a2) (va_cwS 1 hts gX7_price_X7_isWare rfl rfl rfl (by decide +kernel) ⟨Nat.le_of_ble_eq_true rfl, Nat.le_of_ble_eq_true rfl⟩) pu_preS rfl rfl hl.1 rfl (lv_room (Nat.le_of_ble_eq_true rfl)) dX7_price_11 ⟨Nat.le_of_ble_eq_true rfl, Nat.le_of_ble_eq_true rfl⟩) ?_
    refine lv_if_ne (tgt := 21) hx hb dX7_price_14 (by decide) (fun h_2 => ?_) (fun h_2 => ?_)
    · skip
      refine lv_aload_n hx hb dX7_price_21 rfl (lv_at hl 0 rfl) ?_
      obtain ⟨hm3, i3, s3, p3, o3, r3, hi3, he3, k3_0, k3_1, k3_2, k3_3⟩ := at_1 (xo_ h0 q n dl) hT hk1.1
      refine va_get (D := (dC, dI)) (ci := 3) (v := .ref p3) (C := RX4) (T := TX4) (N := 4) hx hb hts hinX4 hown hK hP i3 he3 rfl 1 (by decide) (hts (.fieldLink RX7 217 "FurPosts$Post" "prices" "[I") (by decide +kernel)) (fun _ h9 => h9) rfl dX7_price_22 ?_
      refine lv_iload_n hx hb dX7_price_25 rfl (lv_at hl 3 rfl) ?_
      obtain ⟨hm4, i4, g4, hi4, he4⟩ := at_15 (xo_ h0 q n dl) hT k3_1
      refine va_iald hx hb hK hP i4 0 he4 rfl (i := a2) (sp_vp h_2 rfl) dX7_price_26 ?_
      refine lv_topi (fun v5 _ => ?_)
      exact W.iret (v := v5) hx hb hr (fun t ht hW => ⟨_, rfl, ⟨v5, rfl, trivial⟩, ht⟩) (fun q h => by cases h) dX7_price_27
    · skip
      refine lv_iconst (v := (-1)) hx hb dX7_price_17 (by decide) ?_
      refine lv_goto (tgt := 27) hx hb dX7_price_18 (by decide) ?_
      exact W.iret (v := (-1)) hx hb hr (fun t ht hW => ⟨_, rfl, ⟨(-1), rfl, trivial⟩, ht⟩) (fun q h => by cases h) dX7_price_27

set_option maxHeartbeats 4000000 in
set_option maxRecDepth 100000 in
theorem k_X7_known (l : Launch) (dC : Nat → ClassId) (dI : Nat → Nat → Nat) (h0 : Nat) (q n : Nat → Nat) (dl : Int32) (cI : ClassId) (cy : Nat → ClassId) (L : List Nat) (t : Nat → Nat) (f : Nat → va_E) (hT : ty_ cI cy L t f) (hQ : qs_ q t) (hN : nb_ n) (a1 : Int32) (a2 : Int32) (a3 : Int32) : Met l yX7_known wsX7_known ({ frames := 1, cells := 0, slots := 0, locals := 21 }) (va_Pc [.ref h0, .int a1, .int a2, .int a3] (pt_P (dC, dI) vwCl (tt_ cI cy) (xo_ h0 q n dl ++ va_pl L f))) (pg_Q (gi_ (fun r => True))) 0 0 pu_F := by
  refine Met.ofW (cc := cX7_known) (maxL := 6) (ret := (some .int)) (by decide) rfl ?_
  intro p e s m args below meth c s₁ B hml hv
  obtain ⟨rfl, hP, hK, hW0⟩ := hv
  have hx := B.exec
  have hb := B.bytes
  have hr := B.returns
  have hts := atoms_spec (ws := wsX7_known) B.pre
  have hown : s.vm.findClass RX7 = some m.cls := findClass_of_methodNamed B.named
  have hlocks := B.notSynchronized
  have hinX4 : ∀ w ∈ u_ws RX4 TX4 4, w ∈ wsX7_known := by decide +kernel
  have hinX5 : ∀ w ∈ u_ws RX5 TX5 6, w ∈ wsX7_known := by decide +kernel
  have hl := lv_entry ([.ref h0, .int a1, .int a2, .int a3]) (n := 6) (Nat.le_of_ble_eq_true rfl)
  rw [lg_entry_eq]
  generalize (lg_sl ([.ref h0, .int a1, .int a2, .int a3]) ++ List.replicate (6 - (lg_sl ([.ref h0, .int a1, .int a2, .int a3])).length) Slot.unset).toArray = ls at hl ⊢
  have hl : lv_has ls 6 [(0, .ref h0), (1, .int a1), (2, .int a2), (3, .int a3)] := hl
  refine lv_aload_n hx hb dX7_known_0 rfl (lv_at hl 0 rfl) ?_
  refine lv_iload_n hx hb dX7_known_1 rfl (lv_at hl 1 rfl) ?_
  refine pg_call (va_runV (As := [.int a1]) (rest := []) ⟨hx, hb, hml, hown, hts⟩ (k_X7_postAt l dC dI h0 q n dl cI cy L t f hT hQ hN a1) (cwV 1 hts gX7_known_X7_postAt rfl rfl rfl (by decide +kernel) ⟨Nat.le_of_ble_eq_true rfl, Nat.le_of_ble_eq_true rfl⟩) (pt_pre hP hK hW0 (ci := 6) (q0 := 0) rfl rfl) rfl rfl hl.1 rfl (lv_room (Nat.le_of_ble_eq_true rfl)) dX7_known_2 ⟨Nat.le_of_ble_eq_true rfl, Nat.le_of_ble_eq_true rfl⟩) (fun w1 hw1 => ?_)
  obtain ⟨o1, rfl, hg1⟩ := hw1
  cases o1 with
  | none =>
    refine lv_astoreN (lv' := [(4, .null), (0, .ref h0), (1, .int a1), (2, .int a2), (3, .int a3)]) hx hb dX7_known_5 hl (by decide) rfl (fun ls hl => ?_)
    refine lv_aloadN hx hb dX7_known_7 (lv_at hl 0 rfl) ?_
    refine lv_ifnullN (tgt := 19) hx hb dX7_known_9 (by decide) ?_
    refine lv_iconst (v := (-1)) hx hb dX7_known_19 (by decide) ?_
    exact W.iret (v := (-1)) hx hb hr (fun t ht hW => ⟨_, rfl, ⟨(-1), rfl, trivial⟩, ht⟩) (fun q h => by cases h) dX7_known_20
  | some b1 =>
    have hk1 := hg1 b1 rfl
    refine lv_astore (lv' := [(4, .ref b1), (0, .ref h0), (1, .int a1), (2, .int a2), (3, .int a3)]) hx hb dX7_known_5 hl (by decide) rfl (fun ls hl => ?_)
    refine lv_aload hx hb dX7_known_7 (lv_at hl 0 rfl) ?_
    refine lv_ifnull hx hb dX7_known_9 ?_
    refine lv_iload_n hx hb dX7_known_12 rfl (lv_at hl 4 rfl) ?_
    refine pu_call (va_runS (As := [.int a3]) (rest := []) ⟨hx, hb, hml, hown, hts⟩ (c_X7_isWare l a3) (va_cwS 1 hts gX7_known_X7_isWare rfl rfl rfl (by decide +kernel) ⟨Nat.le_of_ble_eq_true rfl, Nat.le_of_ble_eq_true rfl⟩) pu_preS rfl rfl hl.1 rfl (lv_room (Nat.le_of_ble_eq_true rfl)) dX7_known_13 ⟨Nat.le_of_ble_eq_true rfl, Nat.le_of_ble_eq_true rfl⟩) ?_
    refine lv_if_ne (tgt := 21) hx hb dX7_known_16 (by decide) (fun h_2 => ?_) (fun h_2 => ?_)
    · skip
      refine lv_iload_n hx hb dX7_known_21 rfl (lv_at hl 2 rfl) ?_
      refine lv_iload_n hx hb dX7_known_22 rfl (lv_at hl 3 rfl) ?_
      refine lv_icmp_ne (tgt := 34) hx hb dX7_known_23 (by decide) (fun h_3 => ?_) (fun h_3 => ?_)
      · skip
        refine lv_aload hx hb dX7_known_34 (lv_at hl 0 rfl) ?_
        refine lv_iload_n hx hb dX7_known_36 rfl (lv_at hl 3 rfl) ?_
        obtain ⟨hm5, i5, s5, p5, o5, r5, hi5, he5, k5_0, k5_1, k5_2, k5_3⟩ := at_1 (xo_ h0 q n dl) hT hk1.1
        refine pg_call (va_runV (As := [.int a2]) (rest := []) ⟨hx, hb, hml, hown, hts⟩ (k_X4_reportOf l dC dI h0 q n dl cI cy L t f hT hQ hN b1 hk1.1 a2) (cwV 1 hts gX7_known_X4_reportOf rfl rfl rfl (by decide +kernel) ⟨Nat.le_of_ble_eq_true rfl, Nat.le_of_ble_eq_true rfl⟩) (pt_pre hP hK hW0 (ci := 3) (q0 := i5) rfl he5) rfl rfl hl.1 rfl (lv_room (Nat.le_of_ble_eq_true rfl)) dX7_known_37 ⟨Nat.le_of_ble_eq_true rfl, Nat.le_of_ble_eq_true rfl⟩) (fun w4 hw4 => ?_)
        obtain ⟨o4, rfl, hg4⟩ := hw4
        cases o4 with
        | none =>
          refine lv_astoreN (lv' := [(5, .null), (4, .ref b1), (0, .ref h0), (1, .int a1), (2, .int a2), (3, .int a3)]) hx hb dX7_known_40 hl (by decide) rfl (fun ls hl => ?_)
          refine lv_aloadN hx hb dX7_known_42 (lv_at hl 0 rfl) ?_
          refine lv_ifnonnullN hx hb dX7_known_44 ?_
          refine lv_iconst (v := (-1)) hx hb dX7_known_47 (by decide) ?_
          refine lv_goto (tgt := 58) hx hb dX7_known_48 (by decide) ?_
          exact W.iret (v := (-1)) hx hb hr (fun t ht hW => ⟨_, rfl, ⟨(-1), rfl, trivial⟩, ht⟩) (fun q h => by cases h) dX7_known_58
        | some b4 =>
          have hk4 := hg4 b4 rfl
          refine lv_astore (lv' := [(5, .ref b4), (4, .ref b1), (0, .ref h0), (1, .int a1), (2, .int a2), (3, .int a3)]) hx hb dX7_known_40 hl (by decide) rfl (fun ls hl => ?_)
          refine lv_aload hx hb dX7_known_42 (lv_at hl 0 rfl) ?_
          refine lv_ifnonnull (tgt := 51) hx hb dX7_known_44 (by decide) ?_
          refine lv_aload hx hb dX7_known_51 (lv_at hl 0 rfl) ?_
          obtain ⟨hm6, i6, g6, s6, hi6, he6, k6_0⟩ := at_6 (xo_ h0 q n dl) hT hk4.1
          refine va_get (D := (dC, dI)) (ci := 4) (v := .ref s6) (C := RX5) (T := TX5) (N := 6) hx hb hts hinX5 hown hK hP i6 he6 rfl 5 (by decide) (hts (.fieldLink RX7 246 "FurPosts$Report" "stock" "[I") (by decide +kernel)) (fun _ h9 => h9) rfl dX7_known_53 ?_
          refine lv_iload_n hx hb dX7_known_56 rfl (lv_at hl 5 rfl) ?_
          obtain ⟨hm7, i7, g7, hi7, he7⟩ := at_15 (xo_ h0 q n dl) hT k6_0
          refine va_iald hx hb hK hP i7 0 he7 rfl (i := a3) (sp_vp h_2 rfl) dX7_known_57 ?_
          refine lv_topi (fun v8 _ => ?_)
          exact W.iret (v := v8) hx hb hr (fun t ht hW => ⟨_, rfl, ⟨v8, rfl, trivial⟩, ht⟩) (fun q h => by cases h) dX7_known_58
      · skip
        refine lv_aload hx hb dX7_known_26 (lv_at hl 0 rfl) ?_
        obtain ⟨hm9, i9, s9, p9, o9, r9, hi9, he9, k9_0, k9_1, k9_2, k9_3⟩ := at_1 (xo_ h0 q n dl) hT hk1.1
        refine va_get (D := (dC, dI)) (ci := 3) (v := .ref s9) (C := RX4) (T := TX4) (N := 4) hx hb hts hinX4 hown hK hP i9 he9 rfl 0 (by decide) (hts (.fieldLink RX7 92 "FurPosts$Post" "stock" "[I") (by decide +kernel)) (fun _ h9 => h9) rfl dX7_known_28 ?_
        refine lv_iload_n hx hb dX7_known_31 rfl (lv_at hl 4 rfl) ?_
        obtain ⟨hm10, i10, g10, hi10, he10⟩ := at_15 (xo_ h0 q n dl) hT k9_0
        refine va_iald hx hb hK hP i10 0 he10 rfl (i := a3) (sp_vp h_2 rfl) dX7_known_32 ?_
        refine lv_topi (fun v11 _ => ?_)
        exact W.iret (v := v11) hx hb hr (fun t ht hW => ⟨_, rfl, ⟨v11, rfl, trivial⟩, ht⟩) (fun q h => by cases h) dX7_known_33
    · skip
      refine lv_iconst (v := (-1)) hx hb dX7_known_19 (by decide) ?_
      exact W.iret (v := (-1)) hx hb hr (fun t ht hW => ⟨_, rfl, ⟨(-1), rfl, trivial⟩, ht⟩) (fun q h => by cases h) dX7_known_20

set_option maxHeartbeats 4000000 in
set_option maxRecDepth 100000 in
theorem k_X7_knownDay (l : Launch) (dC : Nat → ClassId) (dI : Nat → Nat → Nat) (h0 : Nat) (q n : Nat → Nat) (dl : Int32) (cI : ClassId) (cy : Nat → ClassId) (L : List Nat) (t : Nat → Nat) (f : Nat → va_E) (hT : ty_ cI cy L t f) (hQ : qs_ q t) (hN : nb_ n) (a1 : Int32) (a2 : Int32) : Met l yX7_knownDay wsX7_knownDay ({ frames := 1, cells := 0, slots := 0, locals := 21 }) (va_Pc [.ref h0, .int a1, .int a2] (pt_P (dC, dI) vwCl (tt_ cI cy) (xo_ h0 q n dl ++ va_pl L f))) (pg_Q (gi_ (fun r => True))) 0 0 pu_F := by
  refine Met.ofW (cc := cX7_knownDay) (maxL := 5) (ret := (some .int)) (by decide) rfl ?_
  intro p e s m args below meth c s₁ B hml hv
  obtain ⟨rfl, hP, hK, hW0⟩ := hv
  have hx := B.exec
  have hb := B.bytes
  have hr := B.returns
  have hts := atoms_spec (ws := wsX7_knownDay) B.pre
  have hown : s.vm.findClass RX7 = some m.cls := findClass_of_methodNamed B.named
  have hlocks := B.notSynchronized
  have hinX5 : ∀ w ∈ u_ws RX5 TX5 6, w ∈ wsX7_knownDay := by decide +kernel
  have hinX7 : ∀ w ∈ u_ws RX7 TX7 14, w ∈ wsX7_knownDay := by decide +kernel
  have hl := lv_entry ([.ref h0, .int a1, .int a2]) (n := 5) (Nat.le_of_ble_eq_true rfl)
  rw [lg_entry_eq]
  generalize (lg_sl ([.ref h0, .int a1, .int a2]) ++ List.replicate (5 - (lg_sl ([.ref h0, .int a1, .int a2])).length) Slot.unset).toArray = ls at hl ⊢
  have hl : lv_has ls 5 [(0, .ref h0), (1, .int a1), (2, .int a2)] := hl
  refine lv_aload_n hx hb dX7_knownDay_0 rfl (lv_at hl 0 rfl) ?_
  refine lv_iload_n hx hb dX7_knownDay_1 rfl (lv_at hl 1 rfl) ?_
  refine pg_call (va_runV (As := [.int a1]) (rest := []) ⟨hx, hb, hml, hown, hts⟩ (k_X7_postAt l dC dI h0 q n dl cI cy L t f hT hQ hN a1) (cwV 1 hts gX7_knownDay_X7_postAt rfl rfl rfl (by decide +kernel) ⟨Nat.le_of_ble_eq_true rfl, Nat.le_of_ble_eq_true rfl⟩) (pt_pre hP hK hW0 (ci := 6) (q0 := 0) rfl rfl) rfl rfl hl.1 rfl (lv_room (Nat.le_of_ble_eq_true rfl)) dX7_knownDay_2 ⟨Nat.le_of_ble_eq_true rfl, Nat.le_of_ble_eq_true rfl⟩) (fun w1 hw1 => ?_)
  obtain ⟨o1, rfl, hg1⟩ := hw1
  cases o1 with
  | none =>
    refine lv_astore_nN (lv' := [(3, .null), (0, .ref h0), (1, .int a1), (2, .int a2)]) hx hb dX7_knownDay_5 rfl hl (by decide) rfl (fun ls hl => ?_)
    refine lv_aload_nN hx hb dX7_knownDay_6 rfl (lv_at hl 0 rfl) ?_
    refine lv_ifnonnullN hx hb dX7_knownDay_7 ?_
    refine lv_iconst (v := (-1)) hx hb dX7_knownDay_10 (by decide) ?_
    exact W.iret (v := (-1)) hx hb hr (fun t ht hW => ⟨_, rfl, ⟨(-1), rfl, trivial⟩, ht⟩) (fun q h => by cases h) dX7_knownDay_11
  | some b1 =>
    have hk1 := hg1 b1 rfl
    refine lv_astore_n (lv' := [(3, .ref b1), (0, .ref h0), (1, .int a1), (2, .int a2)]) hx hb dX7_knownDay_5 rfl hl (by decide) rfl (fun ls hl => ?_)
    refine lv_aload_n hx hb dX7_knownDay_6 rfl (lv_at hl 0 rfl) ?_
    refine lv_ifnonnull (tgt := 12) hx hb dX7_knownDay_7 (by decide) ?_
    refine lv_iload_n hx hb dX7_knownDay_12 rfl (lv_at hl 2 rfl) ?_
    refine lv_iload_n hx hb dX7_knownDay_13 rfl (lv_at hl 3 rfl) ?_
    refine lv_icmp_ne (tgt := 22) hx hb dX7_knownDay_14 (by decide) (fun h_2 => ?_) (fun h_2 => ?_)
    · skip
      refine lv_aload_n hx hb dX7_knownDay_22 rfl (lv_at hl 0 rfl) ?_
      refine lv_iload_n hx hb dX7_knownDay_23 rfl (lv_at hl 3 rfl) ?_
      obtain ⟨hm4, i4, s4, p4, o4, r4, hi4, he4, k4_0, k4_1, k4_2, k4_3⟩ := at_1 (xo_ h0 q n dl) hT hk1.1
      refine pg_call (va_runV (As := [.int a2]) (rest := []) ⟨hx, hb, hml, hown, hts⟩ (k_X4_reportOf l dC dI h0 q n dl cI cy L t f hT hQ hN b1 hk1.1 a2) (cwV 1 hts gX7_knownDay_X4_reportOf rfl rfl rfl (by decide +kernel) ⟨Nat.le_of_ble_eq_true rfl, Nat.le_of_ble_eq_true rfl⟩) (pt_pre hP hK hW0 (ci := 3) (q0 := i4) rfl he4) rfl rfl hl.1 rfl (lv_room (Nat.le_of_ble_eq_true rfl)) dX7_knownDay_24 ⟨Nat.le_of_ble_eq_true rfl, Nat.le_of_ble_eq_true rfl⟩) (fun w3 hw3 => ?_)
      obtain ⟨o3, rfl, hg3⟩ := hw3
      cases o3 with
      | none =>
        refine lv_astoreN (lv' := [(4, .null), (3, .ref b1), (0, .ref h0), (1, .int a1), (2, .int a2)]) hx hb dX7_knownDay_27 hl (by decide) rfl (fun ls hl => ?_)
        refine lv_aloadN hx hb dX7_knownDay_29 (lv_at hl 0 rfl) ?_
        refine lv_ifnonnullN hx hb dX7_knownDay_31 ?_
        refine lv_iconst (v := (-1)) hx hb dX7_knownDay_34 (by decide) ?_
        refine lv_goto (tgt := 43) hx hb dX7_knownDay_35 (by decide) ?_
        exact W.iret (v := (-1)) hx hb hr (fun t ht hW => ⟨_, rfl, ⟨(-1), rfl, trivial⟩, ht⟩) (fun q h => by cases h) dX7_knownDay_43
      | some b3 =>
        have hk3 := hg3 b3 rfl
        refine lv_astore (lv' := [(4, .ref b3), (3, .ref b1), (0, .ref h0), (1, .int a1), (2, .int a2)]) hx hb dX7_knownDay_27 hl (by decide) rfl (fun ls hl => ?_)
        refine lv_aload hx hb dX7_knownDay_29 (lv_at hl 0 rfl) ?_
        refine lv_ifnonnull (tgt := 38) hx hb dX7_knownDay_31 (by decide) ?_
        refine lv_aload hx hb dX7_knownDay_38 (lv_at hl 0 rfl) ?_
        obtain ⟨hm5, i5, g5, s5, hi5, he5, k5_0⟩ := at_6 (xo_ h0 q n dl) hT hk3.1
        refine va_get (D := (dC, dI)) (ci := 4) (v := .int (g5 4)) (C := RX5) (T := TX5) (N := 6) hx hb hts hinX5 hown hK hP i5 he5 rfl 4 (by decide) (hts (.fieldLink RX7 247 "FurPosts$Report" "day" "I") (by decide +kernel)) (fun _ h9 => h9) rfl dX7_knownDay_40 ?_
        exact W.iret (v := (g5 4)) hx hb hr (fun t ht hW => ⟨_, rfl, ⟨(g5 4), rfl, trivial⟩, ht⟩) (fun q h => by cases h) dX7_knownDay_43
    · skip
      refine lv_aload_n hx hb dX7_knownDay_17 rfl (lv_at hl 1 rfl) ?_
      refine va_get (D := (dC, dI)) (ci := 6) (v := .int (nI (n 0))) (C := RX7) (T := TX7) (N := 14) hx hb hts hinX7 hown hK hP 0 rfl rfl 8 (by decide) (hts (.fieldLink RX7 103 "FurPosts" "now" "I") (by decide +kernel)) (fun _ h9 => h9) rfl dX7_knownDay_18 ?_
      exact W.iret (v := (nI (n 0))) hx hb hr (fun t ht hW => ⟨_, rfl, ⟨(nI (n 0)), rfl, trivial⟩, ht⟩) (fun q h => by cases h) dX7_knownDay_21

set_option maxHeartbeats 4000000 in
set_option maxRecDepth 100000 in
theorem k_X7_cost (l : Launch) (dC : Nat → ClassId) (dI : Nat → Nat → Nat) (h0 : Nat) (q n : Nat → Nat) (dl : Int32) (cI : ClassId) (cy : Nat → ClassId) (L : List Nat) (t : Nat → Nat) (f : Nat → va_E) (hT : ty_ cI cy L t f) (hQ : qs_ q t) (hN : nb_ n) (a1 : Int32) (a2 : Int32) (a3 : Int32) (a4 : Int32) (a5 : Int32) : Met l yX7_cost wsX7_cost ({ frames := 1, cells := 0, slots := 0, locals := 23 }) (va_Pc [.ref h0, .int a1, .int a2, .int a3, .int a4, .int a5] (pt_P (dC, dI) vwCl (tt_ cI cy) (xo_ h0 q n dl ++ va_pl L f))) (pg_Q (gi_ (fun r => True))) 0 0 pu_F := by
  refine Met.ofW (cc := cX7_cost) (maxL := 11) (ret := (some .int)) (by decide) rfl ?_
  intro p e s m args below meth c s₁ B hml hv
  obtain ⟨rfl, hP, hK, hW0⟩ := hv
  have hx := B.exec
  have hb := B.bytes
  have hr := B.returns
  have hts := atoms_spec (ws := wsX7_cost) B.pre
  have hown : s.vm.findClass RX7 = some m.cls := findClass_of_methodNamed B.named
  have hlocks := B.notSynchronized
  have hinX4 : ∀ w ∈ u_ws RX4 TX4 4, w ∈ wsX7_cost := by decide +kernel
  have hinX7 : ∀ w ∈ u_ws RX7 TX7 14, w ∈ wsX7_cost := by decide +kernel
  have hl := lv_entry ([.ref h0, .int a1, .int a2, .int a3, .int a4, .int a5]) (n := 11) (Nat.le_of_ble_eq_true rfl)
  rw [lg_entry_eq]
  generalize (lg_sl ([.ref h0, .int a1, .int a2, .int a3, .int a4, .int a5]) ++ List.replicate (11 - (lg_sl ([.ref h0, .int a1, .int a2, .int a3, .int a4, .int a5])).length) Slot.unset).toArray = ls at hl ⊢
  have hl : lv_has ls 11 [(0, .ref h0), (1, .int a1), (2, .int a2), (3, .int a3), (4, .int a4), (5, .int a5)] := hl
  refine lv_aload_n hx hb dX7_cost_0 rfl (lv_at hl 0 rfl) ?_
  refine lv_iload_n hx hb dX7_cost_1 rfl (lv_at hl 1 rfl) ?_
  refine pg_call (va_runV (As := [.int a1]) (rest := []) ⟨hx, hb, hml, hown, hts⟩ (k_X7_postAt l dC dI h0 q n dl cI cy L t f hT hQ hN a1) (cwV 1 hts gX7_cost_X7_postAt rfl rfl rfl (by decide +kernel) ⟨Nat.le_of_ble_eq_true rfl, Nat.le_of_ble_eq_true rfl⟩) (pt_pre hP hK hW0 (ci := 6) (q0 := 0) rfl rfl) rfl rfl hl.1 rfl (lv_room (Nat.le_of_ble_eq_true rfl)) dX7_cost_2 ⟨Nat.le_of_ble_eq_true rfl, Nat.le_of_ble_eq_true rfl⟩) (fun w1 hw1 => ?_)
  obtain ⟨o1, rfl, hg1⟩ := hw1
  cases o1 with
  | none =>
    refine lv_astoreN (lv' := [(6, .null), (0, .ref h0), (1, .int a1), (2, .int a2), (3, .int a3), (4, .int a4), (5, .int a5)]) hx hb dX7_cost_5 hl (by decide) rfl (fun ls hl => ?_)
    refine lv_aloadN hx hb dX7_cost_7 (lv_at hl 0 rfl) ?_
    refine lv_ifnullN (tgt := 59) hx hb dX7_cost_9 (by decide) ?_
    refine lv_iconst (v := (-1)) hx hb dX7_cost_59 (by decide) ?_
    exact W.iret (v := (-1)) hx hb hr (fun t ht hW => ⟨_, rfl, ⟨(-1), rfl, trivial⟩, ht⟩) (fun q h => by cases h) dX7_cost_60
  | some b1 =>
    have hk1 := hg1 b1 rfl
    refine lv_astore (lv' := [(6, .ref b1), (0, .ref h0), (1, .int a1), (2, .int a2), (3, .int a3), (4, .int a4), (5, .int a5)]) hx hb dX7_cost_5 hl (by decide) rfl (fun ls hl => ?_)
    refine lv_aload hx hb dX7_cost_7 (lv_at hl 0 rfl) ?_
    refine lv_ifnull hx hb dX7_cost_9 ?_
    refine lv_iload_n hx hb dX7_cost_12 rfl (lv_at hl 3 rfl) ?_
    refine pu_call (va_runS (As := [.int a2]) (rest := []) ⟨hx, hb, hml, hown, hts⟩ (c_X7_isWare l a2) (va_cwS 1 hts gX7_cost_X7_isWare rfl rfl rfl (by decide +kernel) ⟨Nat.le_of_ble_eq_true rfl, Nat.le_of_ble_eq_true rfl⟩) pu_preS rfl rfl hl.1 rfl (lv_room (Nat.le_of_ble_eq_true rfl)) dX7_cost_13 ⟨Nat.le_of_ble_eq_true rfl, Nat.le_of_ble_eq_true rfl⟩) ?_
    refine lv_if_eq (tgt := 59) hx hb dX7_cost_16 (by decide) (fun h_2 => ?_) (fun h_2 => ?_)
    · skip
      refine lv_iconst (v := (-1)) hx hb dX7_cost_59 (by decide) ?_
      exact W.iret (v := (-1)) hx hb hr (fun t ht hW => ⟨_, rfl, ⟨(-1), rfl, trivial⟩, ht⟩) (fun q h => by cases h) dX7_cost_60
    · skip
      refine lv_aload_n hx hb dX7_cost_19 rfl (lv_at hl 1 rfl) ?_
      refine lv_iload_n hx hb dX7_cost_20 rfl (lv_at hl 3 rfl) ?_
      refine pg_call (va_runV (As := [.int a2]) (rest := []) ⟨hx, hb, hml, hown, hts⟩ (k_X7_areWantsRight l dC dI h0 q n dl cI cy L t f hT hQ hN a2 (sp_vp h_2 rfl)) (cwV 1 hts gX7_cost_X7_areWantsRight rfl rfl rfl (by decide +kernel) ⟨Nat.le_of_ble_eq_true rfl, Nat.le_of_ble_eq_true rfl⟩) (pt_pre hP hK hW0 (ci := 6) (q0 := 0) rfl rfl) rfl rfl hl.1 rfl (lv_room (Nat.le_of_ble_eq_true rfl)) dX7_cost_21 ⟨Nat.le_of_ble_eq_true rfl, Nat.le_of_ble_eq_true rfl⟩) (fun w3 hw3 => ?_)
      obtain ⟨r3, rfl, hg3⟩ := hw3
      refine lv_if_eq (tgt := 59) hx hb dX7_cost_24 (by decide) (fun h_4 => ?_) (fun h_4 => ?_)
      · skip
        refine lv_iconst (v := (-1)) hx hb dX7_cost_59 (by decide) ?_
        exact W.iret (v := (-1)) hx hb hr (fun t ht hW => ⟨_, rfl, ⟨(-1), rfl, trivial⟩, ht⟩) (fun q h => by cases h) dX7_cost_60
      · skip
        refine lv_iload hx hb dX7_cost_27 (lv_at hl 6 rfl) ?_
        refine lv_iconst (v := 0) hx hb dX7_cost_29 (by decide) ?_
        refine lv_bipush (v := 20) hx hb dX7_cost_30 (by decide) ?_
        refine pu_call (va_runS (As := [.int a5, .int 0, .int 20]) (rest := []) ⟨hx, hb, hml, hown, hts⟩ (c_X7_isWithin l a5 0 20) (va_cwS 3 hts gX7_cost_X7_isWithin rfl rfl rfl (by decide +kernel) ⟨Nat.le_of_ble_eq_true rfl, Nat.le_of_ble_eq_true rfl⟩) pu_preS rfl rfl hl.1 rfl (lv_room (Nat.le_of_ble_eq_true rfl)) dX7_cost_32 ⟨Nat.le_of_ble_eq_true rfl, Nat.le_of_ble_eq_true rfl⟩) ?_
        refine lv_if_eq (tgt := 59) hx hb dX7_cost_35 (by decide) (fun h_5 => ?_) (fun h_5 => ?_)
        · skip
          refine lv_iconst (v := (-1)) hx hb dX7_cost_59 (by decide) ?_
          exact W.iret (v := (-1)) hx hb hr (fun t ht hW => ⟨_, rfl, ⟨(-1), rfl, trivial⟩, ht⟩) (fun q h => by cases h) dX7_cost_60
        · skip
          refine lv_iload_n hx hb dX7_cost_38 rfl (lv_at hl 4 rfl) ?_
          refine lv_iconst (v := 0) hx hb dX7_cost_39 (by decide) ?_
          refine lv_bipush (v := 100) hx hb dX7_cost_40 (by decide) ?_
          refine pu_call (va_runS (As := [.int a3, .int 0, .int 100]) (rest := []) ⟨hx, hb, hml, hown, hts⟩ (c_X7_isWithin l a3 0 100) (va_cwS 3 hts gX7_cost_X7_isWithin rfl rfl rfl (by decide +kernel) ⟨Nat.le_of_ble_eq_true rfl, Nat.le_of_ble_eq_true rfl⟩) pu_preS rfl rfl hl.1 rfl (lv_room (Nat.le_of_ble_eq_true rfl)) dX7_cost_42 ⟨Nat.le_of_ble_eq_true rfl, Nat.le_of_ble_eq_true rfl⟩) ?_
          refine lv_if_eq (tgt := 59) hx hb dX7_cost_45 (by decide) (fun h_6 => ?_) (fun h_6 => ?_)
          · skip
            refine lv_iconst (v := (-1)) hx hb dX7_cost_59 (by decide) ?_
            exact W.iret (v := (-1)) hx hb hr (fun t ht hW => ⟨_, rfl, ⟨(-1), rfl, trivial⟩, ht⟩) (fun q h => by cases h) dX7_cost_60
          · skip
            refine lv_iload hx hb dX7_cost_48 (lv_at hl 5 rfl) ?_
            refine lv_iconst (v := 0) hx hb dX7_cost_50 (by decide) ?_
            refine lv_bipush (v := 100) hx hb dX7_cost_51 (by decide) ?_
            refine pu_call (va_runS (As := [.int a4, .int 0, .int 100]) (rest := []) ⟨hx, hb, hml, hown, hts⟩ (c_X7_isWithin l a4 0 100) (va_cwS 3 hts gX7_cost_X7_isWithin rfl rfl rfl (by decide +kernel) ⟨Nat.le_of_ble_eq_true rfl, Nat.le_of_ble_eq_true rfl⟩) pu_preS rfl rfl hl.1 rfl (lv_room (Nat.le_of_ble_eq_true rfl)) dX7_cost_53 ⟨Nat.le_of_ble_eq_true rfl, Nat.le_of_ble_eq_true rfl⟩) ?_
            refine lv_if_ne (tgt := 61) hx hb dX7_cost_56 (by decide) (fun h_7 => ?_) (fun h_7 => ?_)
            · skip
              refine lv_aload hx hb dX7_cost_61 (lv_at hl 0 rfl) ?_
              obtain ⟨hm8, i8, s8, p8, o8, r8, hi8, he8, k8_0, k8_1, k8_2, k8_3⟩ := at_1 (xo_ h0 q n dl) hT hk1.1
              refine va_get (D := (dC, dI)) (ci := 3) (v := .ref s8) (C := RX4) (T := TX4) (N := 4) hx hb hts hinX4 hown hK hP i8 he8 rfl 0 (by decide) (hts (.fieldLink RX7 92 "FurPosts$Post" "stock" "[I") (by decide +kernel)) (fun _ h9 => h9) rfl dX7_cost_63 ?_
              refine lv_iload_n hx hb dX7_cost_66 rfl (lv_at hl 3 rfl) ?_
              obtain ⟨hm9, i9, g9, hi9, he9⟩ := at_15 (xo_ h0 q n dl) hT k8_0
              refine va_iald hx hb hK hP i9 0 he9 rfl (i := a2) (sp_vp h_2 rfl) dX7_cost_67 ?_
              refine lv_topi (fun v10 _ => ?_)
              refine lv_sipush (v := 1000) hx hb dX7_cost_68 (by decide) ?_
              refine va_mmin hx hb (hml.trans hl.1.symm) hown (hts (.methodLink RX7 78 Lib.Math.min.name) (by decide +kernel)) (hts (.static Lib.Math.min.name) (by decide +kernel)) (hts (.initialized "java/lang/Math") (by decide +kernel)) (hts (.code Lib.Math.min.name Lib.Math.min.code 2 (some .int)) (by decide +kernel)) (Nat.le_of_ble_eq_true rfl) (Nat.le_of_ble_eq_true rfl) (Nat.le_of_ble_eq_true rfl) (Nat.le_of_ble_eq_true rfl) dX7_cost_71 ?_
              refine lv_topi (fun v11 _ => ?_)
              refine lv_iload hx hb dX7_cost_74 (lv_at hl 6 rfl) ?_
              refine lv_iadd hx hb dX7_cost_76 ?_
              refine lv_topi (fun v12 _ => ?_)
              refine lv_istore (lv' := [(7, .int v12), (6, .ref b1), (0, .ref h0), (1, .int a1), (2, .int a2), (3, .int a3), (4, .int a4), (5, .int a5)]) hx hb dX7_cost_77 hl (by decide) rfl (fun ls hl => ?_)
              refine lv_iconst (v := 0) hx hb dX7_cost_79 (by decide) ?_
              refine lv_istore (lv' := [(8, .int 0), (7, .int v12), (6, .ref b1), (0, .ref h0), (1, .int a1), (2, .int a2), (3, .int a3), (4, .int a4), (5, .int a5)]) hx hb dX7_cost_80 hl (by decide) rfl (fun ls hl => ?_)
              refine lv_iconst (v := 0) hx hb dX7_cost_82 (by decide) ?_
              refine lv_istore (lv' := [(9, .int 0), (8, .int 0), (7, .int v12), (6, .ref b1), (0, .ref h0), (1, .int a1), (2, .int a2), (3, .int a3), (4, .int a4), (5, .int a5)]) hx hb dX7_cost_83 hl (by decide) rfl (fun ls hl => ?_)
              have key85 : ∀ (k j85 : Nat) (x85_8 : Int32) (ls : Array Slot), j85 + k = 21 → lv_has ls 11 [(9, .int (nI j85)), (8, .int x85_8), (7, .int v12), (6, .ref b1), (0, .ref h0), (1, .int a1), (2, .int a2), (3, .int a3), (4, .int a4), (5, .int a5)] →
                  W p l e (headSpec wsX7_cost ({ frames := 1, cells := 0, slots := 0, locals := 23 })).room s m [.ref h0, .int a1, .int a2, .int a3, .int a4, .int a5].toArray below meth c s.heap [] 0 0 (MQ below (pg_Q (gi_ (fun r => True))) [.ref h0, .int a1, .int a2, .int a3, .int a4, .int a5].toArray s 0 0 pu_F) (F0 m 85 ls []) := by
                intro k
                induction k with
                | zero =>
                  intro j85 x85_8 ls hj hl
                  have hj : j85 = 21 := by omega
                  subst j85
                  refine lv_iload hx hb dX7_cost_85 (lv_at hl 0 rfl) ?_
                  refine lv_bipush (v := 20) hx hb dX7_cost_87 (by decide) ?_
                  refine lv_icmp_gt (tgt := 142) hx hb dX7_cost_89 (by decide) (fun h_13 => ?_) (fun h_13 => absurd (lp_gt0 (B := 21) (by omega) rfl) h_13)
                  refine lv_iload hx hb dX7_cost_142 (lv_at hl 1 rfl) ?_
                  exact W.iret (v := x85_8) hx hb hr (fun t ht hW => ⟨_, rfl, ⟨x85_8, rfl, trivial⟩, ht⟩) (fun q h => by cases h) dX7_cost_144
                | succ k ih85 =>
                  intro j85 x85_8 ls hj hl
                  have hj85 : j85 < 21 := by omega
                  refine lv_iload hx hb dX7_cost_85 (lv_at hl 0 rfl) ?_
                  refine lv_bipush (v := 20) hx hb dX7_cost_87 (by decide) ?_
                  refine lv_icmp_gt (tgt := 142) hx hb dX7_cost_89 (by decide) (fun h_14 => absurd h_14 (lp_gt (B := 21) (by omega) (by omega) rfl)) (fun h_14 => ?_)
                  refine lv_iload hx hb dX7_cost_92 (lv_at hl 0 rfl) ?_
                  refine lv_iload hx hb dX7_cost_94 (lv_at hl 2 rfl) ?_
                  refine lv_icmp_le (tgt := 109) hx hb dX7_cost_96 (by decide) (fun h_15 => ?_) (fun h_15 => ?_)
                  · skip
                    refine lv_iload hx hb dX7_cost_109 (lv_at hl 8 rfl) ?_
                    refine lv_iload hx hb dX7_cost_111 (lv_at hl 2 rfl) ?_
                    refine lv_iload hx hb dX7_cost_113 (lv_at hl 0 rfl) ?_
                    refine lv_isub hx hb dX7_cost_115 ?_
                    refine lv_topi (fun v16 _ => ?_)
                    refine lv_imul hx hb dX7_cost_116 ?_
                    refine lv_topi (fun v17 _ => ?_)
                    refine lv_istore (lv' := [(10, .int v17), (9, .int (nI j85)), (8, .int x85_8), (7, .int v12), (6, .ref b1), (0, .ref h0), (1, .int a1), (2, .int a2), (3, .int a3), (4, .int a4), (5, .int a5)]) hx hb dX7_cost_117 hl (by decide) rfl (fun ls hl => ?_)
                    refine lv_iload hx hb dX7_cost_119 (lv_at hl 2 rfl) ?_
                    refine lv_aload_n hx hb dX7_cost_121 rfl (lv_at hl 5 rfl) ?_
                    refine va_get (D := (dC, dI)) (ci := 6) (v := .ref (q 6)) (C := RX7) (T := TX7) (N := 14) hx hb hts hinX7 hown hK hP 0 rfl rfl 5 (by decide) (hts (.fieldLink RX7 38 "FurPosts" "wants" "[[I") (by decide +kernel)) (fun _ h9 => h9) rfl dX7_cost_122 ?_
                    refine lv_iload_n hx hb dX7_cost_125 rfl (lv_at hl 7 rfl) ?_
                    obtain ⟨hm18, i18, r18, hi18, he18, k18_0⟩ := at_13 (xo_ h0 q n dl) hT hQ.2.2.2.2.2.1
                    refine va_ald2 hx hb hK hP i18 7 he18 rfl (i := a2) (sp_vp h_2 rfl) (b := r18 (Int32.toNatClampNeg a2)) (if_pos (vp_lt (sp_vp h_2 rfl))) dX7_cost_126 ?_
                    have hr19 := k18_0 (Int32.toNatClampNeg a2) (vp_lt (sp_vp h_2 rfl))
                    generalize r18 (Int32.toNatClampNeg a2) = b19 at hr19 ⊢
                    refine lv_iload hx hb dX7_cost_127 (lv_at hl 1 rfl) ?_
                    obtain ⟨hm20, i20, g20, hi20, he20⟩ := at_18 (xo_ h0 q n dl) hT hr19
                    refine va_iald hx hb hK hP i20 0 he20 rfl (i := (nI j85)) (vp_in_nI (show j85 < 21 by omega) (by decide)) dX7_cost_129 ?_
                    refine lv_topi (fun v21 _ => ?_)
                    refine lv_iload hx hb dX7_cost_130 (lv_at hl 0 rfl) ?_
                    refine lv_imul hx hb dX7_cost_132 ?_
                    refine lv_topi (fun v22 _ => ?_)
                    refine lv_iadd hx hb dX7_cost_133 ?_
                    refine lv_topi (fun v23 _ => ?_)
                    refine lv_istore (lv' := [(8, .int v23), (10, .int v17), (9, .int (nI j85)), (7, .int v12), (6, .ref b1), (0, .ref h0), (1, .int a1), (2, .int a2), (3, .int a3), (4, .int a4), (5, .int a5)]) hx hb dX7_cost_134 hl (by decide) rfl (fun ls hl => ?_)
                    refine lv_iinc (v := (nI (j85 + 1))) (lv' := [(9, .int (nI (j85 + 1))), (8, .int v23), (10, .int v17), (7, .int v12), (6, .ref b1), (0, .ref h0), (1, .int a1), (2, .int a2), (3, .int a3), (4, .int a4), (5, .int a5)]) hx hb dX7_cost_136 hl (k := 2) rfl (show nI j85 + 1 = nI (j85 + 1) from nI_1 j85) (by decide) rfl (fun ls hl => ?_)
                    refine lv_goto (tgt := 85) hx hb dX7_cost_139 (by decide) ?_
                    exact ih85 (j85 + 1) v23 ls (by omega) (lv_sub hl [0, 1, 3, 4, 5, 6, 7, 8, 9, 10] rfl)
                  · skip
                    refine lv_iload_n hx hb dX7_cost_99 rfl (lv_at hl 7 rfl) ?_
                    refine lv_iload hx hb dX7_cost_100 (lv_at hl 0 rfl) ?_
                    refine lv_iload hx hb dX7_cost_102 (lv_at hl 2 rfl) ?_
                    refine lv_isub hx hb dX7_cost_104 ?_
                    refine lv_topi (fun v24 _ => ?_)
                    refine lv_imul hx hb dX7_cost_105 ?_
                    refine lv_topi (fun v25 _ => ?_)
                    refine lv_goto (tgt := 117) hx hb dX7_cost_106 (by decide) ?_
                    refine lv_istore (lv' := [(10, .int v25), (9, .int (nI j85)), (8, .int x85_8), (7, .int v12), (6, .ref b1), (0, .ref h0), (1, .int a1), (2, .int a2), (3, .int a3), (4, .int a4), (5, .int a5)]) hx hb dX7_cost_117 hl (by decide) rfl (fun ls hl => ?_)
                    refine lv_iload hx hb dX7_cost_119 (lv_at hl 2 rfl) ?_
                    refine lv_aload_n hx hb dX7_cost_121 rfl (lv_at hl 5 rfl) ?_
                    refine va_get (D := (dC, dI)) (ci := 6) (v := .ref (q 6)) (C := RX7) (T := TX7) (N := 14) hx hb hts hinX7 hown hK hP 0 rfl rfl 5 (by decide) (hts (.fieldLink RX7 38 "FurPosts" "wants" "[[I") (by decide +kernel)) (fun _ h9 => h9) rfl dX7_cost_122 ?_
                    refine lv_iload_n hx hb dX7_cost_125 rfl (lv_at hl 7 rfl) ?_
                    obtain ⟨hm26, i26, r26, hi26, he26, k26_0⟩ := at_13 (xo_ h0 q n dl) hT hQ.2.2.2.2.2.1
                    refine va_ald2 hx hb hK hP i26 7 he26 rfl (i := a2) (sp_vp h_2 rfl) (b := r26 (Int32.toNatClampNeg a2)) (if_pos (vp_lt (sp_vp h_2 rfl))) dX7_cost_126 ?_
                    have hr27 := k26_0 (Int32.toNatClampNeg a2) (vp_lt (sp_vp h_2 rfl))
                    generalize r26 (Int32.toNatClampNeg a2) = b27 at hr27 ⊢
                    refine lv_iload hx hb dX7_cost_127 (lv_at hl 1 rfl) ?_
                    obtain ⟨hm28, i28, g28, hi28, he28⟩ := at_18 (xo_ h0 q n dl) hT hr27
                    refine va_iald hx hb hK hP i28 0 he28 rfl (i := (nI j85)) (vp_in_nI (show j85 < 21 by omega) (by decide)) dX7_cost_129 ?_
                    refine lv_topi (fun v29 _ => ?_)
                    refine lv_iload hx hb dX7_cost_130 (lv_at hl 0 rfl) ?_
                    refine lv_imul hx hb dX7_cost_132 ?_
                    refine lv_topi (fun v30 _ => ?_)
                    refine lv_iadd hx hb dX7_cost_133 ?_
                    refine lv_topi (fun v31 _ => ?_)
                    refine lv_istore (lv' := [(8, .int v31), (10, .int v25), (9, .int (nI j85)), (7, .int v12), (6, .ref b1), (0, .ref h0), (1, .int a1), (2, .int a2), (3, .int a3), (4, .int a4), (5, .int a5)]) hx hb dX7_cost_134 hl (by decide) rfl (fun ls hl => ?_)
                    refine lv_iinc (v := (nI (j85 + 1))) (lv' := [(9, .int (nI (j85 + 1))), (8, .int v31), (10, .int v25), (7, .int v12), (6, .ref b1), (0, .ref h0), (1, .int a1), (2, .int a2), (3, .int a3), (4, .int a4), (5, .int a5)]) hx hb dX7_cost_136 hl (k := 2) rfl (show nI j85 + 1 = nI (j85 + 1) from nI_1 j85) (by decide) rfl (fun ls hl => ?_)
                    refine lv_goto (tgt := 85) hx hb dX7_cost_139 (by decide) ?_
                    exact ih85 (j85 + 1) v31 ls (by omega) (lv_sub hl [0, 1, 3, 4, 5, 6, 7, 8, 9, 10] rfl)
              exact key85 21 0 0 ls (by omega) (lv_sub hl [0, 1, 2, 3, 4, 5, 6, 7, 8, 9] rfl)
            · skip
              refine lv_iconst (v := (-1)) hx hb dX7_cost_59 (by decide) ?_
              exact W.iret (v := (-1)) hx hb hr (fun t ht hW => ⟨_, rfl, ⟨(-1), rfl, trivial⟩, ht⟩) (fun q h => by cases h) dX7_cost_60

set_option maxHeartbeats 4000000 in
set_option maxRecDepth 100000 in
theorem k_X7_indent (l : Launch) (dC : Nat → ClassId) (dI : Nat → Nat → Nat) (h0 : Nat) (q n : Nat → Nat) (dl : Int32) (cI : ClassId) (cy : Nat → ClassId) (L : List Nat) (t : Nat → Nat) (f : Nat → va_E) (hT : ty_ cI cy L t f) (hQ : qs_ q t) (hN : nb_ n) (a1 : Int32) (a2 : Int32) (a3 : Int32) (a4 : Int32) : Met l yX7_indent wsX7_indent ({ frames := 2, cells := 0, slots := 0, locals := 53 }) (va_Pc [.ref h0, .int a1, .int a2, .int a3, .int a4] (pt_P (dC, dI) vwCl (tt_ cI cy) (xo_ h0 q n dl ++ va_pl L f))) (pg_Q (gi_ (fun r => True))) 0 0 pu_F := by
  refine Met.ofW (cc := cX7_indent) (maxL := 9) (ret := (some .int)) (by decide) rfl ?_
  intro p e s m args below meth c s₁ B hml hv
  obtain ⟨rfl, hP, hK, hW0⟩ := hv
  have hx := B.exec
  have hb := B.bytes
  have hr := B.returns
  have hts := atoms_spec (ws := wsX7_indent) B.pre
  have hown : s.vm.findClass RX7 = some m.cls := findClass_of_methodNamed B.named
  have hlocks := B.notSynchronized
  have hl := lv_entry ([.ref h0, .int a1, .int a2, .int a3, .int a4]) (n := 9) (Nat.le_of_ble_eq_true rfl)
  rw [lg_entry_eq]
  generalize (lg_sl ([.ref h0, .int a1, .int a2, .int a3, .int a4]) ++ List.replicate (9 - (lg_sl ([.ref h0, .int a1, .int a2, .int a3, .int a4])).length) Slot.unset).toArray = ls at hl ⊢
  have hl : lv_has ls 9 [(0, .ref h0), (1, .int a1), (2, .int a2), (3, .int a3), (4, .int a4)] := hl
  refine lv_iconst (v := (-1)) hx hb dX7_indent_0 (by decide) ?_
  refine lv_istore (lv' := [(5, .int (-1)), (0, .ref h0), (1, .int a1), (2, .int a2), (3, .int a3), (4, .int a4)]) hx hb dX7_indent_1 hl (by decide) rfl (fun ls hl => ?_)
  refine lv_iconst (v := (-1)) hx hb dX7_indent_3 (by decide) ?_
  refine lv_istore (lv' := [(6, .int (-1)), (5, .int (-1)), (0, .ref h0), (1, .int a1), (2, .int a2), (3, .int a3), (4, .int a4)]) hx hb dX7_indent_4 hl (by decide) rfl (fun ls hl => ?_)
  refine lv_iconst (v := 0) hx hb dX7_indent_6 (by decide) ?_
  refine lv_istore (lv' := [(7, .int 0), (6, .int (-1)), (5, .int (-1)), (0, .ref h0), (1, .int a1), (2, .int a2), (3, .int a3), (4, .int a4)]) hx hb dX7_indent_7 hl (by decide) rfl (fun ls hl => ?_)
  have key9 : ∀ (k j9 : Nat) (x9_6 x9_5 : Int32) (ls : Array Slot), j9 + k = 21 → lv_has ls 9 [(7, .int (nI j9)), (6, .int x9_6), (5, .int x9_5), (0, .ref h0), (1, .int a1), (2, .int a2), (3, .int a3), (4, .int a4)] →
      W p l e (headSpec wsX7_indent ({ frames := 2, cells := 0, slots := 0, locals := 53 })).room s m [.ref h0, .int a1, .int a2, .int a3, .int a4].toArray below meth c s.heap [] 0 0 (MQ below (pg_Q (gi_ (fun r => True))) [.ref h0, .int a1, .int a2, .int a3, .int a4].toArray s 0 0 pu_F) (F0 m 9 ls []) := by
    intro k
    induction k with
    | zero =>
      intro j9 x9_6 x9_5 ls hj hl
      have hj : j9 = 21 := by omega
      subst j9
      refine lv_iload hx hb dX7_indent_9 (lv_at hl 0 rfl) ?_
      refine lv_bipush (v := 20) hx hb dX7_indent_11 (by decide) ?_
      refine lv_icmp_gt (tgt := 62) hx hb dX7_indent_13 (by decide) (fun h_1 => ?_) (fun h_1 => absurd (lp_gt0 (B := 21) (by omega) rfl) h_1)
      refine lv_iload hx hb dX7_indent_62 (lv_at hl 2 rfl) ?_
      exact W.iret (v := x9_5) hx hb hr (fun t ht hW => ⟨_, rfl, ⟨x9_5, rfl, trivial⟩, ht⟩) (fun q h => by cases h) dX7_indent_64
    | succ k ih9 =>
      intro j9 x9_6 x9_5 ls hj hl
      have hj9 : j9 < 21 := by omega
      refine lv_iload hx hb dX7_indent_9 (lv_at hl 0 rfl) ?_
      refine lv_bipush (v := 20) hx hb dX7_indent_11 (by decide) ?_
      refine lv_icmp_gt (tgt := 62) hx hb dX7_indent_13 (by decide) (fun h_2 => absurd h_2 (lp_gt (B := 21) (by omega) (by omega) rfl)) (fun h_2 => ?_)
      refine lv_aload_n hx hb dX7_indent_16 rfl (lv_at hl 3 rfl) ?_
      refine lv_iload_n hx hb dX7_indent_17 rfl (lv_at hl 4 rfl) ?_
      refine lv_iload_n hx hb dX7_indent_18 rfl (lv_at hl 5 rfl) ?_
      refine lv_iload_n hx hb dX7_indent_19 rfl (lv_at hl 6 rfl) ?_
      refine lv_iload hx hb dX7_indent_20 (lv_at hl 7 rfl) ?_
      refine lv_iload hx hb dX7_indent_22 (lv_at hl 0 rfl) ?_
      refine pg_call (va_runV (As := [.int a1, .int a2, .int a3, .int a4, .int (nI j9)]) (rest := []) ⟨hx, hb, hml, hown, hts⟩ (k_X7_cost l dC dI h0 q n dl cI cy L t f hT hQ hN a1 a2 a3 a4 (nI j9)) (cwV 5 hts gX7_indent_X7_cost rfl rfl rfl (by decide +kernel) ⟨Nat.le_of_ble_eq_true rfl, Nat.le_of_ble_eq_true rfl⟩) (pt_pre hP hK hW0 (ci := 6) (q0 := 0) rfl rfl) rfl rfl hl.1 rfl (lv_room (Nat.le_of_ble_eq_true rfl)) dX7_indent_24 ⟨Nat.le_of_ble_eq_true rfl, Nat.le_of_ble_eq_true rfl⟩) (fun w3 hw3 => ?_)
      obtain ⟨r3, rfl, hg3⟩ := hw3
      refine lv_istore (lv' := [(8, .int r3), (7, .int (nI j9)), (6, .int x9_6), (5, .int x9_5), (0, .ref h0), (1, .int a1), (2, .int a2), (3, .int a3), (4, .int a4)]) hx hb dX7_indent_27 hl (by decide) rfl (fun ls hl => ?_)
      refine lv_iload hx hb dX7_indent_29 (lv_at hl 0 rfl) ?_
      refine lv_iconst (v := (-1)) hx hb dX7_indent_31 (by decide) ?_
      refine lv_icmp_eq (tgt := 56) hx hb dX7_indent_32 (by decide) (fun h_4 => ?_) (fun h_4 => ?_)
      · skip
        refine lv_iinc (v := (nI (j9 + 1))) (lv' := [(7, .int (nI (j9 + 1))), (8, .int r3), (6, .int x9_6), (5, .int x9_5), (0, .ref h0), (1, .int a1), (2, .int a2), (3, .int a3), (4, .int a4)]) hx hb dX7_indent_56 hl (k := 1) rfl (show nI j9 + 1 = nI (j9 + 1) from nI_1 j9) (by decide) rfl (fun ls hl => ?_)
        refine lv_goto (tgt := 9) hx hb dX7_indent_59 (by decide) ?_
        exact ih9 (j9 + 1) x9_6 x9_5 ls (by omega) (lv_sub hl [0, 2, 3, 4, 5, 6, 7, 8] rfl)
      · skip
        refine lv_iload hx hb dX7_indent_35 (lv_at hl 3 rfl) ?_
        refine lv_iconst (v := (-1)) hx hb dX7_indent_37 (by decide) ?_
        refine lv_icmp_eq (tgt := 48) hx hb dX7_indent_38 (by decide) (fun h_5 => ?_) (fun h_5 => ?_)
        · skip
          refine lv_iload hx hb dX7_indent_48 (lv_at hl 1 rfl) ?_
          refine lv_istore (lv' := [(5, .int (nI j9)), (8, .int r3), (7, .int (nI j9)), (6, .int x9_6), (0, .ref h0), (1, .int a1), (2, .int a2), (3, .int a3), (4, .int a4)]) hx hb dX7_indent_50 hl (by decide) rfl (fun ls hl => ?_)
          refine lv_iload hx hb dX7_indent_52 (lv_at hl 1 rfl) ?_
          refine lv_istore (lv' := [(6, .int r3), (5, .int (nI j9)), (8, .int r3), (7, .int (nI j9)), (0, .ref h0), (1, .int a1), (2, .int a2), (3, .int a3), (4, .int a4)]) hx hb dX7_indent_54 hl (by decide) rfl (fun ls hl => ?_)
          refine lv_iinc (v := (nI (j9 + 1))) (lv' := [(7, .int (nI (j9 + 1))), (6, .int r3), (5, .int (nI j9)), (8, .int r3), (0, .ref h0), (1, .int a1), (2, .int a2), (3, .int a3), (4, .int a4)]) hx hb dX7_indent_56 hl (k := 3) rfl (show nI j9 + 1 = nI (j9 + 1) from nI_1 j9) (by decide) rfl (fun ls hl => ?_)
          refine lv_goto (tgt := 9) hx hb dX7_indent_59 (by decide) ?_
          exact ih9 (j9 + 1) r3 (nI j9) ls (by omega) (lv_sub hl [0, 1, 2, 4, 5, 6, 7, 8] rfl)
        · skip
          refine lv_iload hx hb dX7_indent_41 (lv_at hl 0 rfl) ?_
          refine lv_iload hx hb dX7_indent_43 (lv_at hl 2 rfl) ?_
          refine lv_icmp_ge (tgt := 56) hx hb dX7_indent_45 (by decide) (fun h_6 => ?_) (fun h_6 => ?_)
          · skip
            refine lv_iinc (v := (nI (j9 + 1))) (lv' := [(7, .int (nI (j9 + 1))), (8, .int r3), (6, .int x9_6), (5, .int x9_5), (0, .ref h0), (1, .int a1), (2, .int a2), (3, .int a3), (4, .int a4)]) hx hb dX7_indent_56 hl (k := 1) rfl (show nI j9 + 1 = nI (j9 + 1) from nI_1 j9) (by decide) rfl (fun ls hl => ?_)
            refine lv_goto (tgt := 9) hx hb dX7_indent_59 (by decide) ?_
            exact ih9 (j9 + 1) x9_6 x9_5 ls (by omega) (lv_sub hl [0, 2, 3, 4, 5, 6, 7, 8] rfl)
          · skip
            refine lv_iload hx hb dX7_indent_48 (lv_at hl 1 rfl) ?_
            refine lv_istore (lv' := [(5, .int (nI j9)), (8, .int r3), (7, .int (nI j9)), (6, .int x9_6), (0, .ref h0), (1, .int a1), (2, .int a2), (3, .int a3), (4, .int a4)]) hx hb dX7_indent_50 hl (by decide) rfl (fun ls hl => ?_)
            refine lv_iload hx hb dX7_indent_52 (lv_at hl 1 rfl) ?_
            refine lv_istore (lv' := [(6, .int r3), (5, .int (nI j9)), (8, .int r3), (7, .int (nI j9)), (0, .ref h0), (1, .int a1), (2, .int a2), (3, .int a3), (4, .int a4)]) hx hb dX7_indent_54 hl (by decide) rfl (fun ls hl => ?_)
            refine lv_iinc (v := (nI (j9 + 1))) (lv' := [(7, .int (nI (j9 + 1))), (6, .int r3), (5, .int (nI j9)), (8, .int r3), (0, .ref h0), (1, .int a1), (2, .int a2), (3, .int a3), (4, .int a4)]) hx hb dX7_indent_56 hl (k := 3) rfl (show nI j9 + 1 = nI (j9 + 1) from nI_1 j9) (by decide) rfl (fun ls hl => ?_)
            refine lv_goto (tgt := 9) hx hb dX7_indent_59 (by decide) ?_
            exact ih9 (j9 + 1) r3 (nI j9) ls (by omega) (lv_sub hl [0, 1, 2, 4, 5, 6, 7, 8] rfl)
  exact key9 21 0 (-1) (-1) ls (by omega) (lv_sub hl [0, 1, 2, 3, 4, 5, 6, 7] rfl)

set_option maxHeartbeats 4000000 in
set_option maxRecDepth 100000 in
theorem k_X7_quarrel (l : Launch) (dC : Nat → ClassId) (dI : Nat → Nat → Nat) (h0 : Nat) (q n : Nat → Nat) (dl : Int32) (cI : ClassId) (cy : Nat → ClassId) (L : List Nat) (t : Nat → Nat) (f : Nat → va_E) (hT : ty_ cI cy L t f) (hQ : qs_ q t) (hN : nb_ n) (a1 : Int32) (a2 : Int32) : Met l yX7_quarrel wsX7_quarrel ({ frames := 2, cells := 0, slots := 0, locals := 43 }) (va_Pc [.ref h0, .int a1, .int a2] (pt_P (dC, dI) vwCl (tt_ cI cy) (xo_ h0 q n dl ++ va_pl L f))) (pg_Q (gi_ (fun r => True))) 0 0 pu_F := by
  refine Met.ofW (cc := cX7_quarrel) (maxL := 5) (ret := (some .int)) (by decide) rfl ?_
  intro p e s m args below meth c s₁ B hml hv
  obtain ⟨rfl, hP, hK, hW0⟩ := hv
  have hx := B.exec
  have hb := B.bytes
  have hr := B.returns
  have hts := atoms_spec (ws := wsX7_quarrel) B.pre
  have hown : s.vm.findClass RX7 = some m.cls := findClass_of_methodNamed B.named
  have hlocks := B.notSynchronized
  have hinX7 : ∀ w ∈ u_ws RX7 TX7 14, w ∈ wsX7_quarrel := by decide +kernel
  have hl := lv_entry ([.ref h0, .int a1, .int a2]) (n := 5) (Nat.le_of_ble_eq_true rfl)
  rw [lg_entry_eq]
  generalize (lg_sl ([.ref h0, .int a1, .int a2]) ++ List.replicate (5 - (lg_sl ([.ref h0, .int a1, .int a2])).length) Slot.unset).toArray = ls at hl ⊢
  have hl : lv_has ls 5 [(0, .ref h0), (1, .int a1), (2, .int a2)] := hl
  refine lv_aload_n hx hb dX7_quarrel_0 rfl (lv_at hl 0 rfl) ?_
  refine lv_iload_n hx hb dX7_quarrel_1 rfl (lv_at hl 1 rfl) ?_
  refine lv_iload_n hx hb dX7_quarrel_2 rfl (lv_at hl 2 rfl) ?_
  refine pg_call (va_runV (As := [.int a1, .int a2]) (rest := []) ⟨hx, hb, hml, hown, hts⟩ (k_X7_areTwoPosts l dC dI h0 q n dl cI cy L t f hT hQ hN a1 a2) (cwV 2 hts gX7_quarrel_X7_areTwoPosts rfl rfl rfl (by decide +kernel) ⟨Nat.le_of_ble_eq_true rfl, Nat.le_of_ble_eq_true rfl⟩) (pt_pre hP hK hW0 (ci := 6) (q0 := 0) rfl rfl) rfl rfl hl.1 rfl (lv_room (Nat.le_of_ble_eq_true rfl)) dX7_quarrel_3 ⟨Nat.le_of_ble_eq_true rfl, Nat.le_of_ble_eq_true rfl⟩) (fun w1 hw1 => ?_)
  obtain ⟨r1, rfl, hg1⟩ := hw1
  refine lv_if_ne (tgt := 11) hx hb dX7_quarrel_6 (by decide) (fun h_2 => ?_) (fun h_2 => ?_)
  · skip
    refine lv_iconst (v := 0) hx hb dX7_quarrel_11 (by decide) ?_
    refine lv_istore_n (lv' := [(3, .int 0), (0, .ref h0), (1, .int a1), (2, .int a2)]) hx hb dX7_quarrel_12 rfl hl (by decide) rfl (fun ls hl => ?_)
    have key13 : ∀ (k j13 : Nat) (ls : Array Slot), j13 + k = (n 3) → lv_has ls 5 [(3, .int (nI j13)), (0, .ref h0), (1, .int a1), (2, .int a2)] →
        W p l e (headSpec wsX7_quarrel ({ frames := 2, cells := 0, slots := 0, locals := 43 })).room s m [.ref h0, .int a1, .int a2].toArray below meth c s.heap [] 0 0 (MQ below (pg_Q (gi_ (fun r => True))) [.ref h0, .int a1, .int a2].toArray s 0 0 pu_F) (F0 m 13 ls []) := by
      intro k
      induction k with
      | zero =>
        intro j13 ls hj hl
        have hj : j13 = (n 3) := by omega
        subst j13
        refine lv_iload_n hx hb dX7_quarrel_13 rfl (lv_at hl 0 rfl) ?_
        refine lv_aload_n hx hb dX7_quarrel_14 rfl (lv_at hl 1 rfl) ?_
        refine va_get (D := (dC, dI)) (ci := 6) (v := .int (nI (n 3))) (C := RX7) (T := TX7) (N := 14) hx hb hts hinX7 hown hK hP 0 rfl rfl 11 (by decide) (hts (.fieldLink RX7 113 "FurPosts" "canoeCount" "I") (by decide +kernel)) (fun _ h9 => h9) rfl dX7_quarrel_15 ?_
        refine lv_icmp_ge (tgt := 59) hx hb dX7_quarrel_18 (by decide) (fun h_3 => ?_) (fun h_3 => absurd (lp_ge0 (B := (n 3)) rfl) h_3)
        refine lv_iconst (v := (-1)) hx hb dX7_quarrel_59 (by decide) ?_
        exact W.iret (v := (-1)) hx hb hr (fun t ht hW => ⟨_, rfl, ⟨(-1), rfl, trivial⟩, ht⟩) (fun q h => by cases h) dX7_quarrel_60
      | succ k ih13 =>
        intro j13 ls hj hl
        have hj13 : j13 < (n 3) := by omega
        refine lv_iload_n hx hb dX7_quarrel_13 rfl (lv_at hl 0 rfl) ?_
        refine lv_aload_n hx hb dX7_quarrel_14 rfl (lv_at hl 1 rfl) ?_
        refine va_get (D := (dC, dI)) (ci := 6) (v := .int (nI (n 3))) (C := RX7) (T := TX7) (N := 14) hx hb hts hinX7 hown hK hP 0 rfl rfl 11 (by decide) (hts (.fieldLink RX7 113 "FurPosts" "canoeCount" "I") (by decide +kernel)) (fun _ h9 => h9) rfl dX7_quarrel_15 ?_
        refine lv_icmp_ge (tgt := 59) hx hb dX7_quarrel_18 (by decide) (fun h_4 => absurd h_4 (lp_ge (B := (n 3)) (by omega) (by omega) rfl)) (fun h_4 => ?_)
        refine lv_aload_n hx hb dX7_quarrel_21 rfl (lv_at hl 1 rfl) ?_
        refine lv_iload_n hx hb dX7_quarrel_22 rfl (lv_at hl 0 rfl) ?_
        refine pg_call (va_runV (As := [.int (nI j13)]) (rest := []) ⟨hx, hb, hml, hown, hts⟩ (k_X7_canoeAt l dC dI h0 q n dl cI cy L t f hT hQ hN (nI j13)) (cwV 1 hts gX7_quarrel_X7_canoeAt rfl rfl rfl (by decide +kernel) ⟨Nat.le_of_ble_eq_true rfl, Nat.le_of_ble_eq_true rfl⟩) (pt_pre hP hK hW0 (ci := 6) (q0 := 0) rfl rfl) rfl rfl hl.1 rfl (lv_room (Nat.le_of_ble_eq_true rfl)) dX7_quarrel_23 ⟨Nat.le_of_ble_eq_true rfl, Nat.le_of_ble_eq_true rfl⟩) (fun w5 hw5 => ?_)
        obtain ⟨o5, rfl, hg5⟩ := hw5
        cases o5 with
        | none =>
          refine lv_astoreN (lv' := [(4, .null), (3, .int (nI j13)), (0, .ref h0), (1, .int a1), (2, .int a2)]) hx hb dX7_quarrel_26 hl (by decide) rfl (fun ls hl => ?_)
          refine lv_aloadN hx hb dX7_quarrel_28 (lv_at hl 0 rfl) ?_
          refine lv_ifnullN (tgt := 53) hx hb dX7_quarrel_30 (by decide) ?_
          refine lv_iinc (v := (nI (j13 + 1))) (lv' := [(3, .int (nI (j13 + 1))), (4, .null), (0, .ref h0), (1, .int a1), (2, .int a2)]) hx hb dX7_quarrel_53 hl (k := 1) rfl (show nI j13 + 1 = nI (j13 + 1) from nI_1 j13) (by decide) rfl (fun ls hl => ?_)
          refine lv_goto (tgt := 13) hx hb dX7_quarrel_56 (by decide) ?_
          exact ih13 (j13 + 1) ls (by omega) (lv_sub hl [0, 2, 3, 4] rfl)
        | some b5 =>
          have hk5 := hg5 b5 rfl
          refine lv_astore (lv' := [(4, .ref b5), (3, .int (nI j13)), (0, .ref h0), (1, .int a1), (2, .int a2)]) hx hb dX7_quarrel_26 hl (by decide) rfl (fun ls hl => ?_)
          refine lv_aload hx hb dX7_quarrel_28 (lv_at hl 0 rfl) ?_
          refine lv_ifnull hx hb dX7_quarrel_30 ?_
          refine lv_aload hx hb dX7_quarrel_33 (lv_at hl 0 rfl) ?_
          refine lv_iload_n hx hb dX7_quarrel_35 rfl (lv_at hl 3 rfl) ?_
          refine lv_iload_n hx hb dX7_quarrel_36 rfl (lv_at hl 4 rfl) ?_
          obtain ⟨hm7, i7, g7, s7, w7, hi7, he7, k7_0, k7_1⟩ := at_3 (xo_ h0 q n dl) hT hk5.1
          refine pg_call (va_runV (As := [.int a1, .int a2]) (rest := []) ⟨hx, hb, hml, hown, hts⟩ (k_X0_isBetween l dC dI h0 q n dl cI cy L t f hT hQ hN b5 hk5.1 a1 a2) (cwV 2 hts gX7_quarrel_X0_isBetween rfl rfl rfl (by decide +kernel) ⟨Nat.le_of_ble_eq_true rfl, Nat.le_of_ble_eq_true rfl⟩) (pt_pre hP hK hW0 (ci := 0) (q0 := i7) rfl he7) rfl rfl hl.1 rfl (lv_room (Nat.le_of_ble_eq_true rfl)) dX7_quarrel_37 ⟨Nat.le_of_ble_eq_true rfl, Nat.le_of_ble_eq_true rfl⟩) (fun w6 hw6 => ?_)
          obtain ⟨r6, rfl, hg6⟩ := hw6
          refine lv_if_eq (tgt := 53) hx hb dX7_quarrel_40 (by decide) (fun h_8 => ?_) (fun h_8 => ?_)
          · skip
            refine lv_iinc (v := (nI (j13 + 1))) (lv' := [(3, .int (nI (j13 + 1))), (4, .ref b5), (0, .ref h0), (1, .int a1), (2, .int a2)]) hx hb dX7_quarrel_53 hl (k := 1) rfl (show nI j13 + 1 = nI (j13 + 1) from nI_1 j13) (by decide) rfl (fun ls hl => ?_)
            refine lv_goto (tgt := 13) hx hb dX7_quarrel_56 (by decide) ?_
            exact ih13 (j13 + 1) ls (by omega) (lv_sub hl [0, 2, 3, 4] rfl)
          · skip
            refine lv_aload hx hb dX7_quarrel_43 (lv_at hl 0 rfl) ?_
            refine pg_call (va_runV (As := []) (rest := []) ⟨hx, hb, hml, hown, hts⟩ (k_X0_partsBooks l dC dI h0 q n dl cI cy L t f hT hQ hN b5 hk5.1 ) (cwV 0 hts gX7_quarrel_X0_partsBooks rfl rfl rfl (by decide +kernel) ⟨Nat.le_of_ble_eq_true rfl, Nat.le_of_ble_eq_true rfl⟩) (pt_pre hP hK hW0 (ci := 0) (q0 := i7) rfl he7) rfl rfl hl.1 rfl (lv_room (Nat.le_of_ble_eq_true rfl)) dX7_quarrel_45 ⟨Nat.le_of_ble_eq_true rfl, Nat.le_of_ble_eq_true rfl⟩) (fun w9 hw9 => ?_)
            obtain ⟨r9, rfl, hg9⟩ := hw9
            refine lv_if_eq (tgt := 53) hx hb dX7_quarrel_48 (by decide) (fun h_10 => ?_) (fun h_10 => ?_)
            · skip
              refine lv_iinc (v := (nI (j13 + 1))) (lv' := [(3, .int (nI (j13 + 1))), (4, .ref b5), (0, .ref h0), (1, .int a1), (2, .int a2)]) hx hb dX7_quarrel_53 hl (k := 1) rfl (show nI j13 + 1 = nI (j13 + 1) from nI_1 j13) (by decide) rfl (fun ls hl => ?_)
              refine lv_goto (tgt := 13) hx hb dX7_quarrel_56 (by decide) ?_
              exact ih13 (j13 + 1) ls (by omega) (lv_sub hl [0, 2, 3, 4] rfl)
            · skip
              refine lv_iload_n hx hb dX7_quarrel_51 rfl (lv_at hl 1 rfl) ?_
              exact W.iret (v := (nI j13)) hx hb hr (fun t ht hW => ⟨_, rfl, ⟨(nI j13), rfl, trivial⟩, ht⟩) (fun q h => by cases h) dX7_quarrel_52
    exact key13 (n 3) 0 ls (by omega) (lv_sub hl [0, 1, 2, 3] rfl)
  · skip
    refine lv_iconst (v := (-1)) hx hb dX7_quarrel_9 (by decide) ?_
    exact W.iret (v := (-1)) hx hb hr (fun t ht hW => ⟨_, rfl, ⟨(-1), rfl, trivial⟩, ht⟩) (fun q h => by cases h) dX7_quarrel_10

set_option maxHeartbeats 4000000 in
set_option maxRecDepth 100000 in
theorem k_X7_canoe (l : Launch) (dC : Nat → ClassId) (dI : Nat → Nat → Nat) (h0 : Nat) (q n : Nat → Nat) (dl : Int32) (cI : ClassId) (cy : Nat → ClassId) (L : List Nat) (t : Nat → Nat) (f : Nat → va_E) (hT : ty_ cI cy L t f) (hQ : qs_ q t) (hN : nb_ n) (a1 : Int32) (a2 : Int32) : Met l yX7_canoe wsX7_canoe ({ frames := 1, cells := 0, slots := 0, locals := 21 }) (va_Pc [.ref h0, .int a1, .int a2] (pt_P (dC, dI) vwCl (tt_ cI cy) (xo_ h0 q n dl ++ va_pl L f))) (pg_Q (gi_ (fun r => True))) 0 0 pu_F := by
  refine Met.ofW (cc := cX7_canoe) (maxL := 4) (ret := (some .int)) (by decide) rfl ?_
  intro p e s m args below meth c s₁ B hml hv
  obtain ⟨rfl, hP, hK, hW0⟩ := hv
  have hx := B.exec
  have hb := B.bytes
  have hr := B.returns
  have hts := atoms_spec (ws := wsX7_canoe) B.pre
  have hown : s.vm.findClass RX7 = some m.cls := findClass_of_methodNamed B.named
  have hlocks := B.notSynchronized
  have hinX0 : ∀ w ∈ u_ws RX0 TX0 11, w ∈ wsX7_canoe := by decide +kernel
  have hl := lv_entry ([.ref h0, .int a1, .int a2]) (n := 4) (Nat.le_of_ble_eq_true rfl)
  rw [lg_entry_eq]
  generalize (lg_sl ([.ref h0, .int a1, .int a2]) ++ List.replicate (4 - (lg_sl ([.ref h0, .int a1, .int a2])).length) Slot.unset).toArray = ls at hl ⊢
  have hl : lv_has ls 4 [(0, .ref h0), (1, .int a1), (2, .int a2)] := hl
  refine lv_aload_n hx hb dX7_canoe_0 rfl (lv_at hl 0 rfl) ?_
  refine lv_iload_n hx hb dX7_canoe_1 rfl (lv_at hl 1 rfl) ?_
  refine pg_call (va_runV (As := [.int a1]) (rest := []) ⟨hx, hb, hml, hown, hts⟩ (k_X7_canoeAt l dC dI h0 q n dl cI cy L t f hT hQ hN a1) (cwV 1 hts gX7_canoe_X7_canoeAt rfl rfl rfl (by decide +kernel) ⟨Nat.le_of_ble_eq_true rfl, Nat.le_of_ble_eq_true rfl⟩) (pt_pre hP hK hW0 (ci := 6) (q0 := 0) rfl rfl) rfl rfl hl.1 rfl (lv_room (Nat.le_of_ble_eq_true rfl)) dX7_canoe_2 ⟨Nat.le_of_ble_eq_true rfl, Nat.le_of_ble_eq_true rfl⟩) (fun w1 hw1 => ?_)
  obtain ⟨o1, rfl, hg1⟩ := hw1
  cases o1 with
  | none =>
    refine lv_astore_nN (lv' := [(3, .null), (0, .ref h0), (1, .int a1), (2, .int a2)]) hx hb dX7_canoe_5 rfl hl (by decide) rfl (fun ls hl => ?_)
    refine lv_aload_nN hx hb dX7_canoe_6 rfl (lv_at hl 0 rfl) ?_
    refine lv_ifnonnullN hx hb dX7_canoe_7 ?_
    refine lv_iconst (v := (-1)) hx hb dX7_canoe_10 (by decide) ?_
    exact W.iret (v := (-1)) hx hb hr (fun t ht hW => ⟨_, rfl, ⟨(-1), rfl, trivial⟩, ht⟩) (fun q h => by cases h) dX7_canoe_11
  | some b1 =>
    have hk1 := hg1 b1 rfl
    refine lv_astore_n (lv' := [(3, .ref b1), (0, .ref h0), (1, .int a1), (2, .int a2)]) hx hb dX7_canoe_5 rfl hl (by decide) rfl (fun ls hl => ?_)
    refine lv_aload_n hx hb dX7_canoe_6 rfl (lv_at hl 0 rfl) ?_
    refine lv_ifnonnull (tgt := 12) hx hb dX7_canoe_7 (by decide) ?_
    refine lv_iload_n hx hb dX7_canoe_12 rfl (lv_at hl 3 rfl) ?_
    refine lv_bipush (v := 10) hx hb dX7_canoe_13 (by decide) ?_
    refine lv_isub hx hb dX7_canoe_15 ?_
    refine pu_call (va_runS (As := [.int (a2 - 10)]) (rest := []) ⟨hx, hb, hml, hown, hts⟩ (c_X7_isWare l (a2 - 10)) (va_cwS 1 hts gX7_canoe_X7_isWare rfl rfl rfl (by decide +kernel) ⟨Nat.le_of_ble_eq_true rfl, Nat.le_of_ble_eq_true rfl⟩) pu_preS rfl rfl hl.1 rfl (lv_room (Nat.le_of_ble_eq_true rfl)) dX7_canoe_16 ⟨Nat.le_of_ble_eq_true rfl, Nat.le_of_ble_eq_true rfl⟩) ?_
    refine lv_if_eq (tgt := 32) hx hb dX7_canoe_19 (by decide) (fun h_2 => ?_) (fun h_2 => ?_)
    · skip
      refine lv_iload_n hx hb dX7_canoe_32 rfl (lv_at hl 3 rfl) ?_
      refine lv_bipush (v := 20) hx hb dX7_canoe_33 (by decide) ?_
      refine lv_isub hx hb dX7_canoe_35 ?_
      refine pu_call (va_runS (As := [.int (a2 - 20)]) (rest := []) ⟨hx, hb, hml, hown, hts⟩ (c_X7_isWare l (a2 - 20)) (va_cwS 1 hts gX7_canoe_X7_isWare rfl rfl rfl (by decide +kernel) ⟨Nat.le_of_ble_eq_true rfl, Nat.le_of_ble_eq_true rfl⟩) pu_preS rfl rfl hl.1 rfl (lv_room (Nat.le_of_ble_eq_true rfl)) dX7_canoe_36 ⟨Nat.le_of_ble_eq_true rfl, Nat.le_of_ble_eq_true rfl⟩) ?_
      refine lv_if_eq (tgt := 52) hx hb dX7_canoe_39 (by decide) (fun h_3 => ?_) (fun h_3 => ?_)
      · skip
        refine lv_iload_n hx hb dX7_canoe_52 rfl (lv_at hl 3 rfl) ?_
        rcases (Decidable.em (a2 = 0)) with e_4 | e_4
        · refine lv_tableIn (off := 47) (tgt := 100) hx hb dX7_canoe_53 (by rw [e_4]; decide) (by rw [e_4]; decide) (by rw [e_4]; rfl) (by decide) ?_
          refine lv_aload_n hx hb dX7_canoe_100 rfl (lv_at hl 0 rfl) ?_
          obtain ⟨hm5, i5, g5, s5, w5, hi5, he5, k5_0, k5_1⟩ := at_3 (xo_ h0 q n dl) hT hk1.1
          refine va_get (D := (dC, dI)) (ci := 0) (v := .int (g5 0)) (C := RX0) (T := TX0) (N := 11) hx hb hts hinX0 hown hK hP i5 he5 rfl 0 (by decide) (hts (.fieldLink RX7 175 "FurPosts$Canoe" "from" "I") (by decide +kernel)) (fun _ h9 => h9) rfl dX7_canoe_101 ?_
          exact W.iret (v := (g5 0)) hx hb hr (fun t ht hW => ⟨_, rfl, ⟨(g5 0), rfl, trivial⟩, ht⟩) (fun q h => by cases h) dX7_canoe_104
        rcases (Decidable.em (a2 = 1)) with e_6 | e_6
        · refine lv_tableIn (off := 52) (tgt := 105) hx hb dX7_canoe_53 (by rw [e_6]; decide) (by rw [e_6]; decide) (by rw [e_6]; rfl) (by decide) ?_
          refine lv_aload_n hx hb dX7_canoe_105 rfl (lv_at hl 0 rfl) ?_
          obtain ⟨hm7, i7, g7, s7, w7, hi7, he7, k7_0, k7_1⟩ := at_3 (xo_ h0 q n dl) hT hk1.1
          refine va_get (D := (dC, dI)) (ci := 0) (v := .int (g7 1)) (C := RX0) (T := TX0) (N := 11) hx hb hts hinX0 hown hK hP i7 he7 rfl 1 (by decide) (hts (.fieldLink RX7 184 "FurPosts$Canoe" "to" "I") (by decide +kernel)) (fun _ h9 => h9) rfl dX7_canoe_106 ?_
          exact W.iret (v := (g7 1)) hx hb hr (fun t ht hW => ⟨_, rfl, ⟨(g7 1), rfl, trivial⟩, ht⟩) (fun q h => by cases h) dX7_canoe_109
        rcases (Decidable.em (a2 = 2)) with e_8 | e_8
        · refine lv_tableIn (off := 57) (tgt := 110) hx hb dX7_canoe_53 (by rw [e_8]; decide) (by rw [e_8]; decide) (by rw [e_8]; rfl) (by decide) ?_
          refine lv_aload_n hx hb dX7_canoe_110 rfl (lv_at hl 0 rfl) ?_
          obtain ⟨hm9, i9, g9, s9, w9, hi9, he9, k9_0, k9_1⟩ := at_3 (xo_ h0 q n dl) hT hk1.1
          refine va_get (D := (dC, dI)) (ci := 0) (v := .int (g9 2)) (C := RX0) (T := TX0) (N := 11) hx hb hts hinX0 hown hK hP i9 he9 rfl 2 (by decide) (hts (.fieldLink RX7 193 "FurPosts$Canoe" "way" "I") (by decide +kernel)) (fun _ h9 => h9) rfl dX7_canoe_111 ?_
          exact W.iret (v := (g9 2)) hx hb hr (fun t ht hW => ⟨_, rfl, ⟨(g9 2), rfl, trivial⟩, ht⟩) (fun q h => by cases h) dX7_canoe_114
        rcases (Decidable.em (a2 = 3)) with e_10 | e_10
        · refine lv_tableIn (off := 62) (tgt := 115) hx hb dX7_canoe_53 (by rw [e_10]; decide) (by rw [e_10]; decide) (by rw [e_10]; rfl) (by decide) ?_
          refine lv_aload_n hx hb dX7_canoe_115 rfl (lv_at hl 0 rfl) ?_
          obtain ⟨hm11, i11, g11, s11, w11, hi11, he11, k11_0, k11_1⟩ := at_3 (xo_ h0 q n dl) hT hk1.1
          refine va_get (D := (dC, dI)) (ci := 0) (v := .int (g11 7)) (C := RX0) (T := TX0) (N := 11) hx hb hts hinX0 hown hK hP i11 he11 rfl 7 (by decide) (hts (.fieldLink RX7 145 "FurPosts$Canoe" "daysToGo" "I") (by decide +kernel)) (fun _ h9 => h9) rfl dX7_canoe_116 ?_
          exact W.iret (v := (g11 7)) hx hb hr (fun t ht hW => ⟨_, rfl, ⟨(g11 7), rfl, trivial⟩, ht⟩) (fun q h => by cases h) dX7_canoe_119
        rcases (Decidable.em (a2 = 4)) with e_12 | e_12
        · refine lv_tableIn (off := 67) (tgt := 120) hx hb dX7_canoe_53 (by rw [e_12]; decide) (by rw [e_12]; decide) (by rw [e_12]; rfl) (by decide) ?_
          refine lv_aload_n hx hb dX7_canoe_120 rfl (lv_at hl 0 rfl) ?_
          obtain ⟨hm13, i13, g13, s13, w13, hi13, he13, k13_0, k13_1⟩ := at_3 (xo_ h0 q n dl) hT hk1.1
          refine va_get (D := (dC, dI)) (ci := 0) (v := .int (g13 9)) (C := RX0) (T := TX0) (N := 11) hx hb hts hinX0 hown hK hP i13 he13 rfl 9 (by decide) (hts (.fieldLink RX7 142 "FurPosts$Canoe" "state" "I") (by decide +kernel)) (fun _ h9 => h9) rfl dX7_canoe_121 ?_
          exact W.iret (v := (g13 9)) hx hb hr (fun t ht hW => ⟨_, rfl, ⟨(g13 9), rfl, trivial⟩, ht⟩) (fun q h => by cases h) dX7_canoe_124
        rcases (Decidable.em (a2 = 5)) with e_14 | e_14
        · refine lv_tableIn (off := 72) (tgt := 125) hx hb dX7_canoe_53 (by rw [e_14]; decide) (by rw [e_14]; decide) (by rw [e_14]; rfl) (by decide) ?_
          refine lv_aload_n hx hb dX7_canoe_125 rfl (lv_at hl 0 rfl) ?_
          obtain ⟨hm15, i15, g15, s15, w15, hi15, he15, k15_0, k15_1⟩ := at_3 (xo_ h0 q n dl) hT hk1.1
          refine va_get (D := (dC, dI)) (ci := 0) (v := .int (g15 3)) (C := RX0) (T := TX0) (N := 11) hx hb hts hinX0 hown hK hP i15 he15 rfl 3 (by decide) (hts (.fieldLink RX7 267 "FurPosts$Canoe" "daySent" "I") (by decide +kernel)) (fun _ h9 => h9) rfl dX7_canoe_126 ?_
          exact W.iret (v := (g15 3)) hx hb hr (fun t ht hW => ⟨_, rfl, ⟨(g15 3), rfl, trivial⟩, ht⟩) (fun q h => by cases h) dX7_canoe_129
        rcases (Decidable.em (a2 = 6)) with e_16 | e_16
        · refine lv_tableIn (off := 77) (tgt := 130) hx hb dX7_canoe_53 (by rw [e_16]; decide) (by rw [e_16]; decide) (by rw [e_16]; rfl) (by decide) ?_
          refine lv_aload_n hx hb dX7_canoe_130 rfl (lv_at hl 0 rfl) ?_
          obtain ⟨hm17, i17, g17, s17, w17, hi17, he17, k17_0, k17_1⟩ := at_3 (xo_ h0 q n dl) hT hk1.1
          refine va_get (D := (dC, dI)) (ci := 0) (v := .int (g17 8)) (C := RX0) (T := TX0) (N := 11) hx hb hts hinX0 hown hK hP i17 he17 rfl 8 (by decide) (hts (.fieldLink RX7 204 "FurPosts$Canoe" "dayCame" "I") (by decide +kernel)) (fun _ h9 => h9) rfl dX7_canoe_131 ?_
          exact W.iret (v := (g17 8)) hx hb hr (fun t ht hW => ⟨_, rfl, ⟨(g17 8), rfl, trivial⟩, ht⟩) (fun q h => by cases h) dX7_canoe_134
        rcases (Decidable.em (a2 = 7)) with e_18 | e_18
        · refine lv_tableIn (off := 82) (tgt := 135) hx hb dX7_canoe_53 (by rw [e_18]; decide) (by rw [e_18]; decide) (by rw [e_18]; rfl) (by decide) ?_
          refine lv_aload_n hx hb dX7_canoe_135 rfl (lv_at hl 0 rfl) ?_
          obtain ⟨hm19, i19, g19, s19, w19, hi19, he19, k19_0, k19_1⟩ := at_3 (xo_ h0 q n dl) hT hk1.1
          refine va_get (D := (dC, dI)) (ci := 0) (v := .int (g19 6)) (C := RX0) (T := TX0) (N := 11) hx hb hts hinX0 hown hK hP i19 he19 rfl 6 (by decide) (hts (.fieldLink RX7 135 "FurPosts$Canoe" "lettersSent" "I") (by decide +kernel)) (fun _ h9 => h9) rfl dX7_canoe_136 ?_
          exact W.iret (v := (g19 6)) hx hb hr (fun t ht hW => ⟨_, rfl, ⟨(g19 6), rfl, trivial⟩, ht⟩) (fun q h => by cases h) dX7_canoe_139
        refine lv_tableOut (tgt := 140) hx hb dX7_canoe_53 (by have j_0 := sw_n (n := 0) (k := 0) e_4 (by decide); have j_1 := sw_n (n := 1) (k := 1) e_6 (by decide); have j_2 := sw_n (n := 2) (k := 2) e_8 (by decide); have j_3 := sw_n (n := 3) (k := 3) e_10 (by decide); have j_4 := sw_n (n := 4) (k := 4) e_12 (by decide); have j_5 := sw_n (n := 5) (k := 5) e_14 (by decide); have j_6 := sw_n (n := 6) (k := 6) e_16 (by decide); have j_7 := sw_n (n := 7) (k := 7) e_18 (by decide); omega) (by decide) ?_
        refine lv_iconst (v := (-1)) hx hb dX7_canoe_140 (by decide) ?_
        exact W.iret (v := (-1)) hx hb hr (fun t ht hW => ⟨_, rfl, ⟨(-1), rfl, trivial⟩, ht⟩) (fun q h => by cases h) dX7_canoe_141
      · skip
        refine lv_aload_n hx hb dX7_canoe_42 rfl (lv_at hl 0 rfl) ?_
        obtain ⟨hm20, i20, g20, s20, w20, hi20, he20, k20_0, k20_1⟩ := at_3 (xo_ h0 q n dl) hT hk1.1
        refine va_get (D := (dC, dI)) (ci := 0) (v := .ref s20) (C := RX0) (T := TX0) (N := 11) hx hb hts hinX0 hown hK hP i20 he20 rfl 4 (by decide) (hts (.fieldLink RX7 264 "FurPosts$Canoe" "waresSent" "[I") (by decide +kernel)) (fun _ h9 => h9) rfl dX7_canoe_43 ?_
        refine lv_iload_n hx hb dX7_canoe_46 rfl (lv_at hl 3 rfl) ?_
        refine lv_bipush (v := 20) hx hb dX7_canoe_47 (by decide) ?_
        refine lv_isub hx hb dX7_canoe_49 ?_
        obtain ⟨hm21, i21, g21, hi21, he21⟩ := at_15 (xo_ h0 q n dl) hT k20_0
        refine va_iald hx hb hK hP i21 0 he21 rfl (i := (a2 - 20)) (sp_vp h_3 rfl) dX7_canoe_50 ?_
        refine lv_topi (fun v22 _ => ?_)
        exact W.iret (v := v22) hx hb hr (fun t ht hW => ⟨_, rfl, ⟨v22, rfl, trivial⟩, ht⟩) (fun q h => by cases h) dX7_canoe_51
    · skip
      refine lv_aload_n hx hb dX7_canoe_22 rfl (lv_at hl 0 rfl) ?_
      obtain ⟨hm23, i23, g23, s23, w23, hi23, he23, k23_0, k23_1⟩ := at_3 (xo_ h0 q n dl) hT hk1.1
      refine va_get (D := (dC, dI)) (ci := 0) (v := .ref w23) (C := RX0) (T := TX0) (N := 11) hx hb hts hinX0 hown hK hP i23 he23 rfl 5 (by decide) (hts (.fieldLink RX7 148 "FurPosts$Canoe" "wares" "[I") (by decide +kernel)) (fun _ h9 => h9) rfl dX7_canoe_23 ?_
      refine lv_iload_n hx hb dX7_canoe_26 rfl (lv_at hl 3 rfl) ?_
      refine lv_bipush (v := 10) hx hb dX7_canoe_27 (by decide) ?_
      refine lv_isub hx hb dX7_canoe_29 ?_
      obtain ⟨hm24, i24, g24, hi24, he24⟩ := at_15 (xo_ h0 q n dl) hT k23_1
      refine va_iald hx hb hK hP i24 0 he24 rfl (i := (a2 - 10)) (sp_vp h_2 rfl) dX7_canoe_30 ?_
      refine lv_topi (fun v25 _ => ?_)
      exact W.iret (v := v25) hx hb hr (fun t ht hW => ⟨_, rfl, ⟨v25, rfl, trivial⟩, ht⟩) (fun q h => by cases h) dX7_canoe_31

set_option maxHeartbeats 4000000 in
set_option maxRecDepth 100000 in
theorem k_X7_told (l : Launch) (dC : Nat → ClassId) (dI : Nat → Nat → Nat) (h0 : Nat) (q n : Nat → Nat) (dl : Int32) (cI : ClassId) (cy : Nat → ClassId) (L : List Nat) (t : Nat → Nat) (f : Nat → va_E) (hT : ty_ cI cy L t f) (hQ : qs_ q t) (hN : nb_ n) (a1 : Int32) (a2 : Int32) : Met l yX7_told wsX7_told ({ frames := 2, cells := 0, slots := 0, locals := 45 }) (va_Pc [.ref h0, .int a1, .int a2] (pt_P (dC, dI) vwCl (tt_ cI cy) (xo_ h0 q n dl ++ va_pl L f))) (pg_Q (gi_ (fun r => True))) 0 0 pu_F := by
  refine Met.ofW (cc := cX7_told) (maxL := 4) (ret := (some .int)) (by decide) rfl ?_
  intro p e s m args below meth c s₁ B hml hv
  obtain ⟨rfl, hP, hK, hW0⟩ := hv
  have hx := B.exec
  have hb := B.bytes
  have hr := B.returns
  have hts := atoms_spec (ws := wsX7_told) B.pre
  have hown : s.vm.findClass RX7 = some m.cls := findClass_of_methodNamed B.named
  have hlocks := B.notSynchronized
  have hinX4 : ∀ w ∈ u_ws RX4 TX4 4, w ∈ wsX7_told := by decide +kernel
  have hl := lv_entry ([.ref h0, .int a1, .int a2]) (n := 4) (Nat.le_of_ble_eq_true rfl)
  rw [lg_entry_eq]
  generalize (lg_sl ([.ref h0, .int a1, .int a2]) ++ List.replicate (4 - (lg_sl ([.ref h0, .int a1, .int a2])).length) Slot.unset).toArray = ls at hl ⊢
  have hl : lv_has ls 4 [(0, .ref h0), (1, .int a1), (2, .int a2)] := hl
  refine lv_aload_n hx hb dX7_told_0 rfl (lv_at hl 0 rfl) ?_
  refine lv_iload_n hx hb dX7_told_1 rfl (lv_at hl 1 rfl) ?_
  refine pg_call (va_runV (As := [.int a1]) (rest := []) ⟨hx, hb, hml, hown, hts⟩ (k_X7_postAt l dC dI h0 q n dl cI cy L t f hT hQ hN a1) (cwV 1 hts gX7_told_X7_postAt rfl rfl rfl (by decide +kernel) ⟨Nat.le_of_ble_eq_true rfl, Nat.le_of_ble_eq_true rfl⟩) (pt_pre hP hK hW0 (ci := 6) (q0 := 0) rfl rfl) rfl rfl hl.1 rfl (lv_room (Nat.le_of_ble_eq_true rfl)) dX7_told_2 ⟨Nat.le_of_ble_eq_true rfl, Nat.le_of_ble_eq_true rfl⟩) (fun w1 hw1 => ?_)
  obtain ⟨o1, rfl, hg1⟩ := hw1
  cases o1 with
  | none =>
    refine lv_astore_nN (lv' := [(3, .null), (0, .ref h0), (1, .int a1), (2, .int a2)]) hx hb dX7_told_5 rfl hl (by decide) rfl (fun ls hl => ?_)
    refine lv_aload_nN hx hb dX7_told_6 rfl (lv_at hl 0 rfl) ?_
    refine lv_ifnonnullN hx hb dX7_told_7 ?_
    refine lv_iconst (v := (-1)) hx hb dX7_told_10 (by decide) ?_
    exact W.iret (v := (-1)) hx hb hr (fun t ht hW => ⟨_, rfl, ⟨(-1), rfl, trivial⟩, ht⟩) (fun q h => by cases h) dX7_told_11
  | some b1 =>
    have hk1 := hg1 b1 rfl
    refine lv_astore_n (lv' := [(3, .ref b1), (0, .ref h0), (1, .int a1), (2, .int a2)]) hx hb dX7_told_5 rfl hl (by decide) rfl (fun ls hl => ?_)
    refine lv_aload_n hx hb dX7_told_6 rfl (lv_at hl 0 rfl) ?_
    refine lv_ifnonnull (tgt := 12) hx hb dX7_told_7 (by decide) ?_
    refine lv_iload_n hx hb dX7_told_12 rfl (lv_at hl 3 rfl) ?_
    refine pu_call (va_runS (As := [.int a2]) (rest := []) ⟨hx, hb, hml, hown, hts⟩ (c_X7_isWare l a2) (va_cwS 1 hts gX7_told_X7_isWare rfl rfl rfl (by decide +kernel) ⟨Nat.le_of_ble_eq_true rfl, Nat.le_of_ble_eq_true rfl⟩) pu_preS rfl rfl hl.1 rfl (lv_room (Nat.le_of_ble_eq_true rfl)) dX7_told_13 ⟨Nat.le_of_ble_eq_true rfl, Nat.le_of_ble_eq_true rfl⟩) ?_
    refine lv_if_eq (tgt := 26) hx hb dX7_told_16 (by decide) (fun h_2 => ?_) (fun h_2 => ?_)
    · skip
      refine lv_iload_n hx hb dX7_told_26 rfl (lv_at hl 3 rfl) ?_
      rcases (Decidable.em (a2 = 6)) with e_3 | e_3
      · refine lv_lookup (off := 25) (tgt := 52) hx hb dX7_told_27 (by decide) (by rw [e_3]; decide) (by decide) ?_
        refine lv_aload_n hx hb dX7_told_52 rfl (lv_at hl 1 rfl) ?_
        refine lv_iload_n hx hb dX7_told_53 rfl (lv_at hl 2 rfl) ?_
        refine pg_call (va_runV (As := [.int a1]) (rest := []) ⟨hx, hb, hml, hown, hts⟩ (k_X7_countBag l dC dI h0 q n dl cI cy L t f hT hQ hN a1) (cwV 1 hts gX7_told_X7_countBag rfl rfl rfl (by decide +kernel) ⟨Nat.le_of_ble_eq_true rfl, Nat.le_of_ble_eq_true rfl⟩) (pt_pre hP hK hW0 (ci := 6) (q0 := 0) rfl rfl) rfl rfl hl.1 rfl (lv_room (Nat.le_of_ble_eq_true rfl)) dX7_told_54 ⟨Nat.le_of_ble_eq_true rfl, Nat.le_of_ble_eq_true rfl⟩) (fun w4 hw4 => ?_)
        obtain ⟨r4, rfl, hg4⟩ := hw4
        exact W.iret (v := r4) hx hb hr (fun t ht hW => ⟨_, rfl, ⟨r4, rfl, trivial⟩, ht⟩) (fun q h => by cases h) dX7_told_57
      rcases (Decidable.em (a2 = 7)) with e_5 | e_5
      · refine lv_lookup (off := 31) (tgt := 58) hx hb dX7_told_27 (by decide) (by rw [e_5]; decide) (by decide) ?_
        refine lv_aload_n hx hb dX7_told_58 rfl (lv_at hl 0 rfl) ?_
        obtain ⟨hm7, i7, s7, p7, o7, r7, hi7, he7, k7_0, k7_1, k7_2, k7_3⟩ := at_1 (xo_ h0 q n dl) hT hk1.1
        refine pg_call (va_runV (As := []) (rest := []) ⟨hx, hb, hml, hown, hts⟩ (k_X4_owedByAll l dC dI h0 q n dl cI cy L t f hT hQ hN b1 hk1.1 ) (cwV 0 hts gX7_told_X4_owedByAll rfl rfl rfl (by decide +kernel) ⟨Nat.le_of_ble_eq_true rfl, Nat.le_of_ble_eq_true rfl⟩) (pt_pre hP hK hW0 (ci := 3) (q0 := i7) rfl he7) rfl rfl hl.1 rfl (lv_room (Nat.le_of_ble_eq_true rfl)) dX7_told_59 ⟨Nat.le_of_ble_eq_true rfl, Nat.le_of_ble_eq_true rfl⟩) (fun w6 hw6 => ?_)
        obtain ⟨r6, rfl, hg6⟩ := hw6
        exact W.iret (v := r6) hx hb hr (fun t ht hW => ⟨_, rfl, ⟨r6, rfl, trivial⟩, ht⟩) (fun q h => by cases h) dX7_told_62
      refine lv_lookup (off := 36) (tgt := 63) hx hb dX7_told_27 (by decide) (by have j_0 := sw_n (n := 6) (k := 6) e_3 (by decide); have j_1 := sw_n (n := 7) (k := 7) e_5 (by decide); simp [Op.lookupswitch.offset, j_0, j_1, Ne.symm j_0, Ne.symm j_1]) (by decide) ?_
      refine lv_iconst (v := (-1)) hx hb dX7_told_63 (by decide) ?_
      exact W.iret (v := (-1)) hx hb hr (fun t ht hW => ⟨_, rfl, ⟨(-1), rfl, trivial⟩, ht⟩) (fun q h => by cases h) dX7_told_64
    · skip
      refine lv_aload_n hx hb dX7_told_19 rfl (lv_at hl 0 rfl) ?_
      obtain ⟨hm8, i8, s8, p8, o8, r8, hi8, he8, k8_0, k8_1, k8_2, k8_3⟩ := at_1 (xo_ h0 q n dl) hT hk1.1
      refine va_get (D := (dC, dI)) (ci := 3) (v := .ref s8) (C := RX4) (T := TX4) (N := 4) hx hb hts hinX4 hown hK hP i8 he8 rfl 0 (by decide) (hts (.fieldLink RX7 92 "FurPosts$Post" "stock" "[I") (by decide +kernel)) (fun _ h9 => h9) rfl dX7_told_20 ?_
      refine lv_iload_n hx hb dX7_told_23 rfl (lv_at hl 3 rfl) ?_
      obtain ⟨hm9, i9, g9, hi9, he9⟩ := at_15 (xo_ h0 q n dl) hT k8_0
      refine va_iald hx hb hK hP i9 0 he9 rfl (i := a2) (sp_vp h_2 rfl) dX7_told_24 ?_
      refine lv_topi (fun v10 _ => ?_)
      exact W.iret (v := v10) hx hb hr (fun t ht hW => ⟨_, rfl, ⟨v10, rfl, trivial⟩, ht⟩) (fun q h => by cases h) dX7_told_25

set_option maxHeartbeats 4000000 in
set_option maxRecDepth 100000 in
theorem k_X7_count (l : Launch) (dC : Nat → ClassId) (dI : Nat → Nat → Nat) (h0 : Nat) (q n : Nat → Nat) (dl : Int32) (cI : ClassId) (cy : Nat → ClassId) (L : List Nat) (t : Nat → Nat) (f : Nat → va_E) (hT : ty_ cI cy L t f) (hQ : qs_ q t) (hN : nb_ n) (a1 : Int32) (a2 : Int32) : Met l yX7_count wsX7_count ({ frames := 1, cells := 0, slots := 0, locals := 22 }) (va_Pc [.ref h0, .int a1, .int a2] (pt_P (dC, dI) vwCl (tt_ cI cy) (xo_ h0 q n dl ++ va_pl L f))) (pg_Q (gi_ (fun r => True))) 0 0 pu_F := by
  refine Met.ofW (cc := cX7_count) (maxL := 3) (ret := (some .int)) (by decide) rfl ?_
  intro p e s m args below meth c s₁ B hml hv
  obtain ⟨rfl, hP, hK, hW0⟩ := hv
  have hx := B.exec
  have hb := B.bytes
  have hr := B.returns
  have hts := atoms_spec (ws := wsX7_count) B.pre
  have hown : s.vm.findClass RX7 = some m.cls := findClass_of_methodNamed B.named
  have hlocks := B.notSynchronized
  have hinX7 : ∀ w ∈ u_ws RX7 TX7 14, w ∈ wsX7_count := by decide +kernel
  have hl := lv_entry ([.ref h0, .int a1, .int a2]) (n := 3) (Nat.le_of_ble_eq_true rfl)
  rw [lg_entry_eq]
  generalize (lg_sl ([.ref h0, .int a1, .int a2]) ++ List.replicate (3 - (lg_sl ([.ref h0, .int a1, .int a2])).length) Slot.unset).toArray = ls at hl ⊢
  have hl : lv_has ls 3 [(0, .ref h0), (1, .int a1), (2, .int a2)] := hl
  refine lv_iload_n hx hb dX7_count_0 rfl (lv_at hl 1 rfl) ?_
  refine lv_iconst (v := (-1)) hx hb dX7_count_1 (by decide) ?_
  refine lv_icmp_ne (tgt := 11) hx hb dX7_count_2 (by decide) (fun h_1 => ?_) (fun h_1 => ?_)
  · skip
    refine lv_iload_n hx hb dX7_count_11 rfl (lv_at hl 1 rfl) ?_
    refine pu_call (va_runS (As := [.int a1]) (rest := []) ⟨hx, hb, hml, hown, hts⟩ (c_X7_isWare l a1) (va_cwS 1 hts gX7_count_X7_isWare rfl rfl rfl (by decide +kernel) ⟨Nat.le_of_ble_eq_true rfl, Nat.le_of_ble_eq_true rfl⟩) pu_preS rfl rfl hl.1 rfl (lv_room (Nat.le_of_ble_eq_true rfl)) dX7_count_12 ⟨Nat.le_of_ble_eq_true rfl, Nat.le_of_ble_eq_true rfl⟩) ?_
    refine lv_if_eq (tgt := 38) hx hb dX7_count_15 (by decide) (fun h_2 => ?_) (fun h_2 => ?_)
    · skip
      refine lv_iconst (v := (-1)) hx hb dX7_count_38 (by decide) ?_
      exact W.iret (v := (-1)) hx hb hr (fun t ht hW => ⟨_, rfl, ⟨(-1), rfl, trivial⟩, ht⟩) (fun q h => by cases h) dX7_count_39
    · skip
      refine lv_iload_n hx hb dX7_count_18 rfl (lv_at hl 2 rfl) ?_
      refine lv_iconst (v := 0) hx hb dX7_count_19 (by decide) ?_
      refine lv_iconst (v := 5) hx hb dX7_count_20 (by decide) ?_
      refine pu_call (va_runS (As := [.int a2, .int 0, .int 5]) (rest := []) ⟨hx, hb, hml, hown, hts⟩ (c_X7_isWithin l a2 0 5) (va_cwS 3 hts gX7_count_X7_isWithin rfl rfl rfl (by decide +kernel) ⟨Nat.le_of_ble_eq_true rfl, Nat.le_of_ble_eq_true rfl⟩) pu_preS rfl rfl hl.1 rfl (lv_room (Nat.le_of_ble_eq_true rfl)) dX7_count_21 ⟨Nat.le_of_ble_eq_true rfl, Nat.le_of_ble_eq_true rfl⟩) ?_
      refine lv_if_eq (tgt := 38) hx hb dX7_count_24 (by decide) (fun h_3 => ?_) (fun h_3 => ?_)
      · skip
        refine lv_iconst (v := (-1)) hx hb dX7_count_38 (by decide) ?_
        exact W.iret (v := (-1)) hx hb hr (fun t ht hW => ⟨_, rfl, ⟨(-1), rfl, trivial⟩, ht⟩) (fun q h => by cases h) dX7_count_39
      · skip
        refine lv_aload_n hx hb dX7_count_27 rfl (lv_at hl 0 rfl) ?_
        refine va_get (D := (dC, dI)) (ci := 6) (v := .ref (q 7)) (C := RX7) (T := TX7) (N := 14) hx hb hts hinX7 hown hK hP 0 rfl rfl 6 (by decide) (hts (.fieldLink RX7 41 "FurPosts" "tallies" "[[I") (by decide +kernel)) (fun _ h9 => h9) rfl dX7_count_28 ?_
        refine lv_iload_n hx hb dX7_count_31 rfl (lv_at hl 1 rfl) ?_
        obtain ⟨hm4, i4, r4, hi4, he4, k4_0⟩ := at_14 (xo_ h0 q n dl) hT hQ.2.2.2.2.2.2.1
        refine va_ald2 hx hb hK hP i4 8 he4 rfl (i := a1) (sp_vp h_2 rfl) (b := r4 (Int32.toNatClampNeg a1)) (if_pos (vp_lt (sp_vp h_2 rfl))) dX7_count_32 ?_
        have hr5 := k4_0 (Int32.toNatClampNeg a1) (vp_lt (sp_vp h_2 rfl))
        generalize r4 (Int32.toNatClampNeg a1) = b5 at hr5 ⊢
        refine lv_iload_n hx hb dX7_count_33 rfl (lv_at hl 2 rfl) ?_
        obtain ⟨hm6, i6, g6, hi6, he6⟩ := at_15 (xo_ h0 q n dl) hT hr5
        refine va_iald hx hb hK hP i6 0 he6 rfl (i := a2) (sp_vp h_3 rfl) dX7_count_34 ?_
        refine lv_topi (fun v7 _ => ?_)
        refine lv_goto (tgt := 39) hx hb dX7_count_35 (by decide) ?_
        exact W.iret (v := v7) hx hb hr (fun t ht hW => ⟨_, rfl, ⟨v7, rfl, trivial⟩, ht⟩) (fun q h => by cases h) dX7_count_39
  · skip
    refine lv_aload_n hx hb dX7_count_5 rfl (lv_at hl 0 rfl) ?_
    refine lv_iload_n hx hb dX7_count_6 rfl (lv_at hl 2 rfl) ?_
    refine pg_call (va_runV (As := [.int a2]) (rest := []) ⟨hx, hb, hml, hown, hts⟩ (k_X7_countOfAll l dC dI h0 q n dl cI cy L t f hT hQ hN a2) (cwV 1 hts gX7_count_X7_countOfAll rfl rfl rfl (by decide +kernel) ⟨Nat.le_of_ble_eq_true rfl, Nat.le_of_ble_eq_true rfl⟩) (pt_pre hP hK hW0 (ci := 6) (q0 := 0) rfl rfl) rfl rfl hl.1 rfl (lv_room (Nat.le_of_ble_eq_true rfl)) dX7_count_7 ⟨Nat.le_of_ble_eq_true rfl, Nat.le_of_ble_eq_true rfl⟩) (fun w8 hw8 => ?_)
    obtain ⟨r8, rfl, hg8⟩ := hw8
    exact W.iret (v := r8) hx hb hr (fun t ht hW => ⟨_, rfl, ⟨r8, rfl, trivial⟩, ht⟩) (fun q h => by cases h) dX7_count_10
