theorem up_ok {g : Nat → Option Nat} {P : Nat → Prop} {k v : Nat} (h : ∀ j b, g j = some b → P b) (hv : P v) : ∀ j b, va_up g k (some v) j = some b → P b := fun j b hb => by
  by_cases e : j = k
  · rw [e, va_up_self] at hb; cases hb; exact hv
  · rw [va_up_ne _ _ e] at hb; exact h j b hb
theorem fa_n {a b : Int32} (h : a < b) : ¬ b ≤ a := by rw [sp_lt] at h; rw [sp_le]; omega
set_option maxHeartbeats 4000000 in
set_option maxRecDepth 100000 in
theorem m_X7_store (l : Launch) (dC : Nat → ClassId) (dI : Nat → Nat → Nat) (h0 : Nat) (q n : Nat → Nat) (dl : Int32) (cI : ClassId) (cy : Nat → ClassId) (L : List Nat) (t : Nat → Nat) (f : Nat → va_E) (hT : ty_ cI cy L t f) (hQ : qs_ q t) (hN : nb_ n) (A : Nat → Prop) (hD : va_D A (xo_ h0 q n dl ++ va_pl L f)) (a1 : Int32) (a2 : Int32) (a3 : Int32) : Met l yX7_store wsX7_store ({ frames := 1, cells := 0, slots := 0, locals := 22 }) (va_Pc [.ref h0, .int a1, .int a2, .int a3] (pt_P (dC, dI) vwCl (tt_ cI cy) (xo_ h0 q n dl ++ va_pl L f))) (va_Qi (fun r (u : (Nat → va_E) × (Nat → Nat) × Int32) => True ∧ va_D A (xo_ h0 q u.2.1 u.2.2 ++ va_pl L u.1) ∧ ty_ cI cy L t u.1 ∧ u.2.1 = n) (fun u s' => va_P (dC, dI) vwCl (xo_ h0 q u.2.1 u.2.2 ++ va_pl L u.1) s'.heap) A) 0 0 A := by
  refine Met.ofW (cc := cX7_store) (maxL := 5) (ret := (some .int)) (by decide) rfl ?_
  intro p e s m args below meth c s₁ B hml hv
  obtain ⟨rfl, hP, hK, hW0⟩ := hv
  have hx := B.exec
  have hb := B.bytes
  have hr := B.returns
  have hts := atoms_spec (ws := wsX7_store) B.pre
  have hown : s.vm.findClass RX7 = some m.cls := findClass_of_methodNamed B.named
  have hlocks := B.notSynchronized
  have hinX4 : ∀ w ∈ u_ws RX4 TX4 4, w ∈ wsX7_store := by decide +kernel
  have hinX7 : ∀ w ∈ u_ws RX7 TX7 14, w ∈ wsX7_store := by decide +kernel
  have hS : va_S A s.heap s.heap [] := va_S.rf
  have hl := lv_entry ([.ref h0, .int a1, .int a2, .int a3]) (n := 5) (Nat.le_of_ble_eq_true rfl)
  rw [lg_entry_eq]
  generalize (lg_sl ([.ref h0, .int a1, .int a2, .int a3]) ++ List.replicate (5 - (lg_sl ([.ref h0, .int a1, .int a2, .int a3])).length) Slot.unset).toArray = ls at hl ⊢
  have hl : lv_has ls 5 [(0, .ref h0), (1, .int a1), (2, .int a2), (3, .int a3)] := hl
  obtain ⟨H, hH, hP, hS⟩ : ∃ H, H = s.heap ∧ va_P (dC, dI) vwCl (xo_ h0 q n dl ++ va_pl L f) H ∧ va_S A s.heap H [] := ⟨_, rfl, hP, hS⟩
  rw [← hH]
  generalize ([] : List Loc) = locs at hS ⊢
  refine lv_aload_n hx hb dX7_store_0 rfl (lv_at hl 0 rfl) ?_
  refine lv_iload_n hx hb dX7_store_1 rfl (lv_at hl 1 rfl) ?_
  refine pg_call (va_runV (As := [.int a1]) (rest := []) ⟨hx, hb, hml, hown, hts⟩ (k_X7_postAt l dC dI h0 q n dl cI cy L t f hT hQ hN a1) (cwV 1 hts gX7_store_X7_postAt rfl rfl rfl (by decide +kernel) ⟨Nat.le_of_ble_eq_true rfl, Nat.le_of_ble_eq_true rfl⟩) (pt_pre hP hK hW0 (ci := 6) (q0 := 0) rfl rfl) rfl rfl hl.1 rfl (lv_room (Nat.le_of_ble_eq_true rfl)) dX7_store_2 ⟨Nat.le_of_ble_eq_true rfl, Nat.le_of_ble_eq_true rfl⟩) (fun w1 hw1 => ?_)
  obtain ⟨o1, rfl, hg1⟩ := hw1
  cases o1 with
  | none =>
    refine lv_astoreN (lv' := [(4, .null), (0, .ref h0), (1, .int a1), (2, .int a2), (3, .int a3)]) hx hb dX7_store_5 hl (by decide) rfl (fun ls hl => ?_)
    refine lv_aloadN hx hb dX7_store_7 (lv_at hl 0 rfl) ?_
    refine lv_ifnullN (tgt := 44) hx hb dX7_store_9 (by decide) ?_
    refine lv_iconst (v := (-1)) hx hb dX7_store_44 (by decide) ?_
    exact W.iret (v := (-1)) hx hb hr (fun t ht hW => ⟨⟨(-1), (f, n, dl), rfl, ⟨trivial, hD, hT, rfl⟩, by show va_P (dC, dI) vwCl _ t.heap; rw [ht]; exact hP⟩, hS.F ht⟩) hS.2.2 dX7_store_45
  | some b1 =>
    have hk1 := hg1 b1 rfl
    refine lv_astore (lv' := [(4, .ref b1), (0, .ref h0), (1, .int a1), (2, .int a2), (3, .int a3)]) hx hb dX7_store_5 hl (by decide) rfl (fun ls hl => ?_)
    refine lv_aload hx hb dX7_store_7 (lv_at hl 0 rfl) ?_
    refine lv_ifnull hx hb dX7_store_9 ?_
    refine lv_iload_n hx hb dX7_store_12 rfl (lv_at hl 3 rfl) ?_
    refine pu_call (va_runS (As := [.int a2]) (rest := []) ⟨hx, hb, hml, hown, hts⟩ (c_X7_isWare l a2) (va_cwS 1 hts gX7_store_X7_isWare rfl rfl rfl (by decide +kernel) ⟨Nat.le_of_ble_eq_true rfl, Nat.le_of_ble_eq_true rfl⟩) pu_preS rfl rfl hl.1 rfl (lv_room (Nat.le_of_ble_eq_true rfl)) dX7_store_13 ⟨Nat.le_of_ble_eq_true rfl, Nat.le_of_ble_eq_true rfl⟩) ?_
    refine lv_if_eq (tgt := 44) hx hb dX7_store_16 (by decide) (fun h_2 => ?_) (fun h_2 => ?_)
    · skip
      refine lv_iconst (v := (-1)) hx hb dX7_store_44 (by decide) ?_
      exact W.iret (v := (-1)) hx hb hr (fun t ht hW => ⟨⟨(-1), (f, n, dl), rfl, ⟨trivial, hD, hT, rfl⟩, by show va_P (dC, dI) vwCl _ t.heap; rw [ht]; exact hP⟩, hS.F ht⟩) hS.2.2 dX7_store_45
    · skip
      refine lv_iload_n hx hb dX7_store_19 rfl (lv_at hl 4 rfl) ?_
      refine lv_iconst (v := 1) hx hb dX7_store_20 (by decide) ?_
      refine lv_sipush (v := 10000) hx hb dX7_store_21 (by decide) ?_
      refine pu_call (va_runS (As := [.int a3, .int 1, .int 10000]) (rest := []) ⟨hx, hb, hml, hown, hts⟩ (c_X7_isWithin l a3 1 10000) (va_cwS 3 hts gX7_store_X7_isWithin rfl rfl rfl (by decide +kernel) ⟨Nat.le_of_ble_eq_true rfl, Nat.le_of_ble_eq_true rfl⟩) pu_preS rfl rfl hl.1 rfl (lv_room (Nat.le_of_ble_eq_true rfl)) dX7_store_24 ⟨Nat.le_of_ble_eq_true rfl, Nat.le_of_ble_eq_true rfl⟩) ?_
      refine lv_if_eq (tgt := 44) hx hb dX7_store_27 (by decide) (fun h_3 => ?_) (fun h_3 => ?_)
      · skip
        refine lv_iconst (v := (-1)) hx hb dX7_store_44 (by decide) ?_
        exact W.iret (v := (-1)) hx hb hr (fun t ht hW => ⟨⟨(-1), (f, n, dl), rfl, ⟨trivial, hD, hT, rfl⟩, by show va_P (dC, dI) vwCl _ t.heap; rw [ht]; exact hP⟩, hS.F ht⟩) hS.2.2 dX7_store_45
      · skip
        refine lv_aload hx hb dX7_store_30 (lv_at hl 0 rfl) ?_
        obtain ⟨hm4, i4, s4, p4, o4, r4, hi4, he4, k4_0, k4_1, k4_2, k4_3⟩ := at_1 (xo_ h0 q n dl) hT hk1.1
        refine va_get (D := (dC, dI)) (ci := 3) (v := .ref s4) (C := RX4) (T := TX4) (N := 4) hx hb hts hinX4 hown hK hP i4 he4 rfl 0 (by decide) (hts (.fieldLink RX7 92 "FurPosts$Post" "stock" "[I") (by decide +kernel)) (fun _ h9 => h9) rfl dX7_store_32 ?_
        refine lv_iload_n hx hb dX7_store_35 rfl (lv_at hl 3 rfl) ?_
        obtain ⟨hm5, i5, g5, hi5, he5⟩ := at_15 (xo_ h0 q n dl) hT k4_0
        refine va_iald hx hb hK hP i5 0 he5 rfl (i := a2) (sp_vp h_2 rfl) dX7_store_36 ?_
        refine lv_topi (fun v6 _ => ?_)
        refine lv_iload_n hx hb dX7_store_37 rfl (lv_at hl 4 rfl) ?_
        refine lv_iadd hx hb dX7_store_38 ?_
        refine lv_topi (fun v7 _ => ?_)
        refine lv_ldc (v := 100000) hx hb hown (hts (.constant RX7 95 (100000)) (by decide +kernel)) dX7_store_39 ?_
        refine lv_icmp_le (tgt := 46) hx hb dX7_store_41 (by decide) (fun h_8 => ?_) (fun h_8 => ?_)
        · skip
          refine lv_aload hx hb dX7_store_46 (lv_at hl 0 rfl) ?_
          refine va_get (D := (dC, dI)) (ci := 3) (v := .ref s4) (C := RX4) (T := TX4) (N := 4) hx hb hts hinX4 hown hK hP i4 he4 rfl 0 (by decide) (hts (.fieldLink RX7 92 "FurPosts$Post" "stock" "[I") (by decide +kernel)) (fun _ h9 => h9) rfl dX7_store_48 ?_
          refine lv_iload_n hx hb dX7_store_51 rfl (lv_at hl 3 rfl) ?_
          refine lv_dup2_11 hx hb dX7_store_52 rfl rfl ?_
          refine va_iald hx hb hK hP i5 0 he5 rfl (i := a2) (sp_vp h_2 rfl) dX7_store_53 ?_
          refine lv_topi (fun v9 _ => ?_)
          refine lv_iload_n hx hb dX7_store_54 rfl (lv_at hl 4 rfl) ?_
          refine lv_iadd hx hb dX7_store_55 ?_
          refine lv_topi (fun v10 _ => ?_)
          refine va_iast hx hb hK hP hD hS i5 0 he5 rfl (i := a2) (sp_vp h_2 rfl) dX7_store_56 (fun H locs hP2 hD2 hS => ?_)
          rw [va_pl_set hD hm5 hi5] at hP2 hD2
          obtain ⟨f, hP, hD, hT⟩ : ∃ f, va_P (dC, dI) vwCl (xo_ h0 q n dl ++ va_pl L f) H ∧ va_D A (xo_ h0 q n dl ++ va_pl L f) ∧ ty_ cI cy L t f := ⟨_, hP2, hD2, ty_set hT k4_0 ⟨_, rfl⟩⟩
          refine lv_aload_n hx hb dX7_store_57 rfl (lv_at hl 1 rfl) ?_
          refine va_get (D := (dC, dI)) (ci := 6) (v := .ref (q 7)) (C := RX7) (T := TX7) (N := 14) hx hb hts hinX7 hown hK hP 0 rfl rfl 6 (by decide) (hts (.fieldLink RX7 41 "FurPosts" "tallies" "[[I") (by decide +kernel)) (fun _ h9 => h9) rfl dX7_store_58 ?_
          refine lv_iload_n hx hb dX7_store_61 rfl (lv_at hl 3 rfl) ?_
          obtain ⟨hm11, i11, r11, hi11, he11, k11_0⟩ := at_14 (xo_ h0 q n dl) hT hQ.2.2.2.2.2.2.1
          refine va_ald2 hx hb hK hP i11 8 he11 rfl (i := a2) (sp_vp h_2 rfl) (b := r11 (Int32.toNatClampNeg a2)) (if_pos (vp_lt (sp_vp h_2 rfl))) dX7_store_62 ?_
          have hr12 := k11_0 (Int32.toNatClampNeg a2) (vp_lt (sp_vp h_2 rfl))
          generalize r11 (Int32.toNatClampNeg a2) = b12 at hr12 ⊢
          refine lv_iconst (v := 0) hx hb dX7_store_63 (by decide) ?_
          refine lv_dup2_11 hx hb dX7_store_64 rfl rfl ?_
          obtain ⟨hm13, i13, g13, hi13, he13⟩ := at_15 (xo_ h0 q n dl) hT hr12
          refine va_iald hx hb hK hP i13 0 he13 rfl (i := 0) (by unfold vp_in; decide) dX7_store_65 ?_
          refine lv_topi (fun v14 _ => ?_)
          refine lv_iload_n hx hb dX7_store_66 rfl (lv_at hl 4 rfl) ?_
          refine lv_iadd hx hb dX7_store_67 ?_
          refine lv_topi (fun v15 _ => ?_)
          refine va_iast hx hb hK hP hD hS i13 0 he13 rfl (i := 0) (by unfold vp_in; decide) dX7_store_68 (fun H locs hP2 hD2 hS => ?_)
          rw [va_pl_set hD hm13 hi13] at hP2 hD2
          obtain ⟨f, hP, hD, hT⟩ : ∃ f, va_P (dC, dI) vwCl (xo_ h0 q n dl ++ va_pl L f) H ∧ va_D A (xo_ h0 q n dl ++ va_pl L f) ∧ ty_ cI cy L t f := ⟨_, hP2, hD2, ty_set hT hr12 ⟨_, rfl⟩⟩
          refine lv_aload hx hb dX7_store_69 (lv_at hl 0 rfl) ?_
          obtain ⟨hm16, i16, s16, p16, o16, r16, hi16, he16, k16_0, k16_1, k16_2, k16_3⟩ := at_1 (xo_ h0 q n dl) hT hk1.1
          refine va_get (D := (dC, dI)) (ci := 3) (v := .ref s16) (C := RX4) (T := TX4) (N := 4) hx hb hts hinX4 hown hK hP i16 he16 rfl 0 (by decide) (hts (.fieldLink RX7 92 "FurPosts$Post" "stock" "[I") (by decide +kernel)) (fun _ h9 => h9) rfl dX7_store_71 ?_
          refine lv_iload_n hx hb dX7_store_74 rfl (lv_at hl 3 rfl) ?_
          obtain ⟨hm17, i17, g17, hi17, he17⟩ := at_15 (xo_ h0 q n dl) hT k16_0
          refine va_iald hx hb hK hP i17 0 he17 rfl (i := a2) (sp_vp h_2 rfl) dX7_store_75 ?_
          refine lv_topi (fun v18 _ => ?_)
          exact W.iret (v := v18) hx hb hr (fun t ht hW => ⟨⟨v18, (f, n, dl), rfl, ⟨trivial, hD, hT, rfl⟩, by show va_P (dC, dI) vwCl _ t.heap; rw [ht]; exact hP⟩, hS.F ht⟩) hS.2.2 dX7_store_76
        · skip
          refine lv_iconst (v := (-1)) hx hb dX7_store_44 (by decide) ?_
          exact W.iret (v := (-1)) hx hb hr (fun t ht hW => ⟨⟨(-1), (f, n, dl), rfl, ⟨trivial, hD, hT, rfl⟩, by show va_P (dC, dI) vwCl _ t.heap; rw [ht]; exact hP⟩, hS.F ht⟩) hS.2.2 dX7_store_45

set_option maxHeartbeats 4000000 in
set_option maxRecDepth 100000 in
theorem m_X7_sell (l : Launch) (dC : Nat → ClassId) (dI : Nat → Nat → Nat) (h0 : Nat) (q n : Nat → Nat) (dl : Int32) (cI : ClassId) (cy : Nat → ClassId) (L : List Nat) (t : Nat → Nat) (f : Nat → va_E) (hT : ty_ cI cy L t f) (hQ : qs_ q t) (hN : nb_ n) (A : Nat → Prop) (hD : va_D A (xo_ h0 q n dl ++ va_pl L f)) (a1 : Int32) (a2 : Int32) (a3 : Int32) (a4 : Int32) : Met l yX7_sell wsX7_sell ({ frames := 2, cells := 0, slots := 0, locals := 44 }) (va_Pc [.ref h0, .int a1, .int a2, .int a3, .int a4] (pt_P (dC, dI) vwCl (tt_ cI cy) (xo_ h0 q n dl ++ va_pl L f))) (va_Qi (fun r (u : (Nat → va_E) × (Nat → Nat) × Int32) => True ∧ va_D A (xo_ h0 q u.2.1 u.2.2 ++ va_pl L u.1) ∧ ty_ cI cy L t u.1 ∧ u.2.1 = n) (fun u s' => va_P (dC, dI) vwCl (xo_ h0 q u.2.1 u.2.2 ++ va_pl L u.1) s'.heap) A) 0 0 A := by
  refine Met.ofW (cc := cX7_sell) (maxL := 7) (ret := (some .int)) (by decide) rfl ?_
  intro p e s m args below meth c s₁ B hml hv
  obtain ⟨rfl, hP, hK, hW0⟩ := hv
  have hx := B.exec
  have hb := B.bytes
  have hr := B.returns
  have hts := atoms_spec (ws := wsX7_sell) B.pre
  have hown : s.vm.findClass RX7 = some m.cls := findClass_of_methodNamed B.named
  have hlocks := B.notSynchronized
  have hinX4 : ∀ w ∈ u_ws RX4 TX4 4, w ∈ wsX7_sell := by decide +kernel
  have hinX7 : ∀ w ∈ u_ws RX7 TX7 14, w ∈ wsX7_sell := by decide +kernel
  have hS : va_S A s.heap s.heap [] := va_S.rf
  have hl := lv_entry ([.ref h0, .int a1, .int a2, .int a3, .int a4]) (n := 7) (Nat.le_of_ble_eq_true rfl)
  rw [lg_entry_eq]
  generalize (lg_sl ([.ref h0, .int a1, .int a2, .int a3, .int a4]) ++ List.replicate (7 - (lg_sl ([.ref h0, .int a1, .int a2, .int a3, .int a4])).length) Slot.unset).toArray = ls at hl ⊢
  have hl : lv_has ls 7 [(0, .ref h0), (1, .int a1), (2, .int a2), (3, .int a3), (4, .int a4)] := hl
  obtain ⟨H, hH, hP, hS⟩ : ∃ H, H = s.heap ∧ va_P (dC, dI) vwCl (xo_ h0 q n dl ++ va_pl L f) H ∧ va_S A s.heap H [] := ⟨_, rfl, hP, hS⟩
  rw [← hH]
  generalize ([] : List Loc) = locs at hS ⊢
  refine lv_aload_n hx hb dX7_sell_0 rfl (lv_at hl 0 rfl) ?_
  refine lv_iload_n hx hb dX7_sell_1 rfl (lv_at hl 1 rfl) ?_
  refine pg_call (va_runV (As := [.int a1]) (rest := []) ⟨hx, hb, hml, hown, hts⟩ (k_X7_postAt l dC dI h0 q n dl cI cy L t f hT hQ hN a1) (cwV 1 hts gX7_sell_X7_postAt rfl rfl rfl (by decide +kernel) ⟨Nat.le_of_ble_eq_true rfl, Nat.le_of_ble_eq_true rfl⟩) (pt_pre hP hK hW0 (ci := 6) (q0 := 0) rfl rfl) rfl rfl hl.1 rfl (lv_room (Nat.le_of_ble_eq_true rfl)) dX7_sell_2 ⟨Nat.le_of_ble_eq_true rfl, Nat.le_of_ble_eq_true rfl⟩) (fun w1 hw1 => ?_)
  obtain ⟨o1, rfl, hg1⟩ := hw1
  cases o1 with
  | none =>
    refine lv_astoreN (lv' := [(5, .null), (0, .ref h0), (1, .int a1), (2, .int a2), (3, .int a3), (4, .int a4)]) hx hb dX7_sell_5 hl (by decide) rfl (fun ls hl => ?_)
    refine lv_aloadN hx hb dX7_sell_7 (lv_at hl 0 rfl) ?_
    refine lv_ifnullN (tgt := 34) hx hb dX7_sell_9 (by decide) ?_
    refine lv_iconst (v := (-1)) hx hb dX7_sell_34 (by decide) ?_
    exact W.iret (v := (-1)) hx hb hr (fun t ht hW => ⟨⟨(-1), (f, n, dl), rfl, ⟨trivial, hD, hT, rfl⟩, by show va_P (dC, dI) vwCl _ t.heap; rw [ht]; exact hP⟩, hS.F ht⟩) hS.2.2 dX7_sell_35
  | some b1 =>
    have hk1 := hg1 b1 rfl
    refine lv_astore (lv' := [(5, .ref b1), (0, .ref h0), (1, .int a1), (2, .int a2), (3, .int a3), (4, .int a4)]) hx hb dX7_sell_5 hl (by decide) rfl (fun ls hl => ?_)
    refine lv_aload hx hb dX7_sell_7 (lv_at hl 0 rfl) ?_
    refine lv_ifnull hx hb dX7_sell_9 ?_
    refine lv_iload_n hx hb dX7_sell_12 rfl (lv_at hl 3 rfl) ?_
    refine lv_iload_n hx hb dX7_sell_13 rfl (lv_at hl 4 rfl) ?_
    refine lv_iload hx hb dX7_sell_14 (lv_at hl 5 rfl) ?_
    refine pg_call (va_runS (As := [.int a2, .int a3, .int a4]) (rest := []) ⟨hx, hb, hml, hown, hts⟩ (k_X7_isTrade l a2 a3 a4) (va_cwS 3 hts gX7_sell_X7_isTrade rfl rfl rfl (by decide +kernel) ⟨Nat.le_of_ble_eq_true rfl, Nat.le_of_ble_eq_true rfl⟩) pu_preS rfl rfl hl.1 rfl (lv_room (Nat.le_of_ble_eq_true rfl)) dX7_sell_16 ⟨Nat.le_of_ble_eq_true rfl, Nat.le_of_ble_eq_true rfl⟩) (fun w2 hw2 => ?_)
    obtain ⟨r2, rfl, hg2⟩ := hw2
    refine lv_if_eq (tgt := 34) hx hb dX7_sell_19 (by decide) (fun h_3 => ?_) (fun h_3 => ?_)
    · skip
      refine lv_iconst (v := (-1)) hx hb dX7_sell_34 (by decide) ?_
      exact W.iret (v := (-1)) hx hb hr (fun t ht hW => ⟨⟨(-1), (f, n, dl), rfl, ⟨trivial, hD, hT, rfl⟩, by show va_P (dC, dI) vwCl _ t.heap; rw [ht]; exact hP⟩, hS.F ht⟩) hS.2.2 dX7_sell_35
    · skip
      refine lv_aload hx hb dX7_sell_22 (lv_at hl 0 rfl) ?_
      obtain ⟨hm4, i4, s4, p4, o4, r4, hi4, he4, k4_0, k4_1, k4_2, k4_3⟩ := at_1 (xo_ h0 q n dl) hT hk1.1
      refine va_get (D := (dC, dI)) (ci := 3) (v := .ref s4) (C := RX4) (T := TX4) (N := 4) hx hb hts hinX4 hown hK hP i4 he4 rfl 0 (by decide) (hts (.fieldLink RX7 92 "FurPosts$Post" "stock" "[I") (by decide +kernel)) (fun _ h9 => h9) rfl dX7_sell_24 ?_
      refine lv_iload_n hx hb dX7_sell_27 rfl (lv_at hl 4 rfl) ?_
      obtain ⟨hm5, i5, g5, hi5, he5⟩ := at_15 (xo_ h0 q n dl) hT k4_0
      refine va_iald hx hb hK hP i5 0 he5 rfl (i := a3) ((hg2 h_3).2) dX7_sell_28 ?_
      refine lv_topi (fun v6 _ => ?_)
      refine lv_iload hx hb dX7_sell_29 (lv_at hl 5 rfl) ?_
      refine lv_icmp_ge (tgt := 36) hx hb dX7_sell_31 (by decide) (fun h_7 => ?_) (fun h_7 => ?_)
      · skip
        refine lv_aload hx hb dX7_sell_36 (lv_at hl 0 rfl) ?_
        refine va_get (D := (dC, dI)) (ci := 3) (v := .ref o4) (C := RX4) (T := TX4) (N := 4) hx hb hts hinX4 hown hK hP i4 he4 rfl 2 (by decide) (hts (.fieldLink RX7 214 "FurPosts$Post" "owed" "[I") (by decide +kernel)) (fun _ h9 => h9) rfl dX7_sell_38 ?_
        refine lv_iload_n hx hb dX7_sell_41 rfl (lv_at hl 3 rfl) ?_
        obtain ⟨hm8, i8, g8, hi8, he8⟩ := at_17 (xo_ h0 q n dl) hT k4_2
        refine va_iald hx hb hK hP i8 0 he8 rfl (i := a2) ((hg2 h_3).1) dX7_sell_42 ?_
        refine lv_topi (fun v9 _ => ?_)
        refine lv_aload hx hb dX7_sell_43 (lv_at hl 0 rfl) ?_
        refine va_get (D := (dC, dI)) (ci := 3) (v := .ref p4) (C := RX4) (T := TX4) (N := 4) hx hb hts hinX4 hown hK hP i4 he4 rfl 1 (by decide) (hts (.fieldLink RX7 217 "FurPosts$Post" "prices" "[I") (by decide +kernel)) (fun _ h9 => h9) rfl dX7_sell_45 ?_
        refine lv_iload_n hx hb dX7_sell_48 rfl (lv_at hl 4 rfl) ?_
        obtain ⟨hm10, i10, g10, hi10, he10⟩ := at_15 (xo_ h0 q n dl) hT k4_1
        refine va_iald hx hb hK hP i10 0 he10 rfl (i := a3) ((hg2 h_3).2) dX7_sell_49 ?_
        refine lv_topi (fun v11 _ => ?_)
        refine lv_iload hx hb dX7_sell_50 (lv_at hl 5 rfl) ?_
        refine lv_imul hx hb dX7_sell_52 ?_
        refine lv_topi (fun v12 _ => ?_)
        refine lv_iadd hx hb dX7_sell_53 ?_
        refine lv_topi (fun v13 _ => ?_)
        refine lv_istore (lv' := [(6, .int v13), (5, .ref b1), (0, .ref h0), (1, .int a1), (2, .int a2), (3, .int a3), (4, .int a4)]) hx hb dX7_sell_54 hl (by decide) rfl (fun ls hl => ?_)
        refine lv_iload hx hb dX7_sell_56 (lv_at hl 0 rfl) ?_
        refine lv_ldc (v := 100000) hx hb hown (hts (.constant RX7 95 (100000)) (by decide +kernel)) dX7_sell_58 ?_
        refine lv_icmp_le (tgt := 65) hx hb dX7_sell_60 (by decide) (fun h_14 => ?_) (fun h_14 => ?_)
        · skip
          refine lv_aload hx hb dX7_sell_65 (lv_at hl 1 rfl) ?_
          refine va_get (D := (dC, dI)) (ci := 3) (v := .ref s4) (C := RX4) (T := TX4) (N := 4) hx hb hts hinX4 hown hK hP i4 he4 rfl 0 (by decide) (hts (.fieldLink RX7 92 "FurPosts$Post" "stock" "[I") (by decide +kernel)) (fun _ h9 => h9) rfl dX7_sell_67 ?_
          refine lv_iload_n hx hb dX7_sell_70 rfl (lv_at hl 5 rfl) ?_
          refine lv_dup2_11 hx hb dX7_sell_71 rfl rfl ?_
          refine va_iald hx hb hK hP i5 0 he5 rfl (i := a3) ((hg2 h_3).2) dX7_sell_72 ?_
          refine lv_topi (fun v15 _ => ?_)
          refine lv_iload hx hb dX7_sell_73 (lv_at hl 6 rfl) ?_
          refine lv_isub hx hb dX7_sell_75 ?_
          refine lv_topi (fun v16 _ => ?_)
          refine va_iast hx hb hK hP hD hS i5 0 he5 rfl (i := a3) ((hg2 h_3).2) dX7_sell_76 (fun H locs hP2 hD2 hS => ?_)
          rw [va_pl_set hD hm5 hi5] at hP2 hD2
          obtain ⟨f, hP, hD, hT⟩ : ∃ f, va_P (dC, dI) vwCl (xo_ h0 q n dl ++ va_pl L f) H ∧ va_D A (xo_ h0 q n dl ++ va_pl L f) ∧ ty_ cI cy L t f := ⟨_, hP2, hD2, ty_set hT k4_0 ⟨_, rfl⟩⟩
          refine lv_aload hx hb dX7_sell_77 (lv_at hl 1 rfl) ?_
          obtain ⟨hm17, i17, s17, p17, o17, r17, hi17, he17, k17_0, k17_1, k17_2, k17_3⟩ := at_1 (xo_ h0 q n dl) hT hk1.1
          refine va_get (D := (dC, dI)) (ci := 3) (v := .ref o17) (C := RX4) (T := TX4) (N := 4) hx hb hts hinX4 hown hK hP i17 he17 rfl 2 (by decide) (hts (.fieldLink RX7 214 "FurPosts$Post" "owed" "[I") (by decide +kernel)) (fun _ h9 => h9) rfl dX7_sell_79 ?_
          refine lv_iload_n hx hb dX7_sell_82 rfl (lv_at hl 4 rfl) ?_
          refine lv_iload hx hb dX7_sell_83 (lv_at hl 0 rfl) ?_
          obtain ⟨hm18, i18, g18, hi18, he18⟩ := at_17 (xo_ h0 q n dl) hT k17_2
          refine va_iast hx hb hK hP hD hS i18 0 he18 rfl (i := a2) ((hg2 h_3).1) dX7_sell_85 (fun H locs hP2 hD2 hS => ?_)
          rw [va_pl_set hD hm18 hi18] at hP2 hD2
          obtain ⟨f, hP, hD, hT⟩ : ∃ f, va_P (dC, dI) vwCl (xo_ h0 q n dl ++ va_pl L f) H ∧ va_D A (xo_ h0 q n dl ++ va_pl L f) ∧ ty_ cI cy L t f := ⟨_, hP2, hD2, ty_set hT k17_2 ⟨_, rfl⟩⟩
          refine lv_aload_n hx hb dX7_sell_86 rfl (lv_at hl 2 rfl) ?_
          refine va_get (D := (dC, dI)) (ci := 6) (v := .ref (q 7)) (C := RX7) (T := TX7) (N := 14) hx hb hts hinX7 hown hK hP 0 rfl rfl 6 (by decide) (hts (.fieldLink RX7 41 "FurPosts" "tallies" "[[I") (by decide +kernel)) (fun _ h9 => h9) rfl dX7_sell_87 ?_
          refine lv_iload_n hx hb dX7_sell_90 rfl (lv_at hl 5 rfl) ?_
          obtain ⟨hm19, i19, r19, hi19, he19, k19_0⟩ := at_14 (xo_ h0 q n dl) hT hQ.2.2.2.2.2.2.1
          refine va_ald2 hx hb hK hP i19 8 he19 rfl (i := a3) ((hg2 h_3).2) (b := r19 (Int32.toNatClampNeg a3)) (if_pos (vp_lt ((hg2 h_3).2))) dX7_sell_91 ?_
          have hr20 := k19_0 (Int32.toNatClampNeg a3) (vp_lt ((hg2 h_3).2))
          generalize r19 (Int32.toNatClampNeg a3) = b20 at hr20 ⊢
          refine lv_iconst (v := 1) hx hb dX7_sell_92 (by decide) ?_
          refine lv_dup2_11 hx hb dX7_sell_93 rfl rfl ?_
          obtain ⟨hm21, i21, g21, hi21, he21⟩ := at_15 (xo_ h0 q n dl) hT hr20
          refine va_iald hx hb hK hP i21 0 he21 rfl (i := 1) (by unfold vp_in; decide) dX7_sell_94 ?_
          refine lv_topi (fun v22 _ => ?_)
          refine lv_iload hx hb dX7_sell_95 (lv_at hl 6 rfl) ?_
          refine lv_iadd hx hb dX7_sell_97 ?_
          refine lv_topi (fun v23 _ => ?_)
          refine va_iast hx hb hK hP hD hS i21 0 he21 rfl (i := 1) (by unfold vp_in; decide) dX7_sell_98 (fun H locs hP2 hD2 hS => ?_)
          rw [va_pl_set hD hm21 hi21] at hP2 hD2
          obtain ⟨f, hP, hD, hT⟩ : ∃ f, va_P (dC, dI) vwCl (xo_ h0 q n dl ++ va_pl L f) H ∧ va_D A (xo_ h0 q n dl ++ va_pl L f) ∧ ty_ cI cy L t f := ⟨_, hP2, hD2, ty_set hT hr20 ⟨_, rfl⟩⟩
          refine lv_iload hx hb dX7_sell_99 (lv_at hl 0 rfl) ?_
          exact W.iret (v := v13) hx hb hr (fun t ht hW => ⟨⟨v13, (f, n, dl), rfl, ⟨trivial, hD, hT, rfl⟩, by show va_P (dC, dI) vwCl _ t.heap; rw [ht]; exact hP⟩, hS.F ht⟩) hS.2.2 dX7_sell_101
        · skip
          refine lv_iconst (v := (-1)) hx hb dX7_sell_63 (by decide) ?_
          exact W.iret (v := (-1)) hx hb hr (fun t ht hW => ⟨⟨(-1), (f, n, dl), rfl, ⟨trivial, hD, hT, rfl⟩, by show va_P (dC, dI) vwCl _ t.heap; rw [ht]; exact hP⟩, hS.F ht⟩) hS.2.2 dX7_sell_64
      · skip
        refine lv_iconst (v := (-1)) hx hb dX7_sell_34 (by decide) ?_
        exact W.iret (v := (-1)) hx hb hr (fun t ht hW => ⟨⟨(-1), (f, n, dl), rfl, ⟨trivial, hD, hT, rfl⟩, by show va_P (dC, dI) vwCl _ t.heap; rw [ht]; exact hP⟩, hS.F ht⟩) hS.2.2 dX7_sell_35

set_option maxHeartbeats 4000000 in
set_option maxRecDepth 100000 in
theorem m_X7_buy (l : Launch) (dC : Nat → ClassId) (dI : Nat → Nat → Nat) (h0 : Nat) (q n : Nat → Nat) (dl : Int32) (cI : ClassId) (cy : Nat → ClassId) (L : List Nat) (t : Nat → Nat) (f : Nat → va_E) (hT : ty_ cI cy L t f) (hQ : qs_ q t) (hN : nb_ n) (A : Nat → Prop) (hD : va_D A (xo_ h0 q n dl ++ va_pl L f)) (a1 : Int32) (a2 : Int32) (a3 : Int32) (a4 : Int32) : Met l yX7_buy wsX7_buy ({ frames := 2, cells := 0, slots := 0, locals := 44 }) (va_Pc [.ref h0, .int a1, .int a2, .int a3, .int a4] (pt_P (dC, dI) vwCl (tt_ cI cy) (xo_ h0 q n dl ++ va_pl L f))) (va_Qi (fun r (u : (Nat → va_E) × (Nat → Nat) × Int32) => True ∧ va_D A (xo_ h0 q u.2.1 u.2.2 ++ va_pl L u.1) ∧ ty_ cI cy L t u.1 ∧ u.2.1 = n) (fun u s' => va_P (dC, dI) vwCl (xo_ h0 q u.2.1 u.2.2 ++ va_pl L u.1) s'.heap) A) 0 0 A := by
  refine Met.ofW (cc := cX7_buy) (maxL := 7) (ret := (some .int)) (by decide) rfl ?_
  intro p e s m args below meth c s₁ B hml hv
  obtain ⟨rfl, hP, hK, hW0⟩ := hv
  have hx := B.exec
  have hb := B.bytes
  have hr := B.returns
  have hts := atoms_spec (ws := wsX7_buy) B.pre
  have hown : s.vm.findClass RX7 = some m.cls := findClass_of_methodNamed B.named
  have hlocks := B.notSynchronized
  have hinX4 : ∀ w ∈ u_ws RX4 TX4 4, w ∈ wsX7_buy := by decide +kernel
  have hinX7 : ∀ w ∈ u_ws RX7 TX7 14, w ∈ wsX7_buy := by decide +kernel
  have hS : va_S A s.heap s.heap [] := va_S.rf
  have hl := lv_entry ([.ref h0, .int a1, .int a2, .int a3, .int a4]) (n := 7) (Nat.le_of_ble_eq_true rfl)
  rw [lg_entry_eq]
  generalize (lg_sl ([.ref h0, .int a1, .int a2, .int a3, .int a4]) ++ List.replicate (7 - (lg_sl ([.ref h0, .int a1, .int a2, .int a3, .int a4])).length) Slot.unset).toArray = ls at hl ⊢
  have hl : lv_has ls 7 [(0, .ref h0), (1, .int a1), (2, .int a2), (3, .int a3), (4, .int a4)] := hl
  obtain ⟨H, hH, hP, hS⟩ : ∃ H, H = s.heap ∧ va_P (dC, dI) vwCl (xo_ h0 q n dl ++ va_pl L f) H ∧ va_S A s.heap H [] := ⟨_, rfl, hP, hS⟩
  rw [← hH]
  generalize ([] : List Loc) = locs at hS ⊢
  refine lv_aload_n hx hb dX7_buy_0 rfl (lv_at hl 0 rfl) ?_
  refine lv_iload_n hx hb dX7_buy_1 rfl (lv_at hl 1 rfl) ?_
  refine pg_call (va_runV (As := [.int a1]) (rest := []) ⟨hx, hb, hml, hown, hts⟩ (k_X7_postAt l dC dI h0 q n dl cI cy L t f hT hQ hN a1) (cwV 1 hts gX7_buy_X7_postAt rfl rfl rfl (by decide +kernel) ⟨Nat.le_of_ble_eq_true rfl, Nat.le_of_ble_eq_true rfl⟩) (pt_pre hP hK hW0 (ci := 6) (q0 := 0) rfl rfl) rfl rfl hl.1 rfl (lv_room (Nat.le_of_ble_eq_true rfl)) dX7_buy_2 ⟨Nat.le_of_ble_eq_true rfl, Nat.le_of_ble_eq_true rfl⟩) (fun w1 hw1 => ?_)
  obtain ⟨o1, rfl, hg1⟩ := hw1
  cases o1 with
  | none =>
    refine lv_astoreN (lv' := [(5, .null), (0, .ref h0), (1, .int a1), (2, .int a2), (3, .int a3), (4, .int a4)]) hx hb dX7_buy_5 hl (by decide) rfl (fun ls hl => ?_)
    refine lv_aloadN hx hb dX7_buy_7 (lv_at hl 0 rfl) ?_
    refine lv_ifnullN (tgt := 37) hx hb dX7_buy_9 (by decide) ?_
    refine lv_iconst (v := (-1)) hx hb dX7_buy_37 (by decide) ?_
    exact W.iret (v := (-1)) hx hb hr (fun t ht hW => ⟨⟨(-1), (f, n, dl), rfl, ⟨trivial, hD, hT, rfl⟩, by show va_P (dC, dI) vwCl _ t.heap; rw [ht]; exact hP⟩, hS.F ht⟩) hS.2.2 dX7_buy_38
  | some b1 =>
    have hk1 := hg1 b1 rfl
    refine lv_astore (lv' := [(5, .ref b1), (0, .ref h0), (1, .int a1), (2, .int a2), (3, .int a3), (4, .int a4)]) hx hb dX7_buy_5 hl (by decide) rfl (fun ls hl => ?_)
    refine lv_aload hx hb dX7_buy_7 (lv_at hl 0 rfl) ?_
    refine lv_ifnull hx hb dX7_buy_9 ?_
    refine lv_iload_n hx hb dX7_buy_12 rfl (lv_at hl 3 rfl) ?_
    refine lv_iload_n hx hb dX7_buy_13 rfl (lv_at hl 4 rfl) ?_
    refine lv_iload hx hb dX7_buy_14 (lv_at hl 5 rfl) ?_
    refine pg_call (va_runS (As := [.int a2, .int a3, .int a4]) (rest := []) ⟨hx, hb, hml, hown, hts⟩ (k_X7_isTrade l a2 a3 a4) (va_cwS 3 hts gX7_buy_X7_isTrade rfl rfl rfl (by decide +kernel) ⟨Nat.le_of_ble_eq_true rfl, Nat.le_of_ble_eq_true rfl⟩) pu_preS rfl rfl hl.1 rfl (lv_room (Nat.le_of_ble_eq_true rfl)) dX7_buy_16 ⟨Nat.le_of_ble_eq_true rfl, Nat.le_of_ble_eq_true rfl⟩) (fun w2 hw2 => ?_)
    obtain ⟨r2, rfl, hg2⟩ := hw2
    refine lv_if_eq (tgt := 37) hx hb dX7_buy_19 (by decide) (fun h_3 => ?_) (fun h_3 => ?_)
    · skip
      refine lv_iconst (v := (-1)) hx hb dX7_buy_37 (by decide) ?_
      exact W.iret (v := (-1)) hx hb hr (fun t ht hW => ⟨⟨(-1), (f, n, dl), rfl, ⟨trivial, hD, hT, rfl⟩, by show va_P (dC, dI) vwCl _ t.heap; rw [ht]; exact hP⟩, hS.F ht⟩) hS.2.2 dX7_buy_38
    · skip
      refine lv_aload hx hb dX7_buy_22 (lv_at hl 0 rfl) ?_
      obtain ⟨hm4, i4, s4, p4, o4, r4, hi4, he4, k4_0, k4_1, k4_2, k4_3⟩ := at_1 (xo_ h0 q n dl) hT hk1.1
      refine va_get (D := (dC, dI)) (ci := 3) (v := .ref s4) (C := RX4) (T := TX4) (N := 4) hx hb hts hinX4 hown hK hP i4 he4 rfl 0 (by decide) (hts (.fieldLink RX7 92 "FurPosts$Post" "stock" "[I") (by decide +kernel)) (fun _ h9 => h9) rfl dX7_buy_24 ?_
      refine lv_iload_n hx hb dX7_buy_27 rfl (lv_at hl 4 rfl) ?_
      obtain ⟨hm5, i5, g5, hi5, he5⟩ := at_15 (xo_ h0 q n dl) hT k4_0
      refine va_iald hx hb hK hP i5 0 he5 rfl (i := a3) ((hg2 h_3).2) dX7_buy_28 ?_
      refine lv_topi (fun v6 _ => ?_)
      refine lv_iload hx hb dX7_buy_29 (lv_at hl 5 rfl) ?_
      refine lv_iadd hx hb dX7_buy_31 ?_
      refine lv_topi (fun v7 _ => ?_)
      refine lv_ldc (v := 100000) hx hb hown (hts (.constant RX7 95 (100000)) (by decide +kernel)) dX7_buy_32 ?_
      refine lv_icmp_le (tgt := 39) hx hb dX7_buy_34 (by decide) (fun h_8 => ?_) (fun h_8 => ?_)
      · skip
        refine lv_aload hx hb dX7_buy_39 (lv_at hl 0 rfl) ?_
        refine va_get (D := (dC, dI)) (ci := 3) (v := .ref o4) (C := RX4) (T := TX4) (N := 4) hx hb hts hinX4 hown hK hP i4 he4 rfl 2 (by decide) (hts (.fieldLink RX7 214 "FurPosts$Post" "owed" "[I") (by decide +kernel)) (fun _ h9 => h9) rfl dX7_buy_41 ?_
        refine lv_iload_n hx hb dX7_buy_44 rfl (lv_at hl 3 rfl) ?_
        obtain ⟨hm9, i9, g9, hi9, he9⟩ := at_17 (xo_ h0 q n dl) hT k4_2
        refine va_iald hx hb hK hP i9 0 he9 rfl (i := a2) ((hg2 h_3).1) dX7_buy_45 ?_
        refine lv_topi (fun v10 _ => ?_)
        refine lv_aload hx hb dX7_buy_46 (lv_at hl 0 rfl) ?_
        refine va_get (D := (dC, dI)) (ci := 3) (v := .ref p4) (C := RX4) (T := TX4) (N := 4) hx hb hts hinX4 hown hK hP i4 he4 rfl 1 (by decide) (hts (.fieldLink RX7 217 "FurPosts$Post" "prices" "[I") (by decide +kernel)) (fun _ h9 => h9) rfl dX7_buy_48 ?_
        refine lv_iload_n hx hb dX7_buy_51 rfl (lv_at hl 4 rfl) ?_
        obtain ⟨hm11, i11, g11, hi11, he11⟩ := at_15 (xo_ h0 q n dl) hT k4_1
        refine va_iald hx hb hK hP i11 0 he11 rfl (i := a3) ((hg2 h_3).2) dX7_buy_52 ?_
        refine lv_topi (fun v12 _ => ?_)
        refine lv_iload hx hb dX7_buy_53 (lv_at hl 5 rfl) ?_
        refine lv_imul hx hb dX7_buy_55 ?_
        refine lv_topi (fun v13 _ => ?_)
        refine lv_isub hx hb dX7_buy_56 ?_
        refine lv_topi (fun v14 _ => ?_)
        refine lv_istore (lv' := [(6, .int v14), (5, .ref b1), (0, .ref h0), (1, .int a1), (2, .int a2), (3, .int a3), (4, .int a4)]) hx hb dX7_buy_57 hl (by decide) rfl (fun ls hl => ?_)
        refine lv_iload hx hb dX7_buy_59 (lv_at hl 0 rfl) ?_
        refine lv_ldc (v := (-100000)) hx hb hown (hts (.constant RX7 220 (-100000)) (by decide +kernel)) dX7_buy_61 ?_
        refine lv_icmp_ge (tgt := 68) hx hb dX7_buy_63 (by decide) (fun h_15 => ?_) (fun h_15 => ?_)
        · skip
          refine lv_aload hx hb dX7_buy_68 (lv_at hl 1 rfl) ?_
          refine va_get (D := (dC, dI)) (ci := 3) (v := .ref s4) (C := RX4) (T := TX4) (N := 4) hx hb hts hinX4 hown hK hP i4 he4 rfl 0 (by decide) (hts (.fieldLink RX7 92 "FurPosts$Post" "stock" "[I") (by decide +kernel)) (fun _ h9 => h9) rfl dX7_buy_70 ?_
          refine lv_iload_n hx hb dX7_buy_73 rfl (lv_at hl 5 rfl) ?_
          refine lv_dup2_11 hx hb dX7_buy_74 rfl rfl ?_
          refine va_iald hx hb hK hP i5 0 he5 rfl (i := a3) ((hg2 h_3).2) dX7_buy_75 ?_
          refine lv_topi (fun v16 _ => ?_)
          refine lv_iload hx hb dX7_buy_76 (lv_at hl 6 rfl) ?_
          refine lv_iadd hx hb dX7_buy_78 ?_
          refine lv_topi (fun v17 _ => ?_)
          refine va_iast hx hb hK hP hD hS i5 0 he5 rfl (i := a3) ((hg2 h_3).2) dX7_buy_79 (fun H locs hP2 hD2 hS => ?_)
          rw [va_pl_set hD hm5 hi5] at hP2 hD2
          obtain ⟨f, hP, hD, hT⟩ : ∃ f, va_P (dC, dI) vwCl (xo_ h0 q n dl ++ va_pl L f) H ∧ va_D A (xo_ h0 q n dl ++ va_pl L f) ∧ ty_ cI cy L t f := ⟨_, hP2, hD2, ty_set hT k4_0 ⟨_, rfl⟩⟩
          refine lv_aload hx hb dX7_buy_80 (lv_at hl 1 rfl) ?_
          obtain ⟨hm18, i18, s18, p18, o18, r18, hi18, he18, k18_0, k18_1, k18_2, k18_3⟩ := at_1 (xo_ h0 q n dl) hT hk1.1
          refine va_get (D := (dC, dI)) (ci := 3) (v := .ref o18) (C := RX4) (T := TX4) (N := 4) hx hb hts hinX4 hown hK hP i18 he18 rfl 2 (by decide) (hts (.fieldLink RX7 214 "FurPosts$Post" "owed" "[I") (by decide +kernel)) (fun _ h9 => h9) rfl dX7_buy_82 ?_
          refine lv_iload_n hx hb dX7_buy_85 rfl (lv_at hl 4 rfl) ?_
          refine lv_iload hx hb dX7_buy_86 (lv_at hl 0 rfl) ?_
          obtain ⟨hm19, i19, g19, hi19, he19⟩ := at_17 (xo_ h0 q n dl) hT k18_2
          refine va_iast hx hb hK hP hD hS i19 0 he19 rfl (i := a2) ((hg2 h_3).1) dX7_buy_88 (fun H locs hP2 hD2 hS => ?_)
          rw [va_pl_set hD hm19 hi19] at hP2 hD2
          obtain ⟨f, hP, hD, hT⟩ : ∃ f, va_P (dC, dI) vwCl (xo_ h0 q n dl ++ va_pl L f) H ∧ va_D A (xo_ h0 q n dl ++ va_pl L f) ∧ ty_ cI cy L t f := ⟨_, hP2, hD2, ty_set hT k18_2 ⟨_, rfl⟩⟩
          refine lv_aload_n hx hb dX7_buy_89 rfl (lv_at hl 2 rfl) ?_
          refine va_get (D := (dC, dI)) (ci := 6) (v := .ref (q 7)) (C := RX7) (T := TX7) (N := 14) hx hb hts hinX7 hown hK hP 0 rfl rfl 6 (by decide) (hts (.fieldLink RX7 41 "FurPosts" "tallies" "[[I") (by decide +kernel)) (fun _ h9 => h9) rfl dX7_buy_90 ?_
          refine lv_iload_n hx hb dX7_buy_93 rfl (lv_at hl 5 rfl) ?_
          obtain ⟨hm20, i20, r20, hi20, he20, k20_0⟩ := at_14 (xo_ h0 q n dl) hT hQ.2.2.2.2.2.2.1
          refine va_ald2 hx hb hK hP i20 8 he20 rfl (i := a3) ((hg2 h_3).2) (b := r20 (Int32.toNatClampNeg a3)) (if_pos (vp_lt ((hg2 h_3).2))) dX7_buy_94 ?_
          have hr21 := k20_0 (Int32.toNatClampNeg a3) (vp_lt ((hg2 h_3).2))
          generalize r20 (Int32.toNatClampNeg a3) = b21 at hr21 ⊢
          refine lv_iconst (v := 2) hx hb dX7_buy_95 (by decide) ?_
          refine lv_dup2_11 hx hb dX7_buy_96 rfl rfl ?_
          obtain ⟨hm22, i22, g22, hi22, he22⟩ := at_15 (xo_ h0 q n dl) hT hr21
          refine va_iald hx hb hK hP i22 0 he22 rfl (i := 2) (by unfold vp_in; decide) dX7_buy_97 ?_
          refine lv_topi (fun v23 _ => ?_)
          refine lv_iload hx hb dX7_buy_98 (lv_at hl 6 rfl) ?_
          refine lv_iadd hx hb dX7_buy_100 ?_
          refine lv_topi (fun v24 _ => ?_)
          refine va_iast hx hb hK hP hD hS i22 0 he22 rfl (i := 2) (by unfold vp_in; decide) dX7_buy_101 (fun H locs hP2 hD2 hS => ?_)
          rw [va_pl_set hD hm22 hi22] at hP2 hD2
          obtain ⟨f, hP, hD, hT⟩ : ∃ f, va_P (dC, dI) vwCl (xo_ h0 q n dl ++ va_pl L f) H ∧ va_D A (xo_ h0 q n dl ++ va_pl L f) ∧ ty_ cI cy L t f := ⟨_, hP2, hD2, ty_set hT hr21 ⟨_, rfl⟩⟩
          refine lv_iload hx hb dX7_buy_102 (lv_at hl 0 rfl) ?_
          exact W.iret (v := v14) hx hb hr (fun t ht hW => ⟨⟨v14, (f, n, dl), rfl, ⟨trivial, hD, hT, rfl⟩, by show va_P (dC, dI) vwCl _ t.heap; rw [ht]; exact hP⟩, hS.F ht⟩) hS.2.2 dX7_buy_104
        · skip
          refine lv_iconst (v := (-1)) hx hb dX7_buy_66 (by decide) ?_
          exact W.iret (v := (-1)) hx hb hr (fun t ht hW => ⟨⟨(-1), (f, n, dl), rfl, ⟨trivial, hD, hT, rfl⟩, by show va_P (dC, dI) vwCl _ t.heap; rw [ht]; exact hP⟩, hS.F ht⟩) hS.2.2 dX7_buy_67
      · skip
        refine lv_iconst (v := (-1)) hx hb dX7_buy_37 (by decide) ?_
        exact W.iret (v := (-1)) hx hb hr (fun t ht hW => ⟨⟨(-1), (f, n, dl), rfl, ⟨trivial, hD, hT, rfl⟩, by show va_P (dC, dI) vwCl _ t.heap; rw [ht]; exact hP⟩, hS.F ht⟩) hS.2.2 dX7_buy_38

set_option maxHeartbeats 4000000 in
set_option maxRecDepth 100000 in
theorem m_X7_give (l : Launch) (dC : Nat → ClassId) (dI : Nat → Nat → Nat) (h0 : Nat) (q n : Nat → Nat) (dl : Int32) (cI : ClassId) (cy : Nat → ClassId) (L : List Nat) (t : Nat → Nat) (f : Nat → va_E) (hT : ty_ cI cy L t f) (hQ : qs_ q t) (hN : nb_ n) (A : Nat → Prop) (hD : va_D A (xo_ h0 q n dl ++ va_pl L f)) (a1 : Int32) (a2 : Int32) (a3 : Int32) (a4 : Int32) : Met l yX7_give wsX7_give ({ frames := 2, cells := 0, slots := 0, locals := 44 }) (va_Pc [.ref h0, .int a1, .int a2, .int a3, .int a4] (pt_P (dC, dI) vwCl (tt_ cI cy) (xo_ h0 q n dl ++ va_pl L f))) (va_Qi (fun r (u : (Nat → va_E) × (Nat → Nat) × Int32) => True ∧ va_D A (xo_ h0 q u.2.1 u.2.2 ++ va_pl L u.1) ∧ ty_ cI cy L t u.1 ∧ u.2.1 = n) (fun u s' => va_P (dC, dI) vwCl (xo_ h0 q u.2.1 u.2.2 ++ va_pl L u.1) s'.heap) A) 0 0 A := by
  refine Met.ofW (cc := cX7_give) (maxL := 6) (ret := (some .int)) (by decide) rfl ?_
  intro p e s m args below meth c s₁ B hml hv
  obtain ⟨rfl, hP, hK, hW0⟩ := hv
  have hx := B.exec
  have hb := B.bytes
  have hr := B.returns
  have hts := atoms_spec (ws := wsX7_give) B.pre
  have hown : s.vm.findClass RX7 = some m.cls := findClass_of_methodNamed B.named
  have hlocks := B.notSynchronized
  have hinX4 : ∀ w ∈ u_ws RX4 TX4 4, w ∈ wsX7_give := by decide +kernel
  have hinX7 : ∀ w ∈ u_ws RX7 TX7 14, w ∈ wsX7_give := by decide +kernel
  have hS : va_S A s.heap s.heap [] := va_S.rf
  have hl := lv_entry ([.ref h0, .int a1, .int a2, .int a3, .int a4]) (n := 6) (Nat.le_of_ble_eq_true rfl)
  rw [lg_entry_eq]
  generalize (lg_sl ([.ref h0, .int a1, .int a2, .int a3, .int a4]) ++ List.replicate (6 - (lg_sl ([.ref h0, .int a1, .int a2, .int a3, .int a4])).length) Slot.unset).toArray = ls at hl ⊢
  have hl : lv_has ls 6 [(0, .ref h0), (1, .int a1), (2, .int a2), (3, .int a3), (4, .int a4)] := hl
  obtain ⟨H, hH, hP, hS⟩ : ∃ H, H = s.heap ∧ va_P (dC, dI) vwCl (xo_ h0 q n dl ++ va_pl L f) H ∧ va_S A s.heap H [] := ⟨_, rfl, hP, hS⟩
  rw [← hH]
  generalize ([] : List Loc) = locs at hS ⊢
  refine lv_aload_n hx hb dX7_give_0 rfl (lv_at hl 0 rfl) ?_
  refine lv_iload_n hx hb dX7_give_1 rfl (lv_at hl 1 rfl) ?_
  refine pg_call (va_runV (As := [.int a1]) (rest := []) ⟨hx, hb, hml, hown, hts⟩ (k_X7_postAt l dC dI h0 q n dl cI cy L t f hT hQ hN a1) (cwV 1 hts gX7_give_X7_postAt rfl rfl rfl (by decide +kernel) ⟨Nat.le_of_ble_eq_true rfl, Nat.le_of_ble_eq_true rfl⟩) (pt_pre hP hK hW0 (ci := 6) (q0 := 0) rfl rfl) rfl rfl hl.1 rfl (lv_room (Nat.le_of_ble_eq_true rfl)) dX7_give_2 ⟨Nat.le_of_ble_eq_true rfl, Nat.le_of_ble_eq_true rfl⟩) (fun w1 hw1 => ?_)
  obtain ⟨o1, rfl, hg1⟩ := hw1
  cases o1 with
  | none =>
    refine lv_astoreN (lv' := [(5, .null), (0, .ref h0), (1, .int a1), (2, .int a2), (3, .int a3), (4, .int a4)]) hx hb dX7_give_5 hl (by decide) rfl (fun ls hl => ?_)
    refine lv_aloadN hx hb dX7_give_7 (lv_at hl 0 rfl) ?_
    refine lv_ifnullN (tgt := 34) hx hb dX7_give_9 (by decide) ?_
    refine lv_iconst (v := (-1)) hx hb dX7_give_34 (by decide) ?_
    exact W.iret (v := (-1)) hx hb hr (fun t ht hW => ⟨⟨(-1), (f, n, dl), rfl, ⟨trivial, hD, hT, rfl⟩, by show va_P (dC, dI) vwCl _ t.heap; rw [ht]; exact hP⟩, hS.F ht⟩) hS.2.2 dX7_give_35
  | some b1 =>
    have hk1 := hg1 b1 rfl
    refine lv_astore (lv' := [(5, .ref b1), (0, .ref h0), (1, .int a1), (2, .int a2), (3, .int a3), (4, .int a4)]) hx hb dX7_give_5 hl (by decide) rfl (fun ls hl => ?_)
    refine lv_aload hx hb dX7_give_7 (lv_at hl 0 rfl) ?_
    refine lv_ifnull hx hb dX7_give_9 ?_
    refine lv_iload_n hx hb dX7_give_12 rfl (lv_at hl 3 rfl) ?_
    refine lv_iload_n hx hb dX7_give_13 rfl (lv_at hl 4 rfl) ?_
    refine lv_iload hx hb dX7_give_14 (lv_at hl 5 rfl) ?_
    refine pg_call (va_runS (As := [.int a2, .int a3, .int a4]) (rest := []) ⟨hx, hb, hml, hown, hts⟩ (k_X7_isTrade l a2 a3 a4) (va_cwS 3 hts gX7_give_X7_isTrade rfl rfl rfl (by decide +kernel) ⟨Nat.le_of_ble_eq_true rfl, Nat.le_of_ble_eq_true rfl⟩) pu_preS rfl rfl hl.1 rfl (lv_room (Nat.le_of_ble_eq_true rfl)) dX7_give_16 ⟨Nat.le_of_ble_eq_true rfl, Nat.le_of_ble_eq_true rfl⟩) (fun w2 hw2 => ?_)
    obtain ⟨r2, rfl, hg2⟩ := hw2
    refine lv_if_eq (tgt := 34) hx hb dX7_give_19 (by decide) (fun h_3 => ?_) (fun h_3 => ?_)
    · skip
      refine lv_iconst (v := (-1)) hx hb dX7_give_34 (by decide) ?_
      exact W.iret (v := (-1)) hx hb hr (fun t ht hW => ⟨⟨(-1), (f, n, dl), rfl, ⟨trivial, hD, hT, rfl⟩, by show va_P (dC, dI) vwCl _ t.heap; rw [ht]; exact hP⟩, hS.F ht⟩) hS.2.2 dX7_give_35
    · skip
      refine lv_aload hx hb dX7_give_22 (lv_at hl 0 rfl) ?_
      obtain ⟨hm4, i4, s4, p4, o4, r4, hi4, he4, k4_0, k4_1, k4_2, k4_3⟩ := at_1 (xo_ h0 q n dl) hT hk1.1
      refine va_get (D := (dC, dI)) (ci := 3) (v := .ref s4) (C := RX4) (T := TX4) (N := 4) hx hb hts hinX4 hown hK hP i4 he4 rfl 0 (by decide) (hts (.fieldLink RX7 92 "FurPosts$Post" "stock" "[I") (by decide +kernel)) (fun _ h9 => h9) rfl dX7_give_24 ?_
      refine lv_iload_n hx hb dX7_give_27 rfl (lv_at hl 4 rfl) ?_
      obtain ⟨hm5, i5, g5, hi5, he5⟩ := at_15 (xo_ h0 q n dl) hT k4_0
      refine va_iald hx hb hK hP i5 0 he5 rfl (i := a3) ((hg2 h_3).2) dX7_give_28 ?_
      refine lv_topi (fun v6 _ => ?_)
      refine lv_iload hx hb dX7_give_29 (lv_at hl 5 rfl) ?_
      refine lv_icmp_ge (tgt := 36) hx hb dX7_give_31 (by decide) (fun h_7 => ?_) (fun h_7 => ?_)
      · skip
        refine lv_aload hx hb dX7_give_36 (lv_at hl 0 rfl) ?_
        refine va_get (D := (dC, dI)) (ci := 3) (v := .ref s4) (C := RX4) (T := TX4) (N := 4) hx hb hts hinX4 hown hK hP i4 he4 rfl 0 (by decide) (hts (.fieldLink RX7 92 "FurPosts$Post" "stock" "[I") (by decide +kernel)) (fun _ h9 => h9) rfl dX7_give_38 ?_
        refine lv_iload_n hx hb dX7_give_41 rfl (lv_at hl 4 rfl) ?_
        refine lv_dup2_11 hx hb dX7_give_42 rfl rfl ?_
        refine va_iald hx hb hK hP i5 0 he5 rfl (i := a3) ((hg2 h_3).2) dX7_give_43 ?_
        refine lv_topi (fun v8 _ => ?_)
        refine lv_iload hx hb dX7_give_44 (lv_at hl 5 rfl) ?_
        refine lv_isub hx hb dX7_give_46 ?_
        refine lv_topi (fun v9 _ => ?_)
        refine va_iast hx hb hK hP hD hS i5 0 he5 rfl (i := a3) ((hg2 h_3).2) dX7_give_47 (fun H locs hP2 hD2 hS => ?_)
        rw [va_pl_set hD hm5 hi5] at hP2 hD2
        obtain ⟨f, hP, hD, hT⟩ : ∃ f, va_P (dC, dI) vwCl (xo_ h0 q n dl ++ va_pl L f) H ∧ va_D A (xo_ h0 q n dl ++ va_pl L f) ∧ ty_ cI cy L t f := ⟨_, hP2, hD2, ty_set hT k4_0 ⟨_, rfl⟩⟩
        refine lv_aload_n hx hb dX7_give_48 rfl (lv_at hl 1 rfl) ?_
        refine va_get (D := (dC, dI)) (ci := 6) (v := .ref (q 7)) (C := RX7) (T := TX7) (N := 14) hx hb hts hinX7 hown hK hP 0 rfl rfl 6 (by decide) (hts (.fieldLink RX7 41 "FurPosts" "tallies" "[[I") (by decide +kernel)) (fun _ h9 => h9) rfl dX7_give_49 ?_
        refine lv_iload_n hx hb dX7_give_52 rfl (lv_at hl 4 rfl) ?_
        obtain ⟨hm10, i10, r10, hi10, he10, k10_0⟩ := at_14 (xo_ h0 q n dl) hT hQ.2.2.2.2.2.2.1
        refine va_ald2 hx hb hK hP i10 8 he10 rfl (i := a3) ((hg2 h_3).2) (b := r10 (Int32.toNatClampNeg a3)) (if_pos (vp_lt ((hg2 h_3).2))) dX7_give_53 ?_
        have hr11 := k10_0 (Int32.toNatClampNeg a3) (vp_lt ((hg2 h_3).2))
        generalize r10 (Int32.toNatClampNeg a3) = b11 at hr11 ⊢
        refine lv_iconst (v := 3) hx hb dX7_give_54 (by decide) ?_
        refine lv_dup2_11 hx hb dX7_give_55 rfl rfl ?_
        obtain ⟨hm12, i12, g12, hi12, he12⟩ := at_15 (xo_ h0 q n dl) hT hr11
        refine va_iald hx hb hK hP i12 0 he12 rfl (i := 3) (by unfold vp_in; decide) dX7_give_56 ?_
        refine lv_topi (fun v13 _ => ?_)
        refine lv_iload hx hb dX7_give_57 (lv_at hl 5 rfl) ?_
        refine lv_iadd hx hb dX7_give_59 ?_
        refine lv_topi (fun v14 _ => ?_)
        refine va_iast hx hb hK hP hD hS i12 0 he12 rfl (i := 3) (by unfold vp_in; decide) dX7_give_60 (fun H locs hP2 hD2 hS => ?_)
        rw [va_pl_set hD hm12 hi12] at hP2 hD2
        obtain ⟨f, hP, hD, hT⟩ : ∃ f, va_P (dC, dI) vwCl (xo_ h0 q n dl ++ va_pl L f) H ∧ va_D A (xo_ h0 q n dl ++ va_pl L f) ∧ ty_ cI cy L t f := ⟨_, hP2, hD2, ty_set hT hr11 ⟨_, rfl⟩⟩
        refine lv_aload hx hb dX7_give_61 (lv_at hl 0 rfl) ?_
        obtain ⟨hm15, i15, s15, p15, o15, r15, hi15, he15, k15_0, k15_1, k15_2, k15_3⟩ := at_1 (xo_ h0 q n dl) hT hk1.1
        refine va_get (D := (dC, dI)) (ci := 3) (v := .ref s15) (C := RX4) (T := TX4) (N := 4) hx hb hts hinX4 hown hK hP i15 he15 rfl 0 (by decide) (hts (.fieldLink RX7 92 "FurPosts$Post" "stock" "[I") (by decide +kernel)) (fun _ h9 => h9) rfl dX7_give_63 ?_
        refine lv_iload_n hx hb dX7_give_66 rfl (lv_at hl 4 rfl) ?_
        obtain ⟨hm16, i16, g16, hi16, he16⟩ := at_15 (xo_ h0 q n dl) hT k15_0
        refine va_iald hx hb hK hP i16 0 he16 rfl (i := a3) ((hg2 h_3).2) dX7_give_67 ?_
        refine lv_topi (fun v17 _ => ?_)
        exact W.iret (v := v17) hx hb hr (fun t ht hW => ⟨⟨v17, (f, n, dl), rfl, ⟨trivial, hD, hT, rfl⟩, by show va_P (dC, dI) vwCl _ t.heap; rw [ht]; exact hP⟩, hS.F ht⟩) hS.2.2 dX7_give_68
      · skip
        refine lv_iconst (v := (-1)) hx hb dX7_give_34 (by decide) ?_
        exact W.iret (v := (-1)) hx hb hr (fun t ht hW => ⟨⟨(-1), (f, n, dl), rfl, ⟨trivial, hD, hT, rfl⟩, by show va_P (dC, dI) vwCl _ t.heap; rw [ht]; exact hP⟩, hS.F ht⟩) hS.2.2 dX7_give_35

set_option maxHeartbeats 4000000 in
set_option maxRecDepth 100000 in
theorem m_X7_spoil (l : Launch) (dC : Nat → ClassId) (dI : Nat → Nat → Nat) (h0 : Nat) (q n : Nat → Nat) (dl : Int32) (cI : ClassId) (cy : Nat → ClassId) (L : List Nat) (t : Nat → Nat) (f : Nat → va_E) (hT : ty_ cI cy L t f) (hQ : qs_ q t) (hN : nb_ n) (A : Nat → Prop) (hD : va_D A (xo_ h0 q n dl ++ va_pl L f)) (a1 : Int32) (a2 : Int32) (a3 : Int32) : Met l yX7_spoil wsX7_spoil ({ frames := 1, cells := 0, slots := 0, locals := 22 }) (va_Pc [.ref h0, .int a1, .int a2, .int a3] (pt_P (dC, dI) vwCl (tt_ cI cy) (xo_ h0 q n dl ++ va_pl L f))) (va_Qi (fun r (u : (Nat → va_E) × (Nat → Nat) × Int32) => True ∧ va_D A (xo_ h0 q u.2.1 u.2.2 ++ va_pl L u.1) ∧ ty_ cI cy L t u.1 ∧ u.2.1 = n) (fun u s' => va_P (dC, dI) vwCl (xo_ h0 q u.2.1 u.2.2 ++ va_pl L u.1) s'.heap) A) 0 0 A := by
  refine Met.ofW (cc := cX7_spoil) (maxL := 5) (ret := (some .boolean)) (by decide) rfl ?_
  intro p e s m args below meth c s₁ B hml hv
  obtain ⟨rfl, hP, hK, hW0⟩ := hv
  have hx := B.exec
  have hb := B.bytes
  have hr := B.returns
  have hts := atoms_spec (ws := wsX7_spoil) B.pre
  have hown : s.vm.findClass RX7 = some m.cls := findClass_of_methodNamed B.named
  have hlocks := B.notSynchronized
  have hinX0 : ∀ w ∈ u_ws RX0 TX0 11, w ∈ wsX7_spoil := by decide +kernel
  have hinX7 : ∀ w ∈ u_ws RX7 TX7 14, w ∈ wsX7_spoil := by decide +kernel
  have hS : va_S A s.heap s.heap [] := va_S.rf
  have hl := lv_entry ([.ref h0, .int a1, .int a2, .int a3]) (n := 5) (Nat.le_of_ble_eq_true rfl)
  rw [lg_entry_eq]
  generalize (lg_sl ([.ref h0, .int a1, .int a2, .int a3]) ++ List.replicate (5 - (lg_sl ([.ref h0, .int a1, .int a2, .int a3])).length) Slot.unset).toArray = ls at hl ⊢
  have hl : lv_has ls 5 [(0, .ref h0), (1, .int a1), (2, .int a2), (3, .int a3)] := hl
  obtain ⟨H, hH, hP, hS⟩ : ∃ H, H = s.heap ∧ va_P (dC, dI) vwCl (xo_ h0 q n dl ++ va_pl L f) H ∧ va_S A s.heap H [] := ⟨_, rfl, hP, hS⟩
  rw [← hH]
  generalize ([] : List Loc) = locs at hS ⊢
  refine lv_aload_n hx hb dX7_spoil_0 rfl (lv_at hl 0 rfl) ?_
  refine lv_iload_n hx hb dX7_spoil_1 rfl (lv_at hl 1 rfl) ?_
  refine pg_call (va_runV (As := [.int a1]) (rest := []) ⟨hx, hb, hml, hown, hts⟩ (k_X7_canoeAt l dC dI h0 q n dl cI cy L t f hT hQ hN a1) (cwV 1 hts gX7_spoil_X7_canoeAt rfl rfl rfl (by decide +kernel) ⟨Nat.le_of_ble_eq_true rfl, Nat.le_of_ble_eq_true rfl⟩) (pt_pre hP hK hW0 (ci := 6) (q0 := 0) rfl rfl) rfl rfl hl.1 rfl (lv_room (Nat.le_of_ble_eq_true rfl)) dX7_spoil_2 ⟨Nat.le_of_ble_eq_true rfl, Nat.le_of_ble_eq_true rfl⟩) (fun w1 hw1 => ?_)
  obtain ⟨o1, rfl, hg1⟩ := hw1
  cases o1 with
  | none =>
    refine lv_astoreN (lv' := [(4, .null), (0, .ref h0), (1, .int a1), (2, .int a2), (3, .int a3)]) hx hb dX7_spoil_5 hl (by decide) rfl (fun ls hl => ?_)
    refine lv_aloadN hx hb dX7_spoil_7 (lv_at hl 0 rfl) ?_
    refine lv_ifnullN (tgt := 42) hx hb dX7_spoil_9 (by decide) ?_
    refine lv_iconst (v := 0) hx hb dX7_spoil_42 (by decide) ?_
    exact W.zret (v := 0) hx hb hr rfl (fun t ht hW => ⟨⟨0, (f, n, dl), rfl, ⟨trivial, hD, hT, rfl⟩, by show va_P (dC, dI) vwCl _ t.heap; rw [ht]; exact hP⟩, hS.F ht⟩) hS.2.2 dX7_spoil_43
  | some b1 =>
    have hk1 := hg1 b1 rfl
    refine lv_astore (lv' := [(4, .ref b1), (0, .ref h0), (1, .int a1), (2, .int a2), (3, .int a3)]) hx hb dX7_spoil_5 hl (by decide) rfl (fun ls hl => ?_)
    refine lv_aload hx hb dX7_spoil_7 (lv_at hl 0 rfl) ?_
    refine lv_ifnull hx hb dX7_spoil_9 ?_
    refine lv_aload hx hb dX7_spoil_12 (lv_at hl 0 rfl) ?_
    obtain ⟨hm2, i2, g2, s2, w2, hi2, he2, k2_0, k2_1⟩ := at_3 (xo_ h0 q n dl) hT hk1.1
    refine va_get (D := (dC, dI)) (ci := 0) (v := .int (g2 9)) (C := RX0) (T := TX0) (N := 11) hx hb hts hinX0 hown hK hP i2 he2 rfl 9 (by decide) (hts (.fieldLink RX7 142 "FurPosts$Canoe" "state" "I") (by decide +kernel)) (fun _ h9 => h9) rfl dX7_spoil_14 ?_
    refine lv_if_ne (tgt := 42) hx hb dX7_spoil_17 (by decide) (fun h_3 => ?_) (fun h_3 => ?_)
    · skip
      refine lv_iconst (v := 0) hx hb dX7_spoil_42 (by decide) ?_
      exact W.zret (v := 0) hx hb hr rfl (fun t ht hW => ⟨⟨0, (f, n, dl), rfl, ⟨trivial, hD, hT, rfl⟩, by show va_P (dC, dI) vwCl _ t.heap; rw [ht]; exact hP⟩, hS.F ht⟩) hS.2.2 dX7_spoil_43
    · skip
      refine lv_iload_n hx hb dX7_spoil_20 rfl (lv_at hl 3 rfl) ?_
      refine pu_call (va_runS (As := [.int a2]) (rest := []) ⟨hx, hb, hml, hown, hts⟩ (c_X7_isWare l a2) (va_cwS 1 hts gX7_spoil_X7_isWare rfl rfl rfl (by decide +kernel) ⟨Nat.le_of_ble_eq_true rfl, Nat.le_of_ble_eq_true rfl⟩) pu_preS rfl rfl hl.1 rfl (lv_room (Nat.le_of_ble_eq_true rfl)) dX7_spoil_21 ⟨Nat.le_of_ble_eq_true rfl, Nat.le_of_ble_eq_true rfl⟩) ?_
      refine lv_if_eq (tgt := 42) hx hb dX7_spoil_24 (by decide) (fun h_4 => ?_) (fun h_4 => ?_)
      · skip
        refine lv_iconst (v := 0) hx hb dX7_spoil_42 (by decide) ?_
        exact W.zret (v := 0) hx hb hr rfl (fun t ht hW => ⟨⟨0, (f, n, dl), rfl, ⟨trivial, hD, hT, rfl⟩, by show va_P (dC, dI) vwCl _ t.heap; rw [ht]; exact hP⟩, hS.F ht⟩) hS.2.2 dX7_spoil_43
      · skip
        refine lv_iload_n hx hb dX7_spoil_27 rfl (lv_at hl 4 rfl) ?_
        refine lv_iconst (v := 1) hx hb dX7_spoil_28 (by decide) ?_
        refine lv_aload hx hb dX7_spoil_29 (lv_at hl 0 rfl) ?_
        refine va_get (D := (dC, dI)) (ci := 0) (v := .ref w2) (C := RX0) (T := TX0) (N := 11) hx hb hts hinX0 hown hK hP i2 he2 rfl 5 (by decide) (hts (.fieldLink RX7 148 "FurPosts$Canoe" "wares" "[I") (by decide +kernel)) (fun _ h9 => h9) rfl dX7_spoil_31 ?_
        refine lv_iload_n hx hb dX7_spoil_34 rfl (lv_at hl 3 rfl) ?_
        obtain ⟨hm5, i5, g5, hi5, he5⟩ := at_15 (xo_ h0 q n dl) hT k2_1
        refine va_iald hx hb hK hP i5 0 he5 rfl (i := a2) (sp_vp h_4 rfl) dX7_spoil_35 ?_
        refine lv_topi (fun v6 _ => ?_)
        refine pu_call (va_runS (As := [.int a3, .int 1, .int v6]) (rest := []) ⟨hx, hb, hml, hown, hts⟩ (c_X7_isWithin l a3 1 v6) (va_cwS 3 hts gX7_spoil_X7_isWithin rfl rfl rfl (by decide +kernel) ⟨Nat.le_of_ble_eq_true rfl, Nat.le_of_ble_eq_true rfl⟩) pu_preS rfl rfl hl.1 rfl (lv_room (Nat.le_of_ble_eq_true rfl)) dX7_spoil_36 ⟨Nat.le_of_ble_eq_true rfl, Nat.le_of_ble_eq_true rfl⟩) ?_
        refine lv_if_ne (tgt := 44) hx hb dX7_spoil_39 (by decide) (fun h_7 => ?_) (fun h_7 => ?_)
        · skip
          refine lv_aload hx hb dX7_spoil_44 (lv_at hl 0 rfl) ?_
          refine va_get (D := (dC, dI)) (ci := 0) (v := .ref w2) (C := RX0) (T := TX0) (N := 11) hx hb hts hinX0 hown hK hP i2 he2 rfl 5 (by decide) (hts (.fieldLink RX7 148 "FurPosts$Canoe" "wares" "[I") (by decide +kernel)) (fun _ h9 => h9) rfl dX7_spoil_46 ?_
          refine lv_iload_n hx hb dX7_spoil_49 rfl (lv_at hl 3 rfl) ?_
          refine lv_dup2_11 hx hb dX7_spoil_50 rfl rfl ?_
          refine va_iald hx hb hK hP i5 0 he5 rfl (i := a2) (sp_vp h_4 rfl) dX7_spoil_51 ?_
          refine lv_topi (fun v8 _ => ?_)
          refine lv_iload_n hx hb dX7_spoil_52 rfl (lv_at hl 4 rfl) ?_
          refine lv_isub hx hb dX7_spoil_53 ?_
          refine lv_topi (fun v9 _ => ?_)
          refine va_iast hx hb hK hP hD hS i5 0 he5 rfl (i := a2) (sp_vp h_4 rfl) dX7_spoil_54 (fun H locs hP2 hD2 hS => ?_)
          rw [va_pl_set hD hm5 hi5] at hP2 hD2
          obtain ⟨f, hP, hD, hT⟩ : ∃ f, va_P (dC, dI) vwCl (xo_ h0 q n dl ++ va_pl L f) H ∧ va_D A (xo_ h0 q n dl ++ va_pl L f) ∧ ty_ cI cy L t f := ⟨_, hP2, hD2, ty_set hT k2_1 ⟨_, rfl⟩⟩
          refine lv_aload hx hb dX7_spoil_55 (lv_at hl 0 rfl) ?_
          refine lv_iconst (v := 1) hx hb dX7_spoil_57 (by decide) ?_
          obtain ⟨hm10, i10, g10, s10, w10, hi10, he10, k10_0, k10_1⟩ := at_3 (xo_ h0 q n dl) hT hk1.1
          refine va_put (D := (dC, dI)) (ci := 0) (v := .int 1) (ty := .boolean) (C := RX0) (T := TX0) (N := 11) hx hb hts hinX0 tyX0 tyX0_ok nmX0 hown hK hP hD hS i10 he10 rfl 10 (by decide) (hts (.fieldLink RX7 155 "FurPosts$Canoe" "spoilt" "Z") (by decide +kernel)) (fun _ h9 => h9) rfl (by decide +kernel) rfl rfl (Nat.le_of_ble_eq_true rfl) dX7_spoil_58 (fun H locs hP2 hD2 hS => ?_)
          rw [va_pl_set hD hm10 hi10] at hP2 hD2
          obtain ⟨f, hP, hD, hT⟩ : ∃ f, va_P (dC, dI) vwCl (xo_ h0 q n dl ++ va_pl L f) H ∧ va_D A (xo_ h0 q n dl ++ va_pl L f) ∧ ty_ cI cy L t f := ⟨_, hP2, hD2, ty_set hT hk1.1 ⟨va_up g10 10 1, s10, w10, rfl, k10_0, k10_1⟩⟩
          refine lv_aload_n hx hb dX7_spoil_61 rfl (lv_at hl 1 rfl) ?_
          refine va_get (D := (dC, dI)) (ci := 6) (v := .ref (q 7)) (C := RX7) (T := TX7) (N := 14) hx hb hts hinX7 hown hK hP 0 rfl rfl 6 (by decide) (hts (.fieldLink RX7 41 "FurPosts" "tallies" "[[I") (by decide +kernel)) (fun _ h9 => h9) rfl dX7_spoil_62 ?_
          refine lv_iload_n hx hb dX7_spoil_65 rfl (lv_at hl 3 rfl) ?_
          obtain ⟨hm11, i11, r11, hi11, he11, k11_0⟩ := at_14 (xo_ h0 q n dl) hT hQ.2.2.2.2.2.2.1
          refine va_ald2 hx hb hK hP i11 8 he11 rfl (i := a2) (sp_vp h_4 rfl) (b := r11 (Int32.toNatClampNeg a2)) (if_pos (vp_lt (sp_vp h_4 rfl))) dX7_spoil_66 ?_
          have hr12 := k11_0 (Int32.toNatClampNeg a2) (vp_lt (sp_vp h_4 rfl))
          generalize r11 (Int32.toNatClampNeg a2) = b12 at hr12 ⊢
          refine lv_iconst (v := 5) hx hb dX7_spoil_67 (by decide) ?_
          refine lv_dup2_11 hx hb dX7_spoil_68 rfl rfl ?_
          obtain ⟨hm13, i13, g13, hi13, he13⟩ := at_15 (xo_ h0 q n dl) hT hr12
          refine va_iald hx hb hK hP i13 0 he13 rfl (i := 5) (by unfold vp_in; decide) dX7_spoil_69 ?_
          refine lv_topi (fun v14 _ => ?_)
          refine lv_iload_n hx hb dX7_spoil_70 rfl (lv_at hl 4 rfl) ?_
          refine lv_iadd hx hb dX7_spoil_71 ?_
          refine lv_topi (fun v15 _ => ?_)
          refine va_iast hx hb hK hP hD hS i13 0 he13 rfl (i := 5) (by unfold vp_in; decide) dX7_spoil_72 (fun H locs hP2 hD2 hS => ?_)
          rw [va_pl_set hD hm13 hi13] at hP2 hD2
          obtain ⟨f, hP, hD, hT⟩ : ∃ f, va_P (dC, dI) vwCl (xo_ h0 q n dl ++ va_pl L f) H ∧ va_D A (xo_ h0 q n dl ++ va_pl L f) ∧ ty_ cI cy L t f := ⟨_, hP2, hD2, ty_set hT hr12 ⟨_, rfl⟩⟩
          refine lv_iconst (v := 1) hx hb dX7_spoil_73 (by decide) ?_
          exact W.zret (v := 1) hx hb hr rfl (fun t ht hW => ⟨⟨1, (f, n, dl), rfl, ⟨trivial, hD, hT, rfl⟩, by show va_P (dC, dI) vwCl _ t.heap; rw [ht]; exact hP⟩, hS.F ht⟩) hS.2.2 dX7_spoil_74
        · skip
          refine lv_iconst (v := 0) hx hb dX7_spoil_42 (by decide) ?_
          exact W.zret (v := 0) hx hb hr rfl (fun t ht hW => ⟨⟨0, (f, n, dl), rfl, ⟨trivial, hD, hT, rfl⟩, by show va_P (dC, dI) vwCl _ t.heap; rw [ht]; exact hP⟩, hS.F ht⟩) hS.2.2 dX7_spoil_43

set_option maxHeartbeats 4000000 in
set_option maxRecDepth 100000 in
theorem m_X7_load (l : Launch) (dC : Nat → ClassId) (dI : Nat → Nat → Nat) (h0 : Nat) (q n : Nat → Nat) (dl : Int32) (cI : ClassId) (cy : Nat → ClassId) (L : List Nat) (t : Nat → Nat) (f : Nat → va_E) (hT : ty_ cI cy L t f) (hQ : qs_ q t) (hN : nb_ n) (A : Nat → Prop) (hD : va_D A (xo_ h0 q n dl ++ va_pl L f)) (a1 : Int32) (a2 : Int32) : Met l yX7_load wsX7_load ({ frames := 1, cells := 0, slots := 0, locals := 22 }) (va_Pc [.ref h0, .int a1, .int a2] (pt_P (dC, dI) vwCl (tt_ cI cy) (xo_ h0 q n dl ++ va_pl L f))) (va_Qi (fun r (u : (Nat → va_E) × (Nat → Nat) × Int32) => r = sp_load a1 a2 ∧ va_D A (xo_ h0 q u.2.1 u.2.2 ++ va_pl L u.1) ∧ ty_ cI cy L t u.1 ∧ u.2.1 = n) (fun u s' => va_P (dC, dI) vwCl (xo_ h0 q u.2.1 u.2.2 ++ va_pl L u.1) s'.heap) A) 0 0 A := by
  refine Met.ofW (cc := cX7_load) (maxL := 3) (ret := (some .boolean)) (by decide) rfl ?_
  intro p e s m args below meth c s₁ B hml hv
  obtain ⟨rfl, hP, hK, hW0⟩ := hv
  have hx := B.exec
  have hb := B.bytes
  have hr := B.returns
  have hts := atoms_spec (ws := wsX7_load) B.pre
  have hown : s.vm.findClass RX7 = some m.cls := findClass_of_methodNamed B.named
  have hlocks := B.notSynchronized
  have hinX7 : ∀ w ∈ u_ws RX7 TX7 14, w ∈ wsX7_load := by decide +kernel
  have hS : va_S A s.heap s.heap [] := va_S.rf
  have hl := lv_entry ([.ref h0, .int a1, .int a2]) (n := 3) (Nat.le_of_ble_eq_true rfl)
  rw [lg_entry_eq]
  generalize (lg_sl ([.ref h0, .int a1, .int a2]) ++ List.replicate (3 - (lg_sl ([.ref h0, .int a1, .int a2])).length) Slot.unset).toArray = ls at hl ⊢
  have hl : lv_has ls 3 [(0, .ref h0), (1, .int a1), (2, .int a2)] := hl
  obtain ⟨H, hH, hP, hS⟩ : ∃ H, H = s.heap ∧ va_P (dC, dI) vwCl (xo_ h0 q n dl ++ va_pl L f) H ∧ va_S A s.heap H [] := ⟨_, rfl, hP, hS⟩
  rw [← hH]
  generalize ([] : List Loc) = locs at hS ⊢
  refine lv_iload_n hx hb dX7_load_0 rfl (lv_at hl 1 rfl) ?_
  refine pu_call (va_runS (As := [.int a1]) (rest := []) ⟨hx, hb, hml, hown, hts⟩ (c_X7_isWare l a1) (va_cwS 1 hts gX7_load_X7_isWare rfl rfl rfl (by decide +kernel) ⟨Nat.le_of_ble_eq_true rfl, Nat.le_of_ble_eq_true rfl⟩) pu_preS rfl rfl hl.1 rfl (lv_room (Nat.le_of_ble_eq_true rfl)) dX7_load_1 ⟨Nat.le_of_ble_eq_true rfl, Nat.le_of_ble_eq_true rfl⟩) ?_
  refine lv_if_eq (tgt := 18) hx hb dX7_load_4 (by decide) (fun h_1 => ?_) (fun h_1 => ?_)
  · skip
    refine lv_iconst (v := 0) hx hb dX7_load_18 (by decide) ?_
    exact W.zret (v := 0) hx hb hr rfl (fun t ht hW => ⟨⟨0, (f, n, dl), rfl, ⟨(by simp only [sp_load, if_pos h_1]), hD, hT, rfl⟩, by show va_P (dC, dI) vwCl _ t.heap; rw [ht]; exact hP⟩, hS.F ht⟩) hS.2.2 dX7_load_19
  · skip
    refine lv_iload_n hx hb dX7_load_7 rfl (lv_at hl 2 rfl) ?_
    refine lv_iconst (v := 0) hx hb dX7_load_8 (by decide) ?_
    refine lv_sipush (v := 500) hx hb dX7_load_9 (by decide) ?_
    refine pu_call (va_runS (As := [.int a2, .int 0, .int 500]) (rest := []) ⟨hx, hb, hml, hown, hts⟩ (c_X7_isWithin l a2 0 500) (va_cwS 3 hts gX7_load_X7_isWithin rfl rfl rfl (by decide +kernel) ⟨Nat.le_of_ble_eq_true rfl, Nat.le_of_ble_eq_true rfl⟩) pu_preS rfl rfl hl.1 rfl (lv_room (Nat.le_of_ble_eq_true rfl)) dX7_load_12 ⟨Nat.le_of_ble_eq_true rfl, Nat.le_of_ble_eq_true rfl⟩) ?_
    refine lv_if_ne (tgt := 20) hx hb dX7_load_15 (by decide) (fun h_2 => ?_) (fun h_2 => ?_)
    · skip
      refine lv_aload_n hx hb dX7_load_20 rfl (lv_at hl 0 rfl) ?_
      refine va_get (D := (dC, dI)) (ci := 6) (v := .ref (q 8)) (C := RX7) (T := TX7) (N := 14) hx hb hts hinX7 hown hK hP 0 rfl rfl 7 (by decide) (hts (.fieldLink RX7 44 "FurPosts" "loaded" "[I") (by decide +kernel)) (fun _ h9 => h9) rfl dX7_load_21 ?_
      refine lv_iload_n hx hb dX7_load_24 rfl (lv_at hl 1 rfl) ?_
      refine lv_iload_n hx hb dX7_load_25 rfl (lv_at hl 2 rfl) ?_
      obtain ⟨hm3, i3, g3, hi3, he3⟩ := at_15 (xo_ h0 q n dl) hT hQ.2.2.2.2.2.2.2
      refine va_iast hx hb hK hP hD hS i3 0 he3 rfl (i := a1) (sp_vp h_1 rfl) dX7_load_26 (fun H locs hP2 hD2 hS => ?_)
      rw [va_pl_set hD hm3 hi3] at hP2 hD2
      obtain ⟨f, hP, hD, hT⟩ : ∃ f, va_P (dC, dI) vwCl (xo_ h0 q n dl ++ va_pl L f) H ∧ va_D A (xo_ h0 q n dl ++ va_pl L f) ∧ ty_ cI cy L t f := ⟨_, hP2, hD2, ty_set hT hQ.2.2.2.2.2.2.2 ⟨_, rfl⟩⟩
      refine lv_iconst (v := 1) hx hb dX7_load_27 (by decide) ?_
      exact W.zret (v := 1) hx hb hr rfl (fun t ht hW => ⟨⟨1, (f, n, dl), rfl, ⟨(by simp only [sp_load, if_neg h_1, if_neg h_2]), hD, hT, rfl⟩, by show va_P (dC, dI) vwCl _ t.heap; rw [ht]; exact hP⟩, hS.F ht⟩) hS.2.2 dX7_load_28
    · skip
      refine lv_iconst (v := 0) hx hb dX7_load_18 (by decide) ?_
      exact W.zret (v := 0) hx hb hr rfl (fun t ht hW => ⟨⟨0, (f, n, dl), rfl, ⟨(by simp only [sp_load, if_neg h_1, if_pos h_2]), hD, hT, rfl⟩, by show va_P (dC, dI) vwCl _ t.heap; rw [ht]; exact hP⟩, hS.F ht⟩) hS.2.2 dX7_load_19

set_option maxHeartbeats 4000000 in
set_option maxRecDepth 100000 in
theorem m_X7_want (l : Launch) (dC : Nat → ClassId) (dI : Nat → Nat → Nat) (h0 : Nat) (q n : Nat → Nat) (dl : Int32) (cI : ClassId) (cy : Nat → ClassId) (L : List Nat) (t : Nat → Nat) (f : Nat → va_E) (hT : ty_ cI cy L t f) (hQ : qs_ q t) (hN : nb_ n) (A : Nat → Prop) (hD : va_D A (xo_ h0 q n dl ++ va_pl L f)) (a1 : Int32) (a2 : Int32) (a3 : Int32) : Met l yX7_want wsX7_want ({ frames := 1, cells := 0, slots := 0, locals := 22 }) (va_Pc [.ref h0, .int a1, .int a2, .int a3] (pt_P (dC, dI) vwCl (tt_ cI cy) (xo_ h0 q n dl ++ va_pl L f))) (va_Qi (fun r (u : (Nat → va_E) × (Nat → Nat) × Int32) => r = sp_want a1 a2 a3 ∧ va_D A (xo_ h0 q u.2.1 u.2.2 ++ va_pl L u.1) ∧ ty_ cI cy L t u.1 ∧ u.2.1 = n) (fun u s' => va_P (dC, dI) vwCl (xo_ h0 q u.2.1 u.2.2 ++ va_pl L u.1) s'.heap) A) 0 0 A := by
  refine Met.ofW (cc := cX7_want) (maxL := 4) (ret := (some .boolean)) (by decide) rfl ?_
  intro p e s m args below meth c s₁ B hml hv
  obtain ⟨rfl, hP, hK, hW0⟩ := hv
  have hx := B.exec
  have hb := B.bytes
  have hr := B.returns
  have hts := atoms_spec (ws := wsX7_want) B.pre
  have hown : s.vm.findClass RX7 = some m.cls := findClass_of_methodNamed B.named
  have hlocks := B.notSynchronized
  have hinX7 : ∀ w ∈ u_ws RX7 TX7 14, w ∈ wsX7_want := by decide +kernel
  have hS : va_S A s.heap s.heap [] := va_S.rf
  have hl := lv_entry ([.ref h0, .int a1, .int a2, .int a3]) (n := 4) (Nat.le_of_ble_eq_true rfl)
  rw [lg_entry_eq]
  generalize (lg_sl ([.ref h0, .int a1, .int a2, .int a3]) ++ List.replicate (4 - (lg_sl ([.ref h0, .int a1, .int a2, .int a3])).length) Slot.unset).toArray = ls at hl ⊢
  have hl : lv_has ls 4 [(0, .ref h0), (1, .int a1), (2, .int a2), (3, .int a3)] := hl
  obtain ⟨H, hH, hP, hS⟩ : ∃ H, H = s.heap ∧ va_P (dC, dI) vwCl (xo_ h0 q n dl ++ va_pl L f) H ∧ va_S A s.heap H [] := ⟨_, rfl, hP, hS⟩
  rw [← hH]
  generalize ([] : List Loc) = locs at hS ⊢
  refine lv_iload_n hx hb dX7_want_0 rfl (lv_at hl 1 rfl) ?_
  refine pu_call (va_runS (As := [.int a1]) (rest := []) ⟨hx, hb, hml, hown, hts⟩ (c_X7_isWare l a1) (va_cwS 1 hts gX7_want_X7_isWare rfl rfl rfl (by decide +kernel) ⟨Nat.le_of_ble_eq_true rfl, Nat.le_of_ble_eq_true rfl⟩) pu_preS rfl rfl hl.1 rfl (lv_room (Nat.le_of_ble_eq_true rfl)) dX7_want_1 ⟨Nat.le_of_ble_eq_true rfl, Nat.le_of_ble_eq_true rfl⟩) ?_
  refine lv_if_eq (tgt := 28) hx hb dX7_want_4 (by decide) (fun h_1 => ?_) (fun h_1 => ?_)
  · skip
    refine lv_iconst (v := 0) hx hb dX7_want_28 (by decide) ?_
    exact W.zret (v := 0) hx hb hr rfl (fun t ht hW => ⟨⟨0, (f, n, dl), rfl, ⟨(by simp only [sp_want, if_pos h_1]), hD, hT, rfl⟩, by show va_P (dC, dI) vwCl _ t.heap; rw [ht]; exact hP⟩, hS.F ht⟩) hS.2.2 dX7_want_29
  · skip
    refine lv_iload_n hx hb dX7_want_7 rfl (lv_at hl 2 rfl) ?_
    refine lv_iconst (v := 0) hx hb dX7_want_8 (by decide) ?_
    refine lv_bipush (v := 20) hx hb dX7_want_9 (by decide) ?_
    refine pu_call (va_runS (As := [.int a2, .int 0, .int 20]) (rest := []) ⟨hx, hb, hml, hown, hts⟩ (c_X7_isWithin l a2 0 20) (va_cwS 3 hts gX7_want_X7_isWithin rfl rfl rfl (by decide +kernel) ⟨Nat.le_of_ble_eq_true rfl, Nat.le_of_ble_eq_true rfl⟩) pu_preS rfl rfl hl.1 rfl (lv_room (Nat.le_of_ble_eq_true rfl)) dX7_want_11 ⟨Nat.le_of_ble_eq_true rfl, Nat.le_of_ble_eq_true rfl⟩) ?_
    refine lv_if_eq (tgt := 28) hx hb dX7_want_14 (by decide) (fun h_2 => ?_) (fun h_2 => ?_)
    · skip
      refine lv_iconst (v := 0) hx hb dX7_want_28 (by decide) ?_
      exact W.zret (v := 0) hx hb hr rfl (fun t ht hW => ⟨⟨0, (f, n, dl), rfl, ⟨(by simp only [sp_want, if_neg h_1, if_pos h_2]), hD, hT, rfl⟩, by show va_P (dC, dI) vwCl _ t.heap; rw [ht]; exact hP⟩, hS.F ht⟩) hS.2.2 dX7_want_29
    · skip
      refine lv_iload_n hx hb dX7_want_17 rfl (lv_at hl 3 rfl) ?_
      refine lv_iconst (v := 0) hx hb dX7_want_18 (by decide) ?_
      refine lv_sipush (v := 1000) hx hb dX7_want_19 (by decide) ?_
      refine pu_call (va_runS (As := [.int a3, .int 0, .int 1000]) (rest := []) ⟨hx, hb, hml, hown, hts⟩ (c_X7_isWithin l a3 0 1000) (va_cwS 3 hts gX7_want_X7_isWithin rfl rfl rfl (by decide +kernel) ⟨Nat.le_of_ble_eq_true rfl, Nat.le_of_ble_eq_true rfl⟩) pu_preS rfl rfl hl.1 rfl (lv_room (Nat.le_of_ble_eq_true rfl)) dX7_want_22 ⟨Nat.le_of_ble_eq_true rfl, Nat.le_of_ble_eq_true rfl⟩) ?_
      refine lv_if_ne (tgt := 30) hx hb dX7_want_25 (by decide) (fun h_3 => ?_) (fun h_3 => ?_)
      · skip
        refine lv_aload_n hx hb dX7_want_30 rfl (lv_at hl 0 rfl) ?_
        refine va_get (D := (dC, dI)) (ci := 6) (v := .ref (q 6)) (C := RX7) (T := TX7) (N := 14) hx hb hts hinX7 hown hK hP 0 rfl rfl 5 (by decide) (hts (.fieldLink RX7 38 "FurPosts" "wants" "[[I") (by decide +kernel)) (fun _ h9 => h9) rfl dX7_want_31 ?_
        refine lv_iload_n hx hb dX7_want_34 rfl (lv_at hl 1 rfl) ?_
        obtain ⟨hm4, i4, r4, hi4, he4, k4_0⟩ := at_13 (xo_ h0 q n dl) hT hQ.2.2.2.2.2.1
        refine va_ald2 hx hb hK hP i4 7 he4 rfl (i := a1) (sp_vp h_1 rfl) (b := r4 (Int32.toNatClampNeg a1)) (if_pos (vp_lt (sp_vp h_1 rfl))) dX7_want_35 ?_
        have hr5 := k4_0 (Int32.toNatClampNeg a1) (vp_lt (sp_vp h_1 rfl))
        generalize r4 (Int32.toNatClampNeg a1) = b5 at hr5 ⊢
        refine lv_iload_n hx hb dX7_want_36 rfl (lv_at hl 2 rfl) ?_
        refine lv_iload_n hx hb dX7_want_37 rfl (lv_at hl 3 rfl) ?_
        obtain ⟨hm6, i6, g6, hi6, he6⟩ := at_18 (xo_ h0 q n dl) hT hr5
        refine va_iast hx hb hK hP hD hS i6 0 he6 rfl (i := a2) (sp_vp h_2 rfl) dX7_want_38 (fun H locs hP2 hD2 hS => ?_)
        rw [va_pl_set hD hm6 hi6] at hP2 hD2
        obtain ⟨f, hP, hD, hT⟩ : ∃ f, va_P (dC, dI) vwCl (xo_ h0 q n dl ++ va_pl L f) H ∧ va_D A (xo_ h0 q n dl ++ va_pl L f) ∧ ty_ cI cy L t f := ⟨_, hP2, hD2, ty_set hT hr5 ⟨_, rfl⟩⟩
        refine lv_iconst (v := 1) hx hb dX7_want_39 (by decide) ?_
        exact W.zret (v := 1) hx hb hr rfl (fun t ht hW => ⟨⟨1, (f, n, dl), rfl, ⟨(by simp only [sp_want, if_neg h_1, if_neg h_2, if_neg h_3]), hD, hT, rfl⟩, by show va_P (dC, dI) vwCl _ t.heap; rw [ht]; exact hP⟩, hS.F ht⟩) hS.2.2 dX7_want_40
      · skip
        refine lv_iconst (v := 0) hx hb dX7_want_28 (by decide) ?_
        exact W.zret (v := 0) hx hb hr rfl (fun t ht hW => ⟨⟨0, (f, n, dl), rfl, ⟨(by simp only [sp_want, if_neg h_1, if_neg h_2, if_pos h_3]), hD, hT, rfl⟩, by show va_P (dC, dI) vwCl _ t.heap; rw [ht]; exact hP⟩, hS.F ht⟩) hS.2.2 dX7_want_29

set_option maxHeartbeats 4000000 in
set_option maxRecDepth 100000 in
theorem m_X7_shortenDistances (l : Launch) (dC : Nat → ClassId) (dI : Nat → Nat → Nat) (h0 : Nat) (q n : Nat → Nat) (dl : Int32) (cI : ClassId) (cy : Nat → ClassId) (L : List Nat) (t : Nat → Nat) (f : Nat → va_E) (hT : ty_ cI cy L t f) (hQ : qs_ q t) (hN : nb_ n) (A : Nat → Prop) (hD : va_D A (xo_ h0 q n dl ++ va_pl L f)) (a1 : Int32) (a2 : Int32) (hb0 : vp_in a1 8) (hb1 : vp_in a2 8) : Met l yX7_shortenDistances wsX7_shortenDistances ({ frames := 1, cells := 0, slots := 0, locals := 21 }) (va_Pc [.ref h0, .int a1, .int a2] (pt_P (dC, dI) vwCl (tt_ cI cy) (xo_ h0 q n dl ++ va_pl L f))) (va_Qv (fun u : (Nat → va_E) × (Nat → Nat) × Int32 => va_D A (xo_ h0 q u.2.1 u.2.2 ++ va_pl L u.1) ∧ ty_ cI cy L t u.1 ∧ u.2.1 = n) (fun u s' => va_P (dC, dI) vwCl (xo_ h0 q u.2.1 u.2.2 ++ va_pl L u.1) s'.heap) A) 0 0 A := by
  refine Met.ofW (cc := cX7_shortenDistances) (maxL := 7) (ret := none) (by decide) rfl ?_
  intro p e s m args below meth c s₁ B hml hv
  obtain ⟨rfl, hP, hK, hW0⟩ := hv
  have hx := B.exec
  have hb := B.bytes
  have hr := B.returns
  have hts := atoms_spec (ws := wsX7_shortenDistances) B.pre
  have hown : s.vm.findClass RX7 = some m.cls := findClass_of_methodNamed B.named
  have hlocks := B.notSynchronized
  have hinX7 : ∀ w ∈ u_ws RX7 TX7 14, w ∈ wsX7_shortenDistances := by decide +kernel
  have hS : va_S A s.heap s.heap [] := va_S.rf
  have hl := lv_entry ([.ref h0, .int a1, .int a2]) (n := 7) (Nat.le_of_ble_eq_true rfl)
  rw [lg_entry_eq]
  generalize (lg_sl ([.ref h0, .int a1, .int a2]) ++ List.replicate (7 - (lg_sl ([.ref h0, .int a1, .int a2])).length) Slot.unset).toArray = ls at hl ⊢
  have hl : lv_has ls 7 [(0, .ref h0), (1, .int a1), (2, .int a2)] := hl
  obtain ⟨H, hH, hP, hS⟩ : ∃ H, H = s.heap ∧ va_P (dC, dI) vwCl (xo_ h0 q n dl ++ va_pl L f) H ∧ va_S A s.heap H [] := ⟨_, rfl, hP, hS⟩
  rw [← hH]
  generalize ([] : List Loc) = locs at hS ⊢
  refine lv_iconst (v := 0) hx hb dX7_shortenDistances_0 (by decide) ?_
  refine lv_istore_n (lv' := [(3, .int 0), (0, .ref h0), (1, .int a1), (2, .int a2)]) hx hb dX7_shortenDistances_1 rfl hl (by decide) rfl (fun ls hl => ?_)
  have key2 : ∀ (k j2 : Nat) (f : Nat → va_E) (dl : Int32) (H : Heap) (locs : List Loc) (ls : Array Slot), j2 + k = 8 → va_P (dC, dI) vwCl (xo_ h0 q n dl ++ va_pl L f) H → va_D A (xo_ h0 q n dl ++ va_pl L f) → ty_ cI cy L t f → va_S A s.heap H locs → lv_has ls 7 [(3, .int (nI j2)), (0, .ref h0), (1, .int a1), (2, .int a2)] →
      W p l e (headSpec wsX7_shortenDistances ({ frames := 1, cells := 0, slots := 0, locals := 21 })).room s m [.ref h0, .int a1, .int a2].toArray below meth c H locs 0 0 (MQ below (va_Qv (fun u : (Nat → va_E) × (Nat → Nat) × Int32 => va_D A (xo_ h0 q u.2.1 u.2.2 ++ va_pl L u.1) ∧ ty_ cI cy L t u.1 ∧ u.2.1 = n) (fun u s' => va_P (dC, dI) vwCl (xo_ h0 q u.2.1 u.2.2 ++ va_pl L u.1) s'.heap) A) [.ref h0, .int a1, .int a2].toArray s 0 0 A) (F0 m 2 ls []) := by
    intro k
    induction k with
    | zero =>
      intro j2 f dl H locs ls hj hP hD hT hS hl
      have hj : j2 = 8 := by omega
      subst j2
      refine lv_iload_n hx hb dX7_shortenDistances_2 rfl (lv_at hl 0 rfl) ?_
      refine lv_bipush (v := 8) hx hb dX7_shortenDistances_3 (by decide) ?_
      refine lv_icmp_ge (tgt := 102) hx hb dX7_shortenDistances_5 (by decide) (fun h_1 => ?_) (fun h_1 => absurd (lp_ge0 (B := 8) rfl) h_1)
      exact W.vret hx hb hr (fun t ht hW => ⟨⟨(f, n, dl), rfl, ⟨hD, hT, rfl⟩, by show va_P (dC, dI) vwCl _ t.heap; rw [ht]; exact hP⟩, hS.F ht⟩) hS.2.2 dX7_shortenDistances_102
    | succ k ih2 =>
      intro j2 f dl H locs ls hj hP hD hT hS hl
      have hj2 : j2 < 8 := by omega
      refine lv_iload_n hx hb dX7_shortenDistances_2 rfl (lv_at hl 0 rfl) ?_
      refine lv_bipush (v := 8) hx hb dX7_shortenDistances_3 (by decide) ?_
      refine lv_icmp_ge (tgt := 102) hx hb dX7_shortenDistances_5 (by decide) (fun h_2 => absurd h_2 (lp_ge (B := 8) (by omega) (by omega) rfl)) (fun h_2 => ?_)
      refine lv_iconst (v := 0) hx hb dX7_shortenDistances_8 (by decide) ?_
      refine lv_istore (lv' := [(4, .int 0), (3, .int (nI j2)), (0, .ref h0), (1, .int a1), (2, .int a2)]) hx hb dX7_shortenDistances_9 hl (by decide) rfl (fun ls hl => ?_)
      have key11 : ∀ (k j11 : Nat) (f : Nat → va_E) (dl : Int32) (H : Heap) (locs : List Loc) (ls : Array Slot), j11 + k = 8 → va_P (dC, dI) vwCl (xo_ h0 q n dl ++ va_pl L f) H → va_D A (xo_ h0 q n dl ++ va_pl L f) → ty_ cI cy L t f → va_S A s.heap H locs → lv_has ls 7 [(4, .int (nI j11)), (3, .int (nI j2)), (0, .ref h0), (1, .int a1), (2, .int a2)] →
          W p l e (headSpec wsX7_shortenDistances ({ frames := 1, cells := 0, slots := 0, locals := 21 })).room s m [.ref h0, .int a1, .int a2].toArray below meth c H locs 0 0 (MQ below (va_Qv (fun u : (Nat → va_E) × (Nat → Nat) × Int32 => va_D A (xo_ h0 q u.2.1 u.2.2 ++ va_pl L u.1) ∧ ty_ cI cy L t u.1 ∧ u.2.1 = n) (fun u s' => va_P (dC, dI) vwCl (xo_ h0 q u.2.1 u.2.2 ++ va_pl L u.1) s'.heap) A) [.ref h0, .int a1, .int a2].toArray s 0 0 A) (F0 m 11 ls []) := by
        intro k
        induction k with
        | zero =>
          intro j11 f dl H locs ls hj hP hD hT hS hl
          have hj : j11 = 8 := by omega
          subst j11
          refine lv_iload hx hb dX7_shortenDistances_11 (lv_at hl 0 rfl) ?_
          refine lv_bipush (v := 8) hx hb dX7_shortenDistances_13 (by decide) ?_
          refine lv_icmp_ge (tgt := 96) hx hb dX7_shortenDistances_15 (by decide) (fun h_3 => ?_) (fun h_3 => absurd (lp_ge0 (B := 8) rfl) h_3)
          refine lv_iinc (v := (nI (j2 + 1))) (lv' := [(3, .int (nI (j2 + 1))), (4, .int (nI 8)), (0, .ref h0), (1, .int a1), (2, .int a2)]) hx hb dX7_shortenDistances_96 hl (k := 1) rfl (show nI j2 + 1 = nI (j2 + 1) from nI_1 j2) (by decide) rfl (fun ls hl => ?_)
          refine lv_goto (tgt := 2) hx hb dX7_shortenDistances_99 (by decide) ?_
          exact ih2 (j2 + 1) f dl H locs ls (by omega) hP hD hT hS (lv_sub hl [0, 2, 3, 4] rfl)
        | succ k ih11 =>
          intro j11 f dl H locs ls hj hP hD hT hS hl
          have hj11 : j11 < 8 := by omega
          refine lv_iload hx hb dX7_shortenDistances_11 (lv_at hl 0 rfl) ?_
          refine lv_bipush (v := 8) hx hb dX7_shortenDistances_13 (by decide) ?_
          refine lv_icmp_ge (tgt := 96) hx hb dX7_shortenDistances_15 (by decide) (fun h_4 => absurd h_4 (lp_ge (B := 8) (by omega) (by omega) rfl)) (fun h_4 => ?_)
          refine lv_aload_n hx hb dX7_shortenDistances_18 rfl (lv_at hl 2 rfl) ?_
          refine va_get (D := (dC, dI)) (ci := 6) (v := .ref (q 5)) (C := RX7) (T := TX7) (N := 14) hx hb hts hinX7 hown hK hP 0 rfl rfl 4 (by decide) (hts (.fieldLink RX7 35 "FurPosts" "distances" "[[I") (by decide +kernel)) (fun _ h9 => h9) rfl dX7_shortenDistances_19 ?_
          refine lv_iload_n hx hb dX7_shortenDistances_22 rfl (lv_at hl 1 rfl) ?_
          obtain ⟨hm5, i5, r5, hi5, he5, k5_0⟩ := at_12 (xo_ h0 q n dl) hT hQ.2.2.2.2.1
          refine va_ald2 hx hb hK hP i5 6 he5 rfl (i := (nI j2)) (vp_in_nI (show j2 < 8 by omega) (by decide)) (b := r5 (Int32.toNatClampNeg (nI j2))) (if_pos (vp_lt (vp_in_nI (show j2 < 8 by omega) (by decide)))) dX7_shortenDistances_23 ?_
          have hr6 := k5_0 (Int32.toNatClampNeg (nI j2)) (vp_lt (vp_in_nI (show j2 < 8 by omega) (by decide)))
          generalize r5 (Int32.toNatClampNeg (nI j2)) = b6 at hr6 ⊢
          refine lv_iload_n hx hb dX7_shortenDistances_24 rfl (lv_at hl 3 rfl) ?_
          obtain ⟨hm7, i7, g7, hi7, he7⟩ := at_16 (xo_ h0 q n dl) hT hr6
          refine va_iald hx hb hK hP i7 0 he7 rfl (i := a1) hb0 dX7_shortenDistances_25 ?_
          refine lv_topi (fun v8 _ => ?_)
          refine lv_iconst (v := 1) hx hb dX7_shortenDistances_26 (by decide) ?_
          refine lv_iadd hx hb dX7_shortenDistances_27 ?_
          refine lv_topi (fun v9 _ => ?_)
          refine lv_aload_n hx hb dX7_shortenDistances_28 rfl (lv_at hl 2 rfl) ?_
          refine va_get (D := (dC, dI)) (ci := 6) (v := .ref (q 5)) (C := RX7) (T := TX7) (N := 14) hx hb hts hinX7 hown hK hP 0 rfl rfl 4 (by decide) (hts (.fieldLink RX7 35 "FurPosts" "distances" "[[I") (by decide +kernel)) (fun _ h9 => h9) rfl dX7_shortenDistances_29 ?_
          refine lv_iload_n hx hb dX7_shortenDistances_32 rfl (lv_at hl 4 rfl) ?_
          refine va_ald2 hx hb hK hP i5 6 he5 rfl (i := a2) hb1 (b := r5 (Int32.toNatClampNeg a2)) (if_pos (vp_lt hb1)) dX7_shortenDistances_33 ?_
          have hr10 := k5_0 (Int32.toNatClampNeg a2) (vp_lt hb1)
          generalize r5 (Int32.toNatClampNeg a2) = b10 at hr10 ⊢
          refine lv_iload hx hb dX7_shortenDistances_34 (lv_at hl 0 rfl) ?_
          obtain ⟨hm11, i11, g11, hi11, he11⟩ := at_16 (xo_ h0 q n dl) hT hr10
          refine va_iald hx hb hK hP i11 0 he11 rfl (i := (nI j11)) (vp_in_nI (show j11 < 8 by omega) (by decide)) dX7_shortenDistances_36 ?_
          refine lv_topi (fun v12 _ => ?_)
          refine lv_iadd hx hb dX7_shortenDistances_37 ?_
          refine lv_topi (fun v13 _ => ?_)
          refine lv_istore (lv' := [(5, .int v13), (4, .int (nI j11)), (3, .int (nI j2)), (0, .ref h0), (1, .int a1), (2, .int a2)]) hx hb dX7_shortenDistances_38 hl (by decide) rfl (fun ls hl => ?_)
          refine lv_aload_n hx hb dX7_shortenDistances_40 rfl (lv_at hl 3 rfl) ?_
          refine va_get (D := (dC, dI)) (ci := 6) (v := .ref (q 5)) (C := RX7) (T := TX7) (N := 14) hx hb hts hinX7 hown hK hP 0 rfl rfl 4 (by decide) (hts (.fieldLink RX7 35 "FurPosts" "distances" "[[I") (by decide +kernel)) (fun _ h9 => h9) rfl dX7_shortenDistances_41 ?_
          refine lv_iload_n hx hb dX7_shortenDistances_44 rfl (lv_at hl 2 rfl) ?_
          refine va_ald2 hx hb hK hP i5 6 he5 rfl (i := (nI j2)) (vp_in_nI (show j2 < 8 by omega) (by decide)) (b := r5 (Int32.toNatClampNeg (nI j2))) (if_pos (vp_lt (vp_in_nI (show j2 < 8 by omega) (by decide)))) dX7_shortenDistances_45 ?_
          have hr14 := k5_0 (Int32.toNatClampNeg (nI j2)) (vp_lt (vp_in_nI (show j2 < 8 by omega) (by decide)))
          generalize r5 (Int32.toNatClampNeg (nI j2)) = b14 at hr14 ⊢
          refine lv_iload_n hx hb dX7_shortenDistances_46 rfl (lv_at hl 5 rfl) ?_
          obtain ⟨hm15, i15, g15, hi15, he15⟩ := at_16 (xo_ h0 q n dl) hT hr14
          refine va_iald hx hb hK hP i15 0 he15 rfl (i := a2) hb1 dX7_shortenDistances_47 ?_
          refine lv_topi (fun v16 _ => ?_)
          refine lv_iconst (v := 1) hx hb dX7_shortenDistances_48 (by decide) ?_
          refine lv_iadd hx hb dX7_shortenDistances_49 ?_
          refine lv_topi (fun v17 _ => ?_)
          refine lv_aload_n hx hb dX7_shortenDistances_50 rfl (lv_at hl 3 rfl) ?_
          refine va_get (D := (dC, dI)) (ci := 6) (v := .ref (q 5)) (C := RX7) (T := TX7) (N := 14) hx hb hts hinX7 hown hK hP 0 rfl rfl 4 (by decide) (hts (.fieldLink RX7 35 "FurPosts" "distances" "[[I") (by decide +kernel)) (fun _ h9 => h9) rfl dX7_shortenDistances_51 ?_
          refine lv_iload_n hx hb dX7_shortenDistances_54 rfl (lv_at hl 4 rfl) ?_
          refine va_ald2 hx hb hK hP i5 6 he5 rfl (i := a1) hb0 (b := r5 (Int32.toNatClampNeg a1)) (if_pos (vp_lt hb0)) dX7_shortenDistances_55 ?_
          have hr18 := k5_0 (Int32.toNatClampNeg a1) (vp_lt hb0)
          generalize r5 (Int32.toNatClampNeg a1) = b18 at hr18 ⊢
          refine lv_iload hx hb dX7_shortenDistances_56 (lv_at hl 1 rfl) ?_
          obtain ⟨hm19, i19, g19, hi19, he19⟩ := at_16 (xo_ h0 q n dl) hT hr18
          refine va_iald hx hb hK hP i19 0 he19 rfl (i := (nI j11)) (vp_in_nI (show j11 < 8 by omega) (by decide)) dX7_shortenDistances_58 ?_
          refine lv_topi (fun v20 _ => ?_)
          refine lv_iadd hx hb dX7_shortenDistances_59 ?_
          refine lv_topi (fun v21 _ => ?_)
          refine lv_istore (lv' := [(6, .int v21), (5, .int v13), (4, .int (nI j11)), (3, .int (nI j2)), (0, .ref h0), (1, .int a1), (2, .int a2)]) hx hb dX7_shortenDistances_60 hl (by decide) rfl (fun ls hl => ?_)
          refine lv_aload_n hx hb dX7_shortenDistances_62 rfl (lv_at hl 4 rfl) ?_
          refine va_get (D := (dC, dI)) (ci := 6) (v := .ref (q 5)) (C := RX7) (T := TX7) (N := 14) hx hb hts hinX7 hown hK hP 0 rfl rfl 4 (by decide) (hts (.fieldLink RX7 35 "FurPosts" "distances" "[[I") (by decide +kernel)) (fun _ h9 => h9) rfl dX7_shortenDistances_63 ?_
          refine lv_iload_n hx hb dX7_shortenDistances_66 rfl (lv_at hl 3 rfl) ?_
          refine va_ald2 hx hb hK hP i5 6 he5 rfl (i := (nI j2)) (vp_in_nI (show j2 < 8 by omega) (by decide)) (b := r5 (Int32.toNatClampNeg (nI j2))) (if_pos (vp_lt (vp_in_nI (show j2 < 8 by omega) (by decide)))) dX7_shortenDistances_67 ?_
          have hr22 := k5_0 (Int32.toNatClampNeg (nI j2)) (vp_lt (vp_in_nI (show j2 < 8 by omega) (by decide)))
          generalize r5 (Int32.toNatClampNeg (nI j2)) = b22 at hr22 ⊢
          refine lv_iload hx hb dX7_shortenDistances_68 (lv_at hl 2 rfl) ?_
          refine lv_aload_n hx hb dX7_shortenDistances_70 rfl (lv_at hl 4 rfl) ?_
          refine va_get (D := (dC, dI)) (ci := 6) (v := .ref (q 5)) (C := RX7) (T := TX7) (N := 14) hx hb hts hinX7 hown hK hP 0 rfl rfl 4 (by decide) (hts (.fieldLink RX7 35 "FurPosts" "distances" "[[I") (by decide +kernel)) (fun _ h9 => h9) rfl dX7_shortenDistances_71 ?_
          refine lv_iload_n hx hb dX7_shortenDistances_74 rfl (lv_at hl 3 rfl) ?_
          refine va_ald2 hx hb hK hP i5 6 he5 rfl (i := (nI j2)) (vp_in_nI (show j2 < 8 by omega) (by decide)) (b := r5 (Int32.toNatClampNeg (nI j2))) (if_pos (vp_lt (vp_in_nI (show j2 < 8 by omega) (by decide)))) dX7_shortenDistances_75 ?_
          have hr23 := k5_0 (Int32.toNatClampNeg (nI j2)) (vp_lt (vp_in_nI (show j2 < 8 by omega) (by decide)))
          generalize r5 (Int32.toNatClampNeg (nI j2)) = b23 at hr23 ⊢
          refine lv_iload hx hb dX7_shortenDistances_76 (lv_at hl 2 rfl) ?_
          obtain ⟨hm24, i24, g24, hi24, he24⟩ := at_16 (xo_ h0 q n dl) hT hr23
          refine va_iald hx hb hK hP i24 0 he24 rfl (i := (nI j11)) (vp_in_nI (show j11 < 8 by omega) (by decide)) dX7_shortenDistances_78 ?_
          refine lv_topi (fun v25 _ => ?_)
          refine lv_iload hx hb dX7_shortenDistances_79 (lv_at hl 1 rfl) ?_
          refine lv_iload hx hb dX7_shortenDistances_81 (lv_at hl 0 rfl) ?_
          refine va_mmin hx hb (hml.trans hl.1.symm) hown (hts (.methodLink RX7 78 Lib.Math.min.name) (by decide +kernel)) (hts (.static Lib.Math.min.name) (by decide +kernel)) (hts (.initialized "java/lang/Math") (by decide +kernel)) (hts (.code Lib.Math.min.name Lib.Math.min.code 2 (some .int)) (by decide +kernel)) (Nat.le_of_ble_eq_true rfl) (Nat.le_of_ble_eq_true rfl) (Nat.le_of_ble_eq_true rfl) (Nat.le_of_ble_eq_true rfl) dX7_shortenDistances_83 ?_
          refine lv_topi (fun v26 _ => ?_)
          refine va_mmin hx hb (hml.trans hl.1.symm) hown (hts (.methodLink RX7 78 Lib.Math.min.name) (by decide +kernel)) (hts (.static Lib.Math.min.name) (by decide +kernel)) (hts (.initialized "java/lang/Math") (by decide +kernel)) (hts (.code Lib.Math.min.name Lib.Math.min.code 2 (some .int)) (by decide +kernel)) (Nat.le_of_ble_eq_true rfl) (Nat.le_of_ble_eq_true rfl) (Nat.le_of_ble_eq_true rfl) (Nat.le_of_ble_eq_true rfl) dX7_shortenDistances_86 ?_
          refine lv_topi (fun v27 _ => ?_)
          obtain ⟨hm28, i28, g28, hi28, he28⟩ := at_16 (xo_ h0 q n dl) hT hr22
          refine va_iast hx hb hK hP hD hS i28 0 he28 rfl (i := (nI j11)) (vp_in_nI (show j11 < 8 by omega) (by decide)) dX7_shortenDistances_89 (fun H locs hP2 hD2 hS => ?_)
          rw [va_pl_set hD hm28 hi28] at hP2 hD2
          obtain ⟨f, hP, hD, hT⟩ : ∃ f, va_P (dC, dI) vwCl (xo_ h0 q n dl ++ va_pl L f) H ∧ va_D A (xo_ h0 q n dl ++ va_pl L f) ∧ ty_ cI cy L t f := ⟨_, hP2, hD2, ty_set hT hr22 ⟨_, rfl⟩⟩
          refine lv_iinc (v := (nI (j11 + 1))) (lv' := [(4, .int (nI (j11 + 1))), (6, .int v21), (5, .int v13), (3, .int (nI j2)), (0, .ref h0), (1, .int a1), (2, .int a2)]) hx hb dX7_shortenDistances_90 hl (k := 2) rfl (show nI j11 + 1 = nI (j11 + 1) from nI_1 j11) (by decide) rfl (fun ls hl => ?_)
          refine lv_goto (tgt := 11) hx hb dX7_shortenDistances_93 (by decide) ?_
          exact ih11 (j11 + 1) f dl H locs ls (by omega) hP hD hT hS (lv_sub hl [0, 3, 4, 5, 6] rfl)
      exact key11 8 0 f dl H locs ls (by omega) hP hD hT hS (lv_sub hl [0, 1, 2, 3, 4] rfl)
  exact key2 8 0 f dl H locs ls (by omega) hP hD hT hS (lv_sub hl [0, 1, 2, 3] rfl)

set_option maxHeartbeats 4000000 in
set_option maxRecDepth 100000 in
theorem m_X7_landCanoe (l : Launch) (dC : Nat → ClassId) (dI : Nat → Nat → Nat) (h0 : Nat) (q n : Nat → Nat) (dl : Int32) (cI : ClassId) (cy : Nat → ClassId) (L : List Nat) (t : Nat → Nat) (f : Nat → va_E) (hT : ty_ cI cy L t f) (hQ : qs_ q t) (hN : nb_ n) (A : Nat → Prop) (hD : va_D A (xo_ h0 q n dl ++ va_pl L f)) (a1 : Nat) (ka1 : t a1 = 3) (a2 : Nat) (ka2 : t a2 = 1) : Met l yX7_landCanoe wsX7_landCanoe ({ frames := 0, cells := 0, slots := 0, locals := 0 }) (va_Pc [.ref h0, .ref a1, .ref a2] (pt_P (dC, dI) vwCl (tt_ cI cy) (xo_ h0 q n dl ++ va_pl L f))) (va_Qv (fun u : (Nat → va_E) × (Nat → Nat) × Int32 => va_D A (xo_ h0 q u.2.1 u.2.2 ++ va_pl L u.1) ∧ ty_ cI cy L t u.1 ∧ u.2.1 = n) (fun u s' => va_P (dC, dI) vwCl (xo_ h0 q u.2.1 u.2.2 ++ va_pl L u.1) s'.heap) A) 0 0 A := by
  refine Met.ofW (cc := cX7_landCanoe) (maxL := 4) (ret := none) (by decide) rfl ?_
  intro p e s m args below meth c s₁ B hml hv
  obtain ⟨rfl, hP, hK, hW0⟩ := hv
  have hx := B.exec
  have hb := B.bytes
  have hr := B.returns
  have hts := atoms_spec (ws := wsX7_landCanoe) B.pre
  have hown : s.vm.findClass RX7 = some m.cls := findClass_of_methodNamed B.named
  have hlocks := B.notSynchronized
  have hinX0 : ∀ w ∈ u_ws RX0 TX0 11, w ∈ wsX7_landCanoe := by decide +kernel
  have hinX4 : ∀ w ∈ u_ws RX4 TX4 4, w ∈ wsX7_landCanoe := by decide +kernel
  have hinX7 : ∀ w ∈ u_ws RX7 TX7 14, w ∈ wsX7_landCanoe := by decide +kernel
  have hS : va_S A s.heap s.heap [] := va_S.rf
  have hl := lv_entry ([.ref h0, .ref a1, .ref a2]) (n := 4) (Nat.le_of_ble_eq_true rfl)
  rw [lg_entry_eq]
  generalize (lg_sl ([.ref h0, .ref a1, .ref a2]) ++ List.replicate (4 - (lg_sl ([.ref h0, .ref a1, .ref a2])).length) Slot.unset).toArray = ls at hl ⊢
  have hl : lv_has ls 4 [(0, .ref h0), (1, .ref a1), (2, .ref a2)] := hl
  obtain ⟨H, hH, hP, hS⟩ : ∃ H, H = s.heap ∧ va_P (dC, dI) vwCl (xo_ h0 q n dl ++ va_pl L f) H ∧ va_S A s.heap H [] := ⟨_, rfl, hP, hS⟩
  rw [← hH]
  generalize ([] : List Loc) = locs at hS ⊢
  refine lv_aload_n hx hb dX7_landCanoe_0 rfl (lv_at hl 1 rfl) ?_
  refine lv_iconst (v := 1) hx hb dX7_landCanoe_1 (by decide) ?_
  obtain ⟨hm1, i1, g1, s1, w1, hi1, he1, k1_0, k1_1⟩ := at_3 (xo_ h0 q n dl) hT ka1
  refine va_put (D := (dC, dI)) (ci := 0) (v := .int 1) (ty := .int) (C := RX0) (T := TX0) (N := 11) hx hb hts hinX0 tyX0 tyX0_ok nmX0 hown hK hP hD hS i1 he1 rfl 9 (by decide) (hts (.fieldLink RX7 142 "FurPosts$Canoe" "state" "I") (by decide +kernel)) (fun _ h9 => h9) rfl (by decide +kernel) rfl rfl (Nat.le_of_ble_eq_true rfl) dX7_landCanoe_2 (fun H locs hP2 hD2 hS => ?_)
  rw [va_pl_set hD hm1 hi1] at hP2 hD2
  obtain ⟨f, hP, hD, hT⟩ : ∃ f, va_P (dC, dI) vwCl (xo_ h0 q n dl ++ va_pl L f) H ∧ va_D A (xo_ h0 q n dl ++ va_pl L f) ∧ ty_ cI cy L t f := ⟨_, hP2, hD2, ty_set hT ka1 ⟨va_up g1 9 1, s1, w1, rfl, k1_0, k1_1⟩⟩
  refine lv_aload_n hx hb dX7_landCanoe_5 rfl (lv_at hl 1 rfl) ?_
  refine lv_aload_n hx hb dX7_landCanoe_6 rfl (lv_at hl 0 rfl) ?_
  refine va_get (D := (dC, dI)) (ci := 6) (v := .int (nI (n 0))) (C := RX7) (T := TX7) (N := 14) hx hb hts hinX7 hown hK hP 0 rfl rfl 8 (by decide) (hts (.fieldLink RX7 103 "FurPosts" "now" "I") (by decide +kernel)) (fun _ h9 => h9) rfl dX7_landCanoe_7 ?_
  obtain ⟨hm2, i2, g2, s2, w2, hi2, he2, k2_0, k2_1⟩ := at_3 (xo_ h0 q n dl) hT ka1
  refine va_put (D := (dC, dI)) (ci := 0) (v := .int (nI (n 0))) (ty := .int) (C := RX0) (T := TX0) (N := 11) hx hb hts hinX0 tyX0 tyX0_ok nmX0 hown hK hP hD hS i2 he2 rfl 8 (by decide) (hts (.fieldLink RX7 204 "FurPosts$Canoe" "dayCame" "I") (by decide +kernel)) (fun _ h9 => h9) rfl (by decide +kernel) rfl rfl (Nat.le_of_ble_eq_true rfl) dX7_landCanoe_10 (fun H locs hP2 hD2 hS => ?_)
  rw [va_pl_set hD hm2 hi2] at hP2 hD2
  obtain ⟨f, hP, hD, hT⟩ : ∃ f, va_P (dC, dI) vwCl (xo_ h0 q n dl ++ va_pl L f) H ∧ va_D A (xo_ h0 q n dl ++ va_pl L f) ∧ ty_ cI cy L t f := ⟨_, hP2, hD2, ty_set hT ka1 ⟨va_up g2 8 (nI (n 0)), s2, w2, rfl, k2_0, k2_1⟩⟩
  refine lv_iconst (v := 0) hx hb dX7_landCanoe_13 (by decide) ?_
  refine lv_istore_n (lv' := [(3, .int 0), (0, .ref h0), (1, .ref a1), (2, .ref a2)]) hx hb dX7_landCanoe_14 rfl hl (by decide) rfl (fun ls hl => ?_)
  have key15 : ∀ (k j15 : Nat) (f : Nat → va_E) (dl : Int32) (H : Heap) (locs : List Loc) (ls : Array Slot), j15 + k = 6 → va_P (dC, dI) vwCl (xo_ h0 q n dl ++ va_pl L f) H → va_D A (xo_ h0 q n dl ++ va_pl L f) → ty_ cI cy L t f → va_S A s.heap H locs → lv_has ls 4 [(3, .int (nI j15)), (0, .ref h0), (1, .ref a1), (2, .ref a2)] →
      W p l e (headSpec wsX7_landCanoe ({ frames := 0, cells := 0, slots := 0, locals := 0 })).room s m [.ref h0, .ref a1, .ref a2].toArray below meth c H locs 0 0 (MQ below (va_Qv (fun u : (Nat → va_E) × (Nat → Nat) × Int32 => va_D A (xo_ h0 q u.2.1 u.2.2 ++ va_pl L u.1) ∧ ty_ cI cy L t u.1 ∧ u.2.1 = n) (fun u s' => va_P (dC, dI) vwCl (xo_ h0 q u.2.1 u.2.2 ++ va_pl L u.1) s'.heap) A) [.ref h0, .ref a1, .ref a2].toArray s 0 0 A) (F0 m 15 ls []) := by
    intro k
    induction k with
    | zero =>
      intro j15 f dl H locs ls hj hP hD hT hS hl
      have hj : j15 = 6 := by omega
      subst j15
      refine lv_iload_n hx hb dX7_landCanoe_15 rfl (lv_at hl 0 rfl) ?_
      refine lv_bipush (v := 6) hx hb dX7_landCanoe_16 (by decide) ?_
      refine lv_icmp_ge (tgt := 49) hx hb dX7_landCanoe_18 (by decide) (fun h_3 => ?_) (fun h_3 => absurd (lp_ge0 (B := 6) rfl) h_3)
      exact W.vret hx hb hr (fun t ht hW => ⟨⟨(f, n, dl), rfl, ⟨hD, hT, rfl⟩, by show va_P (dC, dI) vwCl _ t.heap; rw [ht]; exact hP⟩, hS.F ht⟩) hS.2.2 dX7_landCanoe_49
    | succ k ih15 =>
      intro j15 f dl H locs ls hj hP hD hT hS hl
      have hj15 : j15 < 6 := by omega
      refine lv_iload_n hx hb dX7_landCanoe_15 rfl (lv_at hl 0 rfl) ?_
      refine lv_bipush (v := 6) hx hb dX7_landCanoe_16 (by decide) ?_
      refine lv_icmp_ge (tgt := 49) hx hb dX7_landCanoe_18 (by decide) (fun h_4 => absurd h_4 (lp_ge (B := 6) (by omega) (by omega) rfl)) (fun h_4 => ?_)
      refine lv_aload_n hx hb dX7_landCanoe_21 rfl (lv_at hl 3 rfl) ?_
      obtain ⟨hm5, i5, s5, p5, o5, r5, hi5, he5, k5_0, k5_1, k5_2, k5_3⟩ := at_1 (xo_ h0 q n dl) hT ka2
      refine va_get (D := (dC, dI)) (ci := 3) (v := .ref s5) (C := RX4) (T := TX4) (N := 4) hx hb hts hinX4 hown hK hP i5 he5 rfl 0 (by decide) (hts (.fieldLink RX7 92 "FurPosts$Post" "stock" "[I") (by decide +kernel)) (fun _ h9 => h9) rfl dX7_landCanoe_22 ?_
      refine lv_iload_n hx hb dX7_landCanoe_25 rfl (lv_at hl 0 rfl) ?_
      refine lv_dup2_11 hx hb dX7_landCanoe_26 rfl rfl ?_
      obtain ⟨hm6, i6, g6, hi6, he6⟩ := at_15 (xo_ h0 q n dl) hT k5_0
      refine va_iald hx hb hK hP i6 0 he6 rfl (i := (nI j15)) (vp_in_nI (show j15 < 6 by omega) (by decide)) dX7_landCanoe_27 ?_
      refine lv_topi (fun v7 _ => ?_)
      refine lv_aload_n hx hb dX7_landCanoe_28 rfl (lv_at hl 2 rfl) ?_
      obtain ⟨hm8, i8, g8, s8, w8, hi8, he8, k8_0, k8_1⟩ := at_3 (xo_ h0 q n dl) hT ka1
      refine va_get (D := (dC, dI)) (ci := 0) (v := .ref w8) (C := RX0) (T := TX0) (N := 11) hx hb hts hinX0 hown hK hP i8 he8 rfl 5 (by decide) (hts (.fieldLink RX7 148 "FurPosts$Canoe" "wares" "[I") (by decide +kernel)) (fun _ h9 => h9) rfl dX7_landCanoe_29 ?_
      refine lv_iload_n hx hb dX7_landCanoe_32 rfl (lv_at hl 0 rfl) ?_
      obtain ⟨hm9, i9, g9, hi9, he9⟩ := at_15 (xo_ h0 q n dl) hT k8_1
      refine va_iald hx hb hK hP i9 0 he9 rfl (i := (nI j15)) (vp_in_nI (show j15 < 6 by omega) (by decide)) dX7_landCanoe_33 ?_
      refine lv_topi (fun v10 _ => ?_)
      refine lv_iadd hx hb dX7_landCanoe_34 ?_
      refine lv_topi (fun v11 _ => ?_)
      refine va_iast hx hb hK hP hD hS i6 0 he6 rfl (i := (nI j15)) (vp_in_nI (show j15 < 6 by omega) (by decide)) dX7_landCanoe_35 (fun H locs hP2 hD2 hS => ?_)
      rw [va_pl_set hD hm6 hi6] at hP2 hD2
      obtain ⟨f, hP, hD, hT⟩ : ∃ f, va_P (dC, dI) vwCl (xo_ h0 q n dl ++ va_pl L f) H ∧ va_D A (xo_ h0 q n dl ++ va_pl L f) ∧ ty_ cI cy L t f := ⟨_, hP2, hD2, ty_set hT k5_0 ⟨_, rfl⟩⟩
      refine lv_aload_n hx hb dX7_landCanoe_36 rfl (lv_at hl 2 rfl) ?_
      obtain ⟨hm12, i12, g12, s12, w12, hi12, he12, k12_0, k12_1⟩ := at_3 (xo_ h0 q n dl) hT ka1
      refine va_get (D := (dC, dI)) (ci := 0) (v := .ref w12) (C := RX0) (T := TX0) (N := 11) hx hb hts hinX0 hown hK hP i12 he12 rfl 5 (by decide) (hts (.fieldLink RX7 148 "FurPosts$Canoe" "wares" "[I") (by decide +kernel)) (fun _ h9 => h9) rfl dX7_landCanoe_37 ?_
      refine lv_iload_n hx hb dX7_landCanoe_40 rfl (lv_at hl 0 rfl) ?_
      refine lv_iconst (v := 0) hx hb dX7_landCanoe_41 (by decide) ?_
      obtain ⟨hm13, i13, g13, hi13, he13⟩ := at_15 (xo_ h0 q n dl) hT k12_1
      refine va_iast hx hb hK hP hD hS i13 0 he13 rfl (i := (nI j15)) (vp_in_nI (show j15 < 6 by omega) (by decide)) dX7_landCanoe_42 (fun H locs hP2 hD2 hS => ?_)
      rw [va_pl_set hD hm13 hi13] at hP2 hD2
      obtain ⟨f, hP, hD, hT⟩ : ∃ f, va_P (dC, dI) vwCl (xo_ h0 q n dl ++ va_pl L f) H ∧ va_D A (xo_ h0 q n dl ++ va_pl L f) ∧ ty_ cI cy L t f := ⟨_, hP2, hD2, ty_set hT k12_1 ⟨_, rfl⟩⟩
      refine lv_iinc (v := (nI (j15 + 1))) (lv' := [(3, .int (nI (j15 + 1))), (0, .ref h0), (1, .ref a1), (2, .ref a2)]) hx hb dX7_landCanoe_43 hl (k := 0) rfl (show nI j15 + 1 = nI (j15 + 1) from nI_1 j15) (by decide) rfl (fun ls hl => ?_)
      refine lv_goto (tgt := 15) hx hb dX7_landCanoe_46 (by decide) ?_
      exact ih15 (j15 + 1) f dl H locs ls (by omega) hP hD hT hS (lv_sub hl [0, 1, 2, 3] rfl)
  exact key15 6 0 f dl H locs ls (by omega) hP hD hT hS (lv_sub hl [0, 1, 2, 3] rfl)

set_option maxHeartbeats 4000000 in
set_option maxRecDepth 100000 in
theorem m_X3_readAt (l : Launch) (dC : Nat → ClassId) (dI : Nat → Nat → Nat) (h0 : Nat) (q n : Nat → Nat) (dl : Int32) (cI : ClassId) (cy : Nat → ClassId) (L : List Nat) (t : Nat → Nat) (f : Nat → va_E) (hT : ty_ cI cy L t f) (hQ : qs_ q t) (hN : nb_ n) (A : Nat → Prop) (hD : va_D A (xo_ h0 q n dl ++ va_pl L f)) (a0 : Nat) (ka0 : t a0 = 4) (a1 : Nat) (ka1 : t a1 = 1) : Met l yX3_readAt wsX3_readAt ({ frames := 1, cells := 0, slots := 0, locals := 20 }) (va_Pc [.ref a0, .ref a1] (pt_P (dC, dI) vwCl (tt_ cI cy) (xo_ h0 q n dl ++ va_pl L f))) (va_Qv (fun u : (Nat → va_E) × (Nat → Nat) × Int32 => va_D A (xo_ h0 q u.2.1 u.2.2 ++ va_pl L u.1) ∧ ty_ cI cy L t u.1 ∧ u.2.1 = n) (fun u s' => va_P (dC, dI) vwCl (xo_ h0 q u.2.1 u.2.2 ++ va_pl L u.1) s'.heap) A) 0 0 A := by
  refine Met.ofW (cc := cX3_readAt) (maxL := 2) (ret := none) (by decide) rfl ?_
  intro p e s m args below meth c s₁ B hml hv
  obtain ⟨rfl, hP, hK, hW0⟩ := hv
  have hx := B.exec
  have hb := B.bytes
  have hr := B.returns
  have hts := atoms_spec (ws := wsX3_readAt) B.pre
  have hown : s.vm.findClass RX3 = some m.cls := findClass_of_methodNamed B.named
  have hlocks := B.notSynchronized
  have hinX3 : ∀ w ∈ u_ws RX3 TX3 6, w ∈ wsX3_readAt := by decide +kernel
  have hinX4 : ∀ w ∈ u_ws RX4 TX4 4, w ∈ wsX3_readAt := by decide +kernel
  have hS : va_S A s.heap s.heap [] := va_S.rf
  have hl := lv_entry ([.ref a0, .ref a1]) (n := 2) (Nat.le_of_ble_eq_true rfl)
  rw [lg_entry_eq]
  generalize (lg_sl ([.ref a0, .ref a1]) ++ List.replicate (2 - (lg_sl ([.ref a0, .ref a1])).length) Slot.unset).toArray = ls at hl ⊢
  have hl : lv_has ls 2 [(0, .ref a0), (1, .ref a1)] := hl
  obtain ⟨H, hH, hP, hS⟩ : ∃ H, H = s.heap ∧ va_P (dC, dI) vwCl (xo_ h0 q n dl ++ va_pl L f) H ∧ va_S A s.heap H [] := ⟨_, rfl, hP, hS⟩
  rw [← hH]
  generalize ([] : List Loc) = locs at hS ⊢
  refine lv_aload_n hx hb dX3_readAt_0 rfl (lv_at hl 0 rfl) ?_
  obtain ⟨hm1, i1, g1, hi1, he1⟩ := at_4 (xo_ h0 q n dl) hT ka0
  refine va_get (D := (dC, dI)) (ci := 2) (v := .int (g1 4)) (C := RX3) (T := TX3) (N := 6) hx hb hts hinX3 hown hK hP i1 he1 rfl 4 (by decide) (hts (.fieldLink RX3 7 "FurPosts$Order" "ware" "I") (by decide +kernel)) (fun _ h9 => h9) rfl dX3_readAt_1 ?_
  refine pu_call (va_runSN (As := [.int (g1 4)]) (rest := []) ⟨hx, hb, hml, hown, hts⟩ (c_X7_isWare l (g1 4)) ⟨va_cnB 1 hts gX3_readAt_X7_isWare_n16 rfl rfl rfl (nw_w3 hW0) (hts (.initialized RX7) (by decide +kernel)) (by decide +kernel) ⟨Nat.le_of_ble_eq_true rfl, Nat.le_of_ble_eq_true rfl⟩, hts (.static yX7_isWare) (by decide +kernel), trivial⟩ pu_preS rfl rfl hl.1 rfl (lv_room (Nat.le_of_ble_eq_true rfl)) dX3_readAt_4 ⟨Nat.le_of_ble_eq_true rfl, Nat.le_of_ble_eq_true rfl⟩) ?_
  refine lv_if_eq (tgt := 23) hx hb dX3_readAt_7 (by decide) (fun h_2 => ?_) (fun h_2 => ?_)
  · skip
    exact W.vret hx hb hr (fun t ht hW => ⟨⟨(f, n, dl), rfl, ⟨hD, hT, rfl⟩, by show va_P (dC, dI) vwCl _ t.heap; rw [ht]; exact hP⟩, hS.F ht⟩) hS.2.2 dX3_readAt_23
  · skip
    refine lv_aload_n hx hb dX3_readAt_10 rfl (lv_at hl 1 rfl) ?_
    obtain ⟨hm3, i3, s3, p3, o3, r3, hi3, he3, k3_0, k3_1, k3_2, k3_3⟩ := at_1 (xo_ h0 q n dl) hT ka1
    refine va_get (D := (dC, dI)) (ci := 3) (v := .ref p3) (C := RX4) (T := TX4) (N := 4) hx hb hts hinX4 hown hK hP i3 he3 rfl 1 (by decide) (hts (.fieldLink RX3 22 "FurPosts$Post" "prices" "[I") (by decide +kernel)) (fun _ h9 => h9) rfl dX3_readAt_11 ?_
    refine lv_aload_n hx hb dX3_readAt_14 rfl (lv_at hl 0 rfl) ?_
    refine va_get (D := (dC, dI)) (ci := 2) (v := .int (g1 4)) (C := RX3) (T := TX3) (N := 6) hx hb hts hinX3 hown hK hP i1 he1 rfl 4 (by decide) (hts (.fieldLink RX3 7 "FurPosts$Order" "ware" "I") (by decide +kernel)) (fun _ h9 => h9) rfl dX3_readAt_15 ?_
    refine lv_aload_n hx hb dX3_readAt_18 rfl (lv_at hl 0 rfl) ?_
    refine va_get (D := (dC, dI)) (ci := 2) (v := .int (g1 5)) (C := RX3) (T := TX3) (N := 6) hx hb hts hinX3 hown hK hP i1 he1 rfl 5 (by decide) (hts (.fieldLink RX3 13 "FurPosts$Order" "asked" "I") (by decide +kernel)) (fun _ h9 => h9) rfl dX3_readAt_19 ?_
    obtain ⟨hm4, i4, g4, hi4, he4⟩ := at_15 (xo_ h0 q n dl) hT k3_1
    refine va_iast hx hb hK hP hD hS i4 0 he4 rfl (i := (g1 4)) (sp_vp h_2 rfl) dX3_readAt_22 (fun H locs hP2 hD2 hS => ?_)
    rw [va_pl_set hD hm4 hi4] at hP2 hD2
    obtain ⟨f, hP, hD, hT⟩ : ∃ f, va_P (dC, dI) vwCl (xo_ h0 q n dl ++ va_pl L f) H ∧ va_D A (xo_ h0 q n dl ++ va_pl L f) ∧ ty_ cI cy L t f := ⟨_, hP2, hD2, ty_set hT k3_1 ⟨_, rfl⟩⟩
    exact W.vret hx hb hr (fun t ht hW => ⟨⟨(f, n, dl), rfl, ⟨hD, hT, rfl⟩, by show va_P (dC, dI) vwCl _ t.heap; rw [ht]; exact hP⟩, hS.F ht⟩) hS.2.2 dX3_readAt_23

set_option maxHeartbeats 4000000 in
set_option maxRecDepth 100000 in
theorem m_X1_readAt (l : Launch) (dC : Nat → ClassId) (dI : Nat → Nat → Nat) (h0 : Nat) (q n : Nat → Nat) (dl : Int32) (cI : ClassId) (cy : Nat → ClassId) (L : List Nat) (t : Nat → Nat) (f : Nat → va_E) (hT : ty_ cI cy L t f) (hQ : qs_ q t) (hN : nb_ n) (A : Nat → Prop) (hD : va_D A (xo_ h0 q n dl ++ va_pl L f)) (a0 : Nat) (ka0 : t a0 = 5) (a1 : Nat) (ka1 : t a1 = 1) : Met l yX1_readAt wsX1_readAt ({ frames := 1, cells := 0, slots := 0, locals := 20 }) (va_Pc [.ref a0, .ref a1] (pt_P (dC, dI) vwCl (tt_ cI cy) (xo_ h0 q n dl ++ va_pl L f))) (va_Qv (fun u : (Nat → va_E) × (Nat → Nat) × Int32 => va_D A (xo_ h0 q u.2.1 u.2.2 ++ va_pl L u.1) ∧ ty_ cI cy L t u.1 ∧ u.2.1 = n) (fun u s' => va_P (dC, dI) vwCl (xo_ h0 q u.2.1 u.2.2 ++ va_pl L u.1) s'.heap) A) 0 0 A := by
  refine Met.ofW (cc := cX1_readAt) (maxL := 2) (ret := none) (by decide) rfl ?_
  intro p e s m args below meth c s₁ B hml hv
  obtain ⟨rfl, hP, hK, hW0⟩ := hv
  have hx := B.exec
  have hb := B.bytes
  have hr := B.returns
  have hts := atoms_spec (ws := wsX1_readAt) B.pre
  have hown : s.vm.findClass RX1 = some m.cls := findClass_of_methodNamed B.named
  have hlocks := B.notSynchronized
  have hinX1 : ∀ w ∈ u_ws RX1 TX1 6, w ∈ wsX1_readAt := by decide +kernel
  have hinX4 : ∀ w ∈ u_ws RX4 TX4 4, w ∈ wsX1_readAt := by decide +kernel
  have hS : va_S A s.heap s.heap [] := va_S.rf
  have hl := lv_entry ([.ref a0, .ref a1]) (n := 2) (Nat.le_of_ble_eq_true rfl)
  rw [lg_entry_eq]
  generalize (lg_sl ([.ref a0, .ref a1]) ++ List.replicate (2 - (lg_sl ([.ref a0, .ref a1])).length) Slot.unset).toArray = ls at hl ⊢
  have hl : lv_has ls 2 [(0, .ref a0), (1, .ref a1)] := hl
  obtain ⟨H, hH, hP, hS⟩ : ∃ H, H = s.heap ∧ va_P (dC, dI) vwCl (xo_ h0 q n dl ++ va_pl L f) H ∧ va_S A s.heap H [] := ⟨_, rfl, hP, hS⟩
  rw [← hH]
  generalize ([] : List Loc) = locs at hS ⊢
  refine lv_aload_n hx hb dX1_readAt_0 rfl (lv_at hl 0 rfl) ?_
  obtain ⟨hm1, i1, g1, hi1, he1⟩ := at_5 (xo_ h0 q n dl) hT ka0
  refine va_get (D := (dC, dI)) (ci := 1) (v := .int (g1 4)) (C := RX1) (T := TX1) (N := 6) hx hb hts hinX1 hown hK hP i1 he1 rfl 4 (by decide) (hts (.fieldLink RX1 7 "FurPosts$Debt" "hunter" "I") (by decide +kernel)) (fun _ h9 => h9) rfl dX1_readAt_1 ?_
  refine pu_call (va_runSN (As := [.int (g1 4)]) (rest := []) ⟨hx, hb, hml, hown, hts⟩ (c_X7_isHunter l (g1 4)) ⟨va_cnB 1 hts gX1_readAt_X7_isHunter_n16 rfl rfl rfl (nw_w1 hW0) (hts (.initialized RX7) (by decide +kernel)) (by decide +kernel) ⟨Nat.le_of_ble_eq_true rfl, Nat.le_of_ble_eq_true rfl⟩, hts (.static yX7_isHunter) (by decide +kernel), trivial⟩ pu_preS rfl rfl hl.1 rfl (lv_room (Nat.le_of_ble_eq_true rfl)) dX1_readAt_4 ⟨Nat.le_of_ble_eq_true rfl, Nat.le_of_ble_eq_true rfl⟩) ?_
  refine lv_if_eq (tgt := 26) hx hb dX1_readAt_7 (by decide) (fun h_2 => ?_) (fun h_2 => ?_)
  · skip
    exact W.vret hx hb hr (fun t ht hW => ⟨⟨(f, n, dl), rfl, ⟨hD, hT, rfl⟩, by show va_P (dC, dI) vwCl _ t.heap; rw [ht]; exact hP⟩, hS.F ht⟩) hS.2.2 dX1_readAt_26
  · skip
    refine lv_aload_n hx hb dX1_readAt_10 rfl (lv_at hl 1 rfl) ?_
    obtain ⟨hm3, i3, s3, p3, o3, r3, hi3, he3, k3_0, k3_1, k3_2, k3_3⟩ := at_1 (xo_ h0 q n dl) hT ka1
    refine va_get (D := (dC, dI)) (ci := 3) (v := .ref o3) (C := RX4) (T := TX4) (N := 4) hx hb hts hinX4 hown hK hP i3 he3 rfl 2 (by decide) (hts (.fieldLink RX1 22 "FurPosts$Post" "owed" "[I") (by decide +kernel)) (fun _ h9 => h9) rfl dX1_readAt_11 ?_
    refine lv_aload_n hx hb dX1_readAt_14 rfl (lv_at hl 0 rfl) ?_
    refine va_get (D := (dC, dI)) (ci := 1) (v := .int (g1 4)) (C := RX1) (T := TX1) (N := 6) hx hb hts hinX1 hown hK hP i1 he1 rfl 4 (by decide) (hts (.fieldLink RX1 7 "FurPosts$Debt" "hunter" "I") (by decide +kernel)) (fun _ h9 => h9) rfl dX1_readAt_15 ?_
    refine lv_dup2_11 hx hb dX1_readAt_18 rfl rfl ?_
    obtain ⟨hm4, i4, g4, hi4, he4⟩ := at_17 (xo_ h0 q n dl) hT k3_2
    refine va_iald hx hb hK hP i4 0 he4 rfl (i := (g1 4)) (sp_vp h_2 rfl) dX1_readAt_19 ?_
    refine lv_topi (fun v5 _ => ?_)
    refine lv_aload_n hx hb dX1_readAt_20 rfl (lv_at hl 0 rfl) ?_
    refine va_get (D := (dC, dI)) (ci := 1) (v := .int (g1 5)) (C := RX1) (T := TX1) (N := 6) hx hb hts hinX1 hown hK hP i1 he1 rfl 5 (by decide) (hts (.fieldLink RX1 13 "FurPosts$Debt" "coins" "I") (by decide +kernel)) (fun _ h9 => h9) rfl dX1_readAt_21 ?_
    refine lv_iadd hx hb dX1_readAt_24 ?_
    refine lv_topi (fun v6 _ => ?_)
    refine va_iast hx hb hK hP hD hS i4 0 he4 rfl (i := (g1 4)) (sp_vp h_2 rfl) dX1_readAt_25 (fun H locs hP2 hD2 hS => ?_)
    rw [va_pl_set hD hm4 hi4] at hP2 hD2
    obtain ⟨f, hP, hD, hT⟩ : ∃ f, va_P (dC, dI) vwCl (xo_ h0 q n dl ++ va_pl L f) H ∧ va_D A (xo_ h0 q n dl ++ va_pl L f) ∧ ty_ cI cy L t f := ⟨_, hP2, hD2, ty_set hT k3_2 ⟨_, rfl⟩⟩
    exact W.vret hx hb hr (fun t ht hW => ⟨⟨(f, n, dl), rfl, ⟨hD, hT, rfl⟩, by show va_P (dC, dI) vwCl _ t.heap; rw [ht]; exact hP⟩, hS.F ht⟩) hS.2.2 dX1_readAt_26

set_option maxHeartbeats 4000000 in
set_option maxRecDepth 100000 in
theorem m_X5_readAt (l : Launch) (dC : Nat → ClassId) (dI : Nat → Nat → Nat) (h0 : Nat) (q n : Nat → Nat) (dl : Int32) (cI : ClassId) (cy : Nat → ClassId) (L : List Nat) (t : Nat → Nat) (f : Nat → va_E) (hT : ty_ cI cy L t f) (hQ : qs_ q t) (hN : nb_ n) (A : Nat → Prop) (hD : va_D A (xo_ h0 q n dl ++ va_pl L f)) (a0 : Nat) (ka0 : t a0 = 6) (a1 : Nat) (ka1 : t a1 = 1) : Met l yX5_readAt wsX5_readAt ({ frames := 1, cells := 0, slots := 0, locals := 21 }) (va_Pc [.ref a0, .ref a1] (pt_P (dC, dI) vwCl (tt_ cI cy) (xo_ h0 q n dl ++ va_pl L f))) (va_Qv (fun u : (Nat → va_E) × (Nat → Nat) × Int32 => va_D A (xo_ h0 q u.2.1 u.2.2 ++ va_pl L u.1) ∧ ty_ cI cy L t u.1 ∧ u.2.1 = n) (fun u s' => va_P (dC, dI) vwCl (xo_ h0 q u.2.1 u.2.2 ++ va_pl L u.1) s'.heap) A) 0 0 A := by
  refine Met.ofW (cc := cX5_readAt) (maxL := 3) (ret := none) (by decide) rfl ?_
  intro p e s m args below meth c s₁ B hml hv
  obtain ⟨rfl, hP, hK, hW0⟩ := hv
  have hx := B.exec
  have hb := B.bytes
  have hr := B.returns
  have hts := atoms_spec (ws := wsX5_readAt) B.pre
  have hown : s.vm.findClass RX5 = some m.cls := findClass_of_methodNamed B.named
  have hlocks := B.notSynchronized
  have hinX4 : ∀ w ∈ u_ws RX4 TX4 4, w ∈ wsX5_readAt := by decide +kernel
  have hinX5 : ∀ w ∈ u_ws RX5 TX5 6, w ∈ wsX5_readAt := by decide +kernel
  have hS : va_S A s.heap s.heap [] := va_S.rf
  have hl := lv_entry ([.ref a0, .ref a1]) (n := 3) (Nat.le_of_ble_eq_true rfl)
  rw [lg_entry_eq]
  generalize (lg_sl ([.ref a0, .ref a1]) ++ List.replicate (3 - (lg_sl ([.ref a0, .ref a1])).length) Slot.unset).toArray = ls at hl ⊢
  have hl : lv_has ls 3 [(0, .ref a0), (1, .ref a1)] := hl
  obtain ⟨H, hH, hP, hS⟩ : ∃ H, H = s.heap ∧ va_P (dC, dI) vwCl (xo_ h0 q n dl ++ va_pl L f) H ∧ va_S A s.heap H [] := ⟨_, rfl, hP, hS⟩
  rw [← hH]
  generalize ([] : List Loc) = locs at hS ⊢
  refine lv_aload_n hx hb dX5_readAt_0 rfl (lv_at hl 1 rfl) ?_
  refine lv_aload_n hx hb dX5_readAt_1 rfl (lv_at hl 0 rfl) ?_
  obtain ⟨hm1, i1, g1, s1, hi1, he1, k1_0⟩ := at_6 (xo_ h0 q n dl) hT ka0
  refine va_get (D := (dC, dI)) (ci := 4) (v := .int (g1 0)) (C := RX5) (T := TX5) (N := 6) hx hb hts hinX5 hown hK hP i1 he1 rfl 0 (by decide) (hts (.fieldLink RX5 19 "FurPosts$Report" "from" "I") (by decide +kernel)) (fun x h9 => u_same (hts (.sameField "FurPosts$Report" "FurPosts$Letter" "from" "I") (by decide +kernel)) x h9) rfl dX5_readAt_2 ?_
  obtain ⟨hm3, i3, s3, p3, o3, r3, hi3, he3, k3_0, k3_1, k3_2, k3_3⟩ := at_1 (xo_ h0 q n dl) hT ka1
  refine pg_call (va_runV (As := [.int (g1 0)]) (rest := []) ⟨hx, hb, hml, hown, hts⟩ (k_X4_reportOf l dC dI h0 q n dl cI cy L t f hT hQ hN a1 ka1 (g1 0)) (cwV 1 hts gX5_readAt_X4_reportOf rfl rfl rfl (by decide +kernel) ⟨Nat.le_of_ble_eq_true rfl, Nat.le_of_ble_eq_true rfl⟩) (pt_pre hP hK hW0 (ci := 3) (q0 := i3) rfl he3) rfl rfl hl.1 rfl (lv_room (Nat.le_of_ble_eq_true rfl)) dX5_readAt_5 ⟨Nat.le_of_ble_eq_true rfl, Nat.le_of_ble_eq_true rfl⟩) (fun w2 hw2 => ?_)
  obtain ⟨o2, rfl, hg2⟩ := hw2
  cases o2 with
  | none =>
    refine lv_astore_nN (lv' := [(2, .null), (0, .ref a0), (1, .ref a1)]) hx hb dX5_readAt_8 rfl hl (by decide) rfl (fun ls hl => ?_)
    refine lv_aload_n hx hb dX5_readAt_9 rfl (lv_at hl 1 rfl) ?_
    refine va_get (D := (dC, dI)) (ci := 4) (v := .int (g1 0)) (C := RX5) (T := TX5) (N := 6) hx hb hts hinX5 hown hK hP i1 he1 rfl 0 (by decide) (hts (.fieldLink RX5 19 "FurPosts$Report" "from" "I") (by decide +kernel)) (fun x h9 => u_same (hts (.sameField "FurPosts$Report" "FurPosts$Letter" "from" "I") (by decide +kernel)) x h9) rfl dX5_readAt_10 ?_
    refine lv_if_lt (tgt := 50) hx hb dX5_readAt_13 (by decide) (fun h_4 => ?_) (fun h_4 => ?_)
    · skip
      exact W.vret hx hb hr (fun t ht hW => ⟨⟨(f, n, dl), rfl, ⟨hD, hT, rfl⟩, by show va_P (dC, dI) vwCl _ t.heap; rw [ht]; exact hP⟩, hS.F ht⟩) hS.2.2 dX5_readAt_50
    · skip
      refine lv_aload_n hx hb dX5_readAt_16 rfl (lv_at hl 1 rfl) ?_
      refine va_get (D := (dC, dI)) (ci := 4) (v := .int (g1 0)) (C := RX5) (T := TX5) (N := 6) hx hb hts hinX5 hown hK hP i1 he1 rfl 0 (by decide) (hts (.fieldLink RX5 19 "FurPosts$Report" "from" "I") (by decide +kernel)) (fun x h9 => u_same (hts (.sameField "FurPosts$Report" "FurPosts$Letter" "from" "I") (by decide +kernel)) x h9) rfl dX5_readAt_17 ?_
      refine lv_bipush (v := 8) hx hb dX5_readAt_20 (by decide) ?_
      refine lv_icmp_ge (tgt := 50) hx hb dX5_readAt_22 (by decide) (fun h_5 => ?_) (fun h_5 => ?_)
      · skip
        exact W.vret hx hb hr (fun t ht hW => ⟨⟨(f, n, dl), rfl, ⟨hD, hT, rfl⟩, by show va_P (dC, dI) vwCl _ t.heap; rw [ht]; exact hP⟩, hS.F ht⟩) hS.2.2 dX5_readAt_50
      · skip
        refine lv_aload_nN hx hb dX5_readAt_25 rfl (lv_at hl 0 rfl) ?_
        refine lv_ifnullN (tgt := 40) hx hb dX5_readAt_26 (by decide) ?_
        refine lv_aload_n hx hb dX5_readAt_40 rfl (lv_at hl 2 rfl) ?_
        refine va_get (D := (dC, dI)) (ci := 3) (v := .ref r3) (C := RX4) (T := TX4) (N := 4) hx hb hts hinX4 hown hK hP i3 he3 rfl 3 (by decide) (hts (.fieldLink RX5 28 "FurPosts$Post" "reports" "[LFurPosts$Report;") (by decide +kernel)) (fun _ h9 => h9) rfl dX5_readAt_41 ?_
        refine lv_aload_n hx hb dX5_readAt_44 rfl (lv_at hl 1 rfl) ?_
        refine va_get (D := (dC, dI)) (ci := 4) (v := .int (g1 0)) (C := RX5) (T := TX5) (N := 6) hx hb hts hinX5 hown hK hP i1 he1 rfl 0 (by decide) (hts (.fieldLink RX5 19 "FurPosts$Report" "from" "I") (by decide +kernel)) (fun x h9 => u_same (hts (.sameField "FurPosts$Report" "FurPosts$Letter" "from" "I") (by decide +kernel)) x h9) rfl dX5_readAt_45 ?_
        refine lv_aload_n hx hb dX5_readAt_48 rfl (lv_at hl 1 rfl) ?_
        obtain ⟨hm6, i6, g6, hi6, he6, k6_0⟩ := at_7 (xo_ h0 q n dl) hT k3_3
        refine va_astq (r := (RX5, TX5, 6)) hx hb hK hP hD hS i6 1 i1 4 he6 rfl he1 rfl (i := (g1 0)) (vb_in h_4 h_5 rfl) dX5_readAt_49 (fun H locs hP2 hD2 hS => ?_)
        rw [va_pl_set hD hm6 hi6] at hP2 hD2
        obtain ⟨f, hP, hD, hT⟩ : ∃ f, va_P (dC, dI) vwCl (xo_ h0 q n dl ++ va_pl L f) H ∧ va_D A (xo_ h0 q n dl ++ va_pl L f) ∧ ty_ cI cy L t f := ⟨_, hP2, hD2, ty_set hT k3_3 ⟨_, rfl, up_ok k6_0 ka0⟩⟩
        exact W.vret hx hb hr (fun t ht hW => ⟨⟨(f, n, dl), rfl, ⟨hD, hT, rfl⟩, by show va_P (dC, dI) vwCl _ t.heap; rw [ht]; exact hP⟩, hS.F ht⟩) hS.2.2 dX5_readAt_50
  | some b2 =>
    have hk2 := hg2 b2 rfl
    refine lv_astore_n (lv' := [(2, .ref b2), (0, .ref a0), (1, .ref a1)]) hx hb dX5_readAt_8 rfl hl (by decide) rfl (fun ls hl => ?_)
    refine lv_aload_n hx hb dX5_readAt_9 rfl (lv_at hl 1 rfl) ?_
    refine va_get (D := (dC, dI)) (ci := 4) (v := .int (g1 0)) (C := RX5) (T := TX5) (N := 6) hx hb hts hinX5 hown hK hP i1 he1 rfl 0 (by decide) (hts (.fieldLink RX5 19 "FurPosts$Report" "from" "I") (by decide +kernel)) (fun x h9 => u_same (hts (.sameField "FurPosts$Report" "FurPosts$Letter" "from" "I") (by decide +kernel)) x h9) rfl dX5_readAt_10 ?_
    refine lv_if_lt (tgt := 50) hx hb dX5_readAt_13 (by decide) (fun h_7 => ?_) (fun h_7 => ?_)
    · skip
      exact W.vret hx hb hr (fun t ht hW => ⟨⟨(f, n, dl), rfl, ⟨hD, hT, rfl⟩, by show va_P (dC, dI) vwCl _ t.heap; rw [ht]; exact hP⟩, hS.F ht⟩) hS.2.2 dX5_readAt_50
    · skip
      refine lv_aload_n hx hb dX5_readAt_16 rfl (lv_at hl 1 rfl) ?_
      refine va_get (D := (dC, dI)) (ci := 4) (v := .int (g1 0)) (C := RX5) (T := TX5) (N := 6) hx hb hts hinX5 hown hK hP i1 he1 rfl 0 (by decide) (hts (.fieldLink RX5 19 "FurPosts$Report" "from" "I") (by decide +kernel)) (fun x h9 => u_same (hts (.sameField "FurPosts$Report" "FurPosts$Letter" "from" "I") (by decide +kernel)) x h9) rfl dX5_readAt_17 ?_
      refine lv_bipush (v := 8) hx hb dX5_readAt_20 (by decide) ?_
      refine lv_icmp_ge (tgt := 50) hx hb dX5_readAt_22 (by decide) (fun h_8 => ?_) (fun h_8 => ?_)
      · skip
        exact W.vret hx hb hr (fun t ht hW => ⟨⟨(f, n, dl), rfl, ⟨hD, hT, rfl⟩, by show va_P (dC, dI) vwCl _ t.heap; rw [ht]; exact hP⟩, hS.F ht⟩) hS.2.2 dX5_readAt_50
      · skip
        refine lv_aload_n hx hb dX5_readAt_25 rfl (lv_at hl 0 rfl) ?_
        refine lv_ifnull hx hb dX5_readAt_26 ?_
        refine lv_aload_n hx hb dX5_readAt_29 rfl (lv_at hl 1 rfl) ?_
        refine va_get (D := (dC, dI)) (ci := 4) (v := .int (g1 4)) (C := RX5) (T := TX5) (N := 6) hx hb hts hinX5 hown hK hP i1 he1 rfl 4 (by decide) (hts (.fieldLink RX5 9 "FurPosts$Report" "day" "I") (by decide +kernel)) (fun _ h9 => h9) rfl dX5_readAt_30 ?_
        refine lv_aload_n hx hb dX5_readAt_33 rfl (lv_at hl 0 rfl) ?_
        obtain ⟨hm9, i9, g9, s9, hi9, he9, k9_0⟩ := at_6 (xo_ h0 q n dl) hT hk2.1
        refine va_get (D := (dC, dI)) (ci := 4) (v := .int (g9 4)) (C := RX5) (T := TX5) (N := 6) hx hb hts hinX5 hown hK hP i9 he9 rfl 4 (by decide) (hts (.fieldLink RX5 9 "FurPosts$Report" "day" "I") (by decide +kernel)) (fun _ h9 => h9) rfl dX5_readAt_34 ?_
        refine lv_icmp_lt (tgt := 50) hx hb dX5_readAt_37 (by decide) (fun h_10 => ?_) (fun h_10 => ?_)
        · skip
          exact W.vret hx hb hr (fun t ht hW => ⟨⟨(f, n, dl), rfl, ⟨hD, hT, rfl⟩, by show va_P (dC, dI) vwCl _ t.heap; rw [ht]; exact hP⟩, hS.F ht⟩) hS.2.2 dX5_readAt_50
        · skip
          refine lv_aload_n hx hb dX5_readAt_40 rfl (lv_at hl 2 rfl) ?_
          refine va_get (D := (dC, dI)) (ci := 3) (v := .ref r3) (C := RX4) (T := TX4) (N := 4) hx hb hts hinX4 hown hK hP i3 he3 rfl 3 (by decide) (hts (.fieldLink RX5 28 "FurPosts$Post" "reports" "[LFurPosts$Report;") (by decide +kernel)) (fun _ h9 => h9) rfl dX5_readAt_41 ?_
          refine lv_aload_n hx hb dX5_readAt_44 rfl (lv_at hl 1 rfl) ?_
          refine va_get (D := (dC, dI)) (ci := 4) (v := .int (g1 0)) (C := RX5) (T := TX5) (N := 6) hx hb hts hinX5 hown hK hP i1 he1 rfl 0 (by decide) (hts (.fieldLink RX5 19 "FurPosts$Report" "from" "I") (by decide +kernel)) (fun x h9 => u_same (hts (.sameField "FurPosts$Report" "FurPosts$Letter" "from" "I") (by decide +kernel)) x h9) rfl dX5_readAt_45 ?_
          refine lv_aload_n hx hb dX5_readAt_48 rfl (lv_at hl 1 rfl) ?_
          obtain ⟨hm11, i11, g11, hi11, he11, k11_0⟩ := at_7 (xo_ h0 q n dl) hT k3_3
          refine va_astq (r := (RX5, TX5, 6)) hx hb hK hP hD hS i11 1 i1 4 he11 rfl he1 rfl (i := (g1 0)) hk2.2 dX5_readAt_49 (fun H locs hP2 hD2 hS => ?_)
          rw [va_pl_set hD hm11 hi11] at hP2 hD2
          obtain ⟨f, hP, hD, hT⟩ : ∃ f, va_P (dC, dI) vwCl (xo_ h0 q n dl ++ va_pl L f) H ∧ va_D A (xo_ h0 q n dl ++ va_pl L f) ∧ ty_ cI cy L t f := ⟨_, hP2, hD2, ty_set hT k3_3 ⟨_, rfl, up_ok k11_0 ka0⟩⟩
          exact W.vret hx hb hr (fun t ht hW => ⟨⟨(f, n, dl), rfl, ⟨hD, hT, rfl⟩, by show va_P (dC, dI) vwCl _ t.heap; rw [ht]; exact hP⟩, hS.F ht⟩) hS.2.2 dX5_readAt_50
