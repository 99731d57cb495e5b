theorem lp_ge {j B : Nat} {b : Int32} (h : j < B) (hB : B < 2147483648) (e : b = nI B) : ¬ b ≤ nI j := by rw [e]; exact nI_ge h (by omega)
theorem lp_ge0 {B : Nat} {b : Int32} (e : b = nI B) : b ≤ nI B := by rw [e, sp_le]; omega
theorem lp_gt {j B : Nat} {b : Int32} (h : j < B) (hB : B < 2147483648) (e : b = nI (B - 1)) : ¬ b < nI j := by rw [e]; exact nI_nlt (by omega) (by omega)
theorem lp_gt0 {B : Nat} {b : Int32} (hB : 0 < B ∧ B < 2147483648) (e : b = nI (B - 1)) : b < nI B := by rw [e]; exact nI_lt (by omega) (by omega)
theorem vp_lt {x : Int32} {n : Nat} (h : vp_in x n) : x.toNatClampNeg < n := Nat.not_le.mp fun q => h (Or.inr q)
theorem sp_vp {x b : Int32} {n : Nat} (h : ¬ sp_in x 0 b = 0) (hb : b.toInt + 1 = n) : vp_in x n := by
  obtain ⟨h1, h2⟩ := sp_in_1 h
  rw [sp_le, show (0 : Int32).toInt = 0 from rfl] at h1
  rw [sp_le] at h2
  rw [vp_in_iff]
  omega

set_option maxHeartbeats 4000000 in
set_option maxRecDepth 100000 in
theorem k_X7_postAt (l : Launch) (dC : Nat → ClassId) (dI : Nat → Nat → Nat) (h0 : Nat) (q n : Nat → Nat) (dl : Int32) (cI : ClassId) (cy : Nat → ClassId) (L : List Nat) (t : Nat → Nat) (f : Nat → va_E) (hT : ty_ cI cy L t f) (hQ : qs_ q t) (hN : nb_ n) (a1 : Int32) : Met l yX7_postAt wsX7_postAt ({ frames := 0, cells := 0, slots := 0, locals := 0 }) (va_Pc [.ref h0, .int a1] (pt_P (dC, dI) vwCl (tt_ cI cy) (xo_ h0 q n dl ++ va_pl L f))) (pg_Q (go_ (fun b => t b = 1 ∧ vp_in a1 8))) 0 0 pu_F := by
  refine Met.ofW (cc := cX7_postAt) (maxL := 2) (ret := (some (.object "FurPosts$Post"))) (by decide) rfl ?_
  intro p e s m args below meth c s₁ B hml hv
  obtain ⟨rfl, hP, hK, hW0⟩ := hv
  have hx := B.exec
  have hb := B.bytes
  have hr := B.returns
  have hts := atoms_spec (ws := wsX7_postAt) B.pre
  have hown : s.vm.findClass RX7 = some m.cls := findClass_of_methodNamed B.named
  have hlocks := B.notSynchronized
  have hinX7 : ∀ w ∈ u_ws RX7 TX7 14, w ∈ wsX7_postAt := by decide +kernel
  have hl := lv_entry ([.ref h0, .int a1]) (n := 2) (Nat.le_of_ble_eq_true rfl)
  rw [lg_entry_eq]
  generalize (lg_sl ([.ref h0, .int a1]) ++ List.replicate (2 - (lg_sl ([.ref h0, .int a1])).length) Slot.unset).toArray = ls at hl ⊢
  have hl : lv_has ls 2 [(0, .ref h0), (1, .int a1)] := hl
  refine lv_iload_n hx hb dX7_postAt_0 rfl (lv_at hl 1 rfl) ?_
  refine lv_if_lt (tgt := 19) hx hb dX7_postAt_1 (by decide) (fun h_1 => ?_) (fun h_1 => ?_)
  · skip
    refine lv_null hx hb dX7_postAt_19 ?_
    exact W.aret (v := .null) hx hb hr (Or.inl ⟨_, rfl⟩) (Or.inl rfl) (fun t ht hW => ⟨_, rfl, ⟨none, rfl, fun b h => by cases h⟩, ht⟩) (fun q h => by cases h) dX7_postAt_20
  · skip
    refine lv_iload_n hx hb dX7_postAt_4 rfl (lv_at hl 1 rfl) ?_
    refine lv_bipush (v := 8) hx hb dX7_postAt_5 (by decide) ?_
    refine lv_icmp_ge (tgt := 19) hx hb dX7_postAt_7 (by decide) (fun h_2 => ?_) (fun h_2 => ?_)
    · skip
      refine lv_null hx hb dX7_postAt_19 ?_
      exact W.aret (v := .null) hx hb hr (Or.inl ⟨_, rfl⟩) (Or.inl rfl) (fun t ht hW => ⟨_, rfl, ⟨none, rfl, fun b h => by cases h⟩, ht⟩) (fun q h => by cases h) dX7_postAt_20
    · skip
      refine lv_aload_n hx hb dX7_postAt_10 rfl (lv_at hl 0 rfl) ?_
      refine va_get (D := (dC, dI)) (ci := 6) (v := .ref (q 1)) (C := RX7) (T := TX7) (N := 14) hx hb hts hinX7 hown hK hP 0 rfl rfl 0 (by decide) (hts (.fieldLink RX7 11 "FurPosts" "posts" "[LFurPosts$Post;") (by decide +kernel)) (fun _ h9 => h9) rfl dX7_postAt_11 ?_
      refine lv_iload_n hx hb dX7_postAt_14 rfl (lv_at hl 1 rfl) ?_
      obtain ⟨hm3, i3, g3, hi3, he3, k3_0⟩ := at_8 (xo_ h0 q n dl) hT hQ.1
      refine va_aldq hx hb hK hP i3 2 he3 rfl (i := a1) (vb_in h_1 h_2 rfl) dX7_postAt_15 ?_
      refine lv_goto (tgt := 20) hx hb dX7_postAt_16 (by decide) ?_
      exact W.aret (v := va_rf (g3 (Int32.toNatClampNeg a1))) hx hb hr (Or.inl ⟨_, rfl⟩) (va_rf_or _) (fun t ht hW => ⟨_, rfl, ⟨(g3 (Int32.toNatClampNeg a1)), rfl, (fun b h => ⟨(fun b h => k3_0 _ b h) b h, vb_in h_1 h_2 rfl⟩)⟩, ht⟩) (fun q h => by cases h) dX7_postAt_20

set_option maxHeartbeats 4000000 in
set_option maxRecDepth 100000 in
theorem k_X7_wayAt (l : Launch) (dC : Nat → ClassId) (dI : Nat → Nat → Nat) (h0 : Nat) (q n : Nat → Nat) (dl : Int32) (cI : ClassId) (cy : Nat → ClassId) (L : List Nat) (t : Nat → Nat) (f : Nat → va_E) (hT : ty_ cI cy L t f) (hQ : qs_ q t) (hN : nb_ n) (a1 : Int32) : Met l yX7_wayAt wsX7_wayAt ({ frames := 0, cells := 0, slots := 0, locals := 0 }) (va_Pc [.ref h0, .int a1] (pt_P (dC, dI) vwCl (tt_ cI cy) (xo_ h0 q n dl ++ va_pl L f))) (pg_Q (go_ (fun b => t b = 2 ∧ vp_in a1 12))) 0 0 pu_F := by
  refine Met.ofW (cc := cX7_wayAt) (maxL := 2) (ret := (some (.object "FurPosts$Way"))) (by decide) rfl ?_
  intro p e s m args below meth c s₁ B hml hv
  obtain ⟨rfl, hP, hK, hW0⟩ := hv
  have hx := B.exec
  have hb := B.bytes
  have hr := B.returns
  have hts := atoms_spec (ws := wsX7_wayAt) B.pre
  have hown : s.vm.findClass RX7 = some m.cls := findClass_of_methodNamed B.named
  have hlocks := B.notSynchronized
  have hinX7 : ∀ w ∈ u_ws RX7 TX7 14, w ∈ wsX7_wayAt := by decide +kernel
  have hl := lv_entry ([.ref h0, .int a1]) (n := 2) (Nat.le_of_ble_eq_true rfl)
  rw [lg_entry_eq]
  generalize (lg_sl ([.ref h0, .int a1]) ++ List.replicate (2 - (lg_sl ([.ref h0, .int a1])).length) Slot.unset).toArray = ls at hl ⊢
  have hl : lv_has ls 2 [(0, .ref h0), (1, .int a1)] := hl
  refine lv_iload_n hx hb dX7_wayAt_0 rfl (lv_at hl 1 rfl) ?_
  refine lv_if_lt (tgt := 19) hx hb dX7_wayAt_1 (by decide) (fun h_1 => ?_) (fun h_1 => ?_)
  · skip
    refine lv_null hx hb dX7_wayAt_19 ?_
    exact W.aret (v := .null) hx hb hr (Or.inl ⟨_, rfl⟩) (Or.inl rfl) (fun t ht hW => ⟨_, rfl, ⟨none, rfl, fun b h => by cases h⟩, ht⟩) (fun q h => by cases h) dX7_wayAt_20
  · skip
    refine lv_iload_n hx hb dX7_wayAt_4 rfl (lv_at hl 1 rfl) ?_
    refine lv_bipush (v := 12) hx hb dX7_wayAt_5 (by decide) ?_
    refine lv_icmp_ge (tgt := 19) hx hb dX7_wayAt_7 (by decide) (fun h_2 => ?_) (fun h_2 => ?_)
    · skip
      refine lv_null hx hb dX7_wayAt_19 ?_
      exact W.aret (v := .null) hx hb hr (Or.inl ⟨_, rfl⟩) (Or.inl rfl) (fun t ht hW => ⟨_, rfl, ⟨none, rfl, fun b h => by cases h⟩, ht⟩) (fun q h => by cases h) dX7_wayAt_20
    · skip
      refine lv_aload_n hx hb dX7_wayAt_10 rfl (lv_at hl 0 rfl) ?_
      refine va_get (D := (dC, dI)) (ci := 6) (v := .ref (q 2)) (C := RX7) (T := TX7) (N := 14) hx hb hts hinX7 hown hK hP 0 rfl rfl 1 (by decide) (hts (.fieldLink RX7 17 "FurPosts" "ways" "[LFurPosts$Way;") (by decide +kernel)) (fun _ h9 => h9) rfl dX7_wayAt_11 ?_
      refine lv_iload_n hx hb dX7_wayAt_14 rfl (lv_at hl 1 rfl) ?_
      obtain ⟨hm3, i3, g3, hi3, he3, k3_0⟩ := at_9 (xo_ h0 q n dl) hT hQ.2.1
      refine va_aldq hx hb hK hP i3 3 he3 rfl (i := a1) (vb_in h_1 h_2 rfl) dX7_wayAt_15 ?_
      refine lv_goto (tgt := 20) hx hb dX7_wayAt_16 (by decide) ?_
      exact W.aret (v := va_rf (g3 (Int32.toNatClampNeg a1))) hx hb hr (Or.inl ⟨_, rfl⟩) (va_rf_or _) (fun t ht hW => ⟨_, rfl, ⟨(g3 (Int32.toNatClampNeg a1)), rfl, (fun b h => ⟨(fun b h => k3_0 _ b h) b h, vb_in h_1 h_2 rfl⟩)⟩, ht⟩) (fun q h => by cases h) dX7_wayAt_20

set_option maxHeartbeats 4000000 in
set_option maxRecDepth 100000 in
theorem k_X7_canoeAt (l : Launch) (dC : Nat → ClassId) (dI : Nat → Nat → Nat) (h0 : Nat) (q n : Nat → Nat) (dl : Int32) (cI : ClassId) (cy : Nat → ClassId) (L : List Nat) (t : Nat → Nat) (f : Nat → va_E) (hT : ty_ cI cy L t f) (hQ : qs_ q t) (hN : nb_ n) (a1 : Int32) : Met l yX7_canoeAt wsX7_canoeAt ({ frames := 0, cells := 0, slots := 0, locals := 0 }) (va_Pc [.ref h0, .int a1] (pt_P (dC, dI) vwCl (tt_ cI cy) (xo_ h0 q n dl ++ va_pl L f))) (pg_Q (go_ (fun b => t b = 3 ∧ vp_in a1 120))) 0 0 pu_F := by
  refine Met.ofW (cc := cX7_canoeAt) (maxL := 2) (ret := (some (.object "FurPosts$Canoe"))) (by decide) rfl ?_
  intro p e s m args below meth c s₁ B hml hv
  obtain ⟨rfl, hP, hK, hW0⟩ := hv
  have hx := B.exec
  have hb := B.bytes
  have hr := B.returns
  have hts := atoms_spec (ws := wsX7_canoeAt) B.pre
  have hown : s.vm.findClass RX7 = some m.cls := findClass_of_methodNamed B.named
  have hlocks := B.notSynchronized
  have hinX7 : ∀ w ∈ u_ws RX7 TX7 14, w ∈ wsX7_canoeAt := by decide +kernel
  have hl := lv_entry ([.ref h0, .int a1]) (n := 2) (Nat.le_of_ble_eq_true rfl)
  rw [lg_entry_eq]
  generalize (lg_sl ([.ref h0, .int a1]) ++ List.replicate (2 - (lg_sl ([.ref h0, .int a1])).length) Slot.unset).toArray = ls at hl ⊢
  have hl : lv_has ls 2 [(0, .ref h0), (1, .int a1)] := hl
  refine lv_iload_n hx hb dX7_canoeAt_0 rfl (lv_at hl 1 rfl) ?_
  refine lv_if_lt (tgt := 19) hx hb dX7_canoeAt_1 (by decide) (fun h_1 => ?_) (fun h_1 => ?_)
  · skip
    refine lv_null hx hb dX7_canoeAt_19 ?_
    exact W.aret (v := .null) hx hb hr (Or.inl ⟨_, rfl⟩) (Or.inl rfl) (fun t ht hW => ⟨_, rfl, ⟨none, rfl, fun b h => by cases h⟩, ht⟩) (fun q h => by cases h) dX7_canoeAt_20
  · skip
    refine lv_iload_n hx hb dX7_canoeAt_4 rfl (lv_at hl 1 rfl) ?_
    refine lv_bipush (v := 120) hx hb dX7_canoeAt_5 (by decide) ?_
    refine lv_icmp_ge (tgt := 19) hx hb dX7_canoeAt_7 (by decide) (fun h_2 => ?_) (fun h_2 => ?_)
    · skip
      refine lv_null hx hb dX7_canoeAt_19 ?_
      exact W.aret (v := .null) hx hb hr (Or.inl ⟨_, rfl⟩) (Or.inl rfl) (fun t ht hW => ⟨_, rfl, ⟨none, rfl, fun b h => by cases h⟩, ht⟩) (fun q h => by cases h) dX7_canoeAt_20
    · skip
      refine lv_aload_n hx hb dX7_canoeAt_10 rfl (lv_at hl 0 rfl) ?_
      refine va_get (D := (dC, dI)) (ci := 6) (v := .ref (q 3)) (C := RX7) (T := TX7) (N := 14) hx hb hts hinX7 hown hK hP 0 rfl rfl 2 (by decide) (hts (.fieldLink RX7 23 "FurPosts" "canoes" "[LFurPosts$Canoe;") (by decide +kernel)) (fun _ h9 => h9) rfl dX7_canoeAt_11 ?_
      refine lv_iload_n hx hb dX7_canoeAt_14 rfl (lv_at hl 1 rfl) ?_
      obtain ⟨hm3, i3, g3, hi3, he3, k3_0⟩ := at_10 (xo_ h0 q n dl) hT hQ.2.2.1
      refine va_aldq hx hb hK hP i3 4 he3 rfl (i := a1) (vb_in h_1 h_2 rfl) dX7_canoeAt_15 ?_
      refine lv_goto (tgt := 20) hx hb dX7_canoeAt_16 (by decide) ?_
      exact W.aret (v := va_rf (g3 (Int32.toNatClampNeg a1))) hx hb hr (Or.inl ⟨_, rfl⟩) (va_rf_or _) (fun t ht hW => ⟨_, rfl, ⟨(g3 (Int32.toNatClampNeg a1)), rfl, (fun b h => ⟨(fun b h => k3_0 _ b h) b h, vb_in h_1 h_2 rfl⟩)⟩, ht⟩) (fun q h => by cases h) dX7_canoeAt_20

set_option maxHeartbeats 4000000 in
set_option maxRecDepth 100000 in
theorem k_X7_letterAt (l : Launch) (dC : Nat → ClassId) (dI : Nat → Nat → Nat) (h0 : Nat) (q n : Nat → Nat) (dl : Int32) (cI : ClassId) (cy : Nat → ClassId) (L : List Nat) (t : Nat → Nat) (f : Nat → va_E) (hT : ty_ cI cy L t f) (hQ : qs_ q t) (hN : nb_ n) (a1 : Int32) : Met l yX7_letterAt wsX7_letterAt ({ frames := 0, cells := 0, slots := 0, locals := 0 }) (va_Pc [.ref h0, .int a1] (pt_P (dC, dI) vwCl (tt_ cI cy) (xo_ h0 q n dl ++ va_pl L f))) (pg_Q (go_ (fun b => (t b = 4 ∨ t b = 5 ∨ t b = 6) ∧ vp_in a1 300))) 0 0 pu_F := by
  refine Met.ofW (cc := cX7_letterAt) (maxL := 2) (ret := (some (.object "FurPosts$Letter"))) (by decide) rfl ?_
  intro p e s m args below meth c s₁ B hml hv
  obtain ⟨rfl, hP, hK, hW0⟩ := hv
  have hx := B.exec
  have hb := B.bytes
  have hr := B.returns
  have hts := atoms_spec (ws := wsX7_letterAt) B.pre
  have hown : s.vm.findClass RX7 = some m.cls := findClass_of_methodNamed B.named
  have hlocks := B.notSynchronized
  have hinX7 : ∀ w ∈ u_ws RX7 TX7 14, w ∈ wsX7_letterAt := by decide +kernel
  have hl := lv_entry ([.ref h0, .int a1]) (n := 2) (Nat.le_of_ble_eq_true rfl)
  rw [lg_entry_eq]
  generalize (lg_sl ([.ref h0, .int a1]) ++ List.replicate (2 - (lg_sl ([.ref h0, .int a1])).length) Slot.unset).toArray = ls at hl ⊢
  have hl : lv_has ls 2 [(0, .ref h0), (1, .int a1)] := hl
  refine lv_iload_n hx hb dX7_letterAt_0 rfl (lv_at hl 1 rfl) ?_
  refine lv_if_lt (tgt := 20) hx hb dX7_letterAt_1 (by decide) (fun h_1 => ?_) (fun h_1 => ?_)
  · skip
    refine lv_null hx hb dX7_letterAt_20 ?_
    exact W.aret (v := .null) hx hb hr (Or.inl ⟨_, rfl⟩) (Or.inl rfl) (fun t ht hW => ⟨_, rfl, ⟨none, rfl, fun b h => by cases h⟩, ht⟩) (fun q h => by cases h) dX7_letterAt_21
  · skip
    refine lv_iload_n hx hb dX7_letterAt_4 rfl (lv_at hl 1 rfl) ?_
    refine lv_sipush (v := 300) hx hb dX7_letterAt_5 (by decide) ?_
    refine lv_icmp_ge (tgt := 20) hx hb dX7_letterAt_8 (by decide) (fun h_2 => ?_) (fun h_2 => ?_)
    · skip
      refine lv_null hx hb dX7_letterAt_20 ?_
      exact W.aret (v := .null) hx hb hr (Or.inl ⟨_, rfl⟩) (Or.inl rfl) (fun t ht hW => ⟨_, rfl, ⟨none, rfl, fun b h => by cases h⟩, ht⟩) (fun q h => by cases h) dX7_letterAt_21
    · skip
      refine lv_aload_n hx hb dX7_letterAt_11 rfl (lv_at hl 0 rfl) ?_
      refine va_get (D := (dC, dI)) (ci := 6) (v := .ref (q 4)) (C := RX7) (T := TX7) (N := 14) hx hb hts hinX7 hown hK hP 0 rfl rfl 3 (by decide) (hts (.fieldLink RX7 29 "FurPosts" "letters" "[LFurPosts$Letter;") (by decide +kernel)) (fun _ h9 => h9) rfl dX7_letterAt_12 ?_
      refine lv_iload_n hx hb dX7_letterAt_15 rfl (lv_at hl 1 rfl) ?_
      obtain ⟨hm3, i3, g3, hi3, he3, k3_0⟩ := at_11 (xo_ h0 q n dl) hT hQ.2.2.2.1
      refine va_aldq hx hb hK hP i3 5 he3 rfl (i := a1) (vb_in h_1 h_2 rfl) dX7_letterAt_16 ?_
      refine lv_goto (tgt := 21) hx hb dX7_letterAt_17 (by decide) ?_
      exact W.aret (v := va_rf (g3 (Int32.toNatClampNeg a1))) hx hb hr (Or.inl ⟨_, rfl⟩) (va_rf_or _) (fun t ht hW => ⟨_, rfl, ⟨(g3 (Int32.toNatClampNeg a1)), rfl, (fun b h => ⟨(fun b h => k3_0 _ b h) b h, vb_in h_1 h_2 rfl⟩)⟩, ht⟩) (fun q h => by cases h) dX7_letterAt_21

set_option maxHeartbeats 4000000 in
set_option maxRecDepth 100000 in
theorem k_X4_reportOf (l : Launch) (dC : Nat → ClassId) (dI : Nat → Nat → Nat) (h0 : Nat) (q n : Nat → Nat) (dl : Int32) (cI : ClassId) (cy : Nat → ClassId) (L : List Nat) (t : Nat → Nat) (f : Nat → va_E) (hT : ty_ cI cy L t f) (hQ : qs_ q t) (hN : nb_ n) (a0 : Nat) (ka0 : t a0 = 1) (a1 : Int32) : Met l yX4_reportOf wsX4_reportOf ({ frames := 0, cells := 0, slots := 0, locals := 0 }) (va_Pc [.ref a0, .int a1] (pt_P (dC, dI) vwCl (tt_ cI cy) (xo_ h0 q n dl ++ va_pl L f))) (pg_Q (go_ (fun b => t b = 6 ∧ vp_in a1 8))) 0 0 pu_F := by
  refine Met.ofW (cc := cX4_reportOf) (maxL := 2) (ret := (some (.object "FurPosts$Report"))) (by decide) rfl ?_
  intro p e s m args below meth c s₁ B hml hv
  obtain ⟨rfl, hP, hK, hW0⟩ := hv
  have hx := B.exec
  have hb := B.bytes
  have hr := B.returns
  have hts := atoms_spec (ws := wsX4_reportOf) B.pre
  have hown : s.vm.findClass RX4 = some m.cls := findClass_of_methodNamed B.named
  have hlocks := B.notSynchronized
  have hinX4 : ∀ w ∈ u_ws RX4 TX4 4, w ∈ wsX4_reportOf := by decide +kernel
  have hl := lv_entry ([.ref a0, .int a1]) (n := 2) (Nat.le_of_ble_eq_true rfl)
  rw [lg_entry_eq]
  generalize (lg_sl ([.ref a0, .int a1]) ++ List.replicate (2 - (lg_sl ([.ref a0, .int a1])).length) Slot.unset).toArray = ls at hl ⊢
  have hl : lv_has ls 2 [(0, .ref a0), (1, .int a1)] := hl
  refine lv_iload_n hx hb dX4_reportOf_0 rfl (lv_at hl 1 rfl) ?_
  refine lv_if_lt (tgt := 19) hx hb dX4_reportOf_1 (by decide) (fun h_1 => ?_) (fun h_1 => ?_)
  · skip
    refine lv_null hx hb dX4_reportOf_19 ?_
    exact W.aret (v := .null) hx hb hr (Or.inl ⟨_, rfl⟩) (Or.inl rfl) (fun t ht hW => ⟨_, rfl, ⟨none, rfl, fun b h => by cases h⟩, ht⟩) (fun q h => by cases h) dX4_reportOf_20
  · skip
    refine lv_iload_n hx hb dX4_reportOf_4 rfl (lv_at hl 1 rfl) ?_
    refine lv_bipush (v := 8) hx hb dX4_reportOf_5 (by decide) ?_
    refine lv_icmp_ge (tgt := 19) hx hb dX4_reportOf_7 (by decide) (fun h_2 => ?_) (fun h_2 => ?_)
    · skip
      refine lv_null hx hb dX4_reportOf_19 ?_
      exact W.aret (v := .null) hx hb hr (Or.inl ⟨_, rfl⟩) (Or.inl rfl) (fun t ht hW => ⟨_, rfl, ⟨none, rfl, fun b h => by cases h⟩, ht⟩) (fun q h => by cases h) dX4_reportOf_20
    · skip
      refine lv_aload_n hx hb dX4_reportOf_10 rfl (lv_at hl 0 rfl) ?_
      obtain ⟨hm3, i3, s3, p3, o3, r3, hi3, he3, k3_0, k3_1, k3_2, k3_3⟩ := at_1 (xo_ h0 q n dl) hT ka0
      refine va_get (D := (dC, dI)) (ci := 3) (v := .ref r3) (C := RX4) (T := TX4) (N := 4) hx hb hts hinX4 hown hK hP i3 he3 rfl 3 (by decide) (hts (.fieldLink RX4 23 "FurPosts$Post" "reports" "[LFurPosts$Report;") (by decide +kernel)) (fun _ h9 => h9) rfl dX4_reportOf_11 ?_
      refine lv_iload_n hx hb dX4_reportOf_14 rfl (lv_at hl 1 rfl) ?_
      obtain ⟨hm4, i4, g4, hi4, he4, k4_0⟩ := at_7 (xo_ h0 q n dl) hT k3_3
      refine va_aldq hx hb hK hP i4 1 he4 rfl (i := a1) (vb_in h_1 h_2 rfl) dX4_reportOf_15 ?_
      refine lv_goto (tgt := 20) hx hb dX4_reportOf_16 (by decide) ?_
      exact W.aret (v := va_rf (g4 (Int32.toNatClampNeg a1))) hx hb hr (Or.inl ⟨_, rfl⟩) (va_rf_or _) (fun t ht hW => ⟨_, rfl, ⟨(g4 (Int32.toNatClampNeg a1)), rfl, (fun b h => ⟨(fun b h => k4_0 _ b h) b h, vb_in h_1 h_2 rfl⟩)⟩, ht⟩) (fun q h => by cases h) dX4_reportOf_20

set_option maxHeartbeats 4000000 in
set_option maxRecDepth 100000 in
theorem k_X7_areTwoPosts (l : Launch) (dC : Nat → ClassId) (dI : Nat → Nat → Nat) (h0 : Nat) (q n : Nat → Nat) (dl : Int32) (cI : ClassId) (cy : Nat → ClassId) (L : List Nat) (t : Nat → Nat) (f : Nat → va_E) (hT : ty_ cI cy L t f) (hQ : qs_ q t) (hN : nb_ n) (a1 : Int32) (a2 : Int32) : Met l yX7_areTwoPosts wsX7_areTwoPosts ({ frames := 1, cells := 0, slots := 0, locals := 21 }) (va_Pc [.ref h0, .int a1, .int a2] (pt_P (dC, dI) vwCl (tt_ cI cy) (xo_ h0 q n dl ++ va_pl L f))) (pg_Q (gi_ (fun r => ¬ r = 0 → vp_in a1 8 ∧ vp_in a2 8))) 0 0 pu_F := by
  refine Met.ofW (cc := cX7_areTwoPosts) (maxL := 3) (ret := (some .boolean)) (by decide) rfl ?_
  intro p e s m args below meth c s₁ B hml hv
  obtain ⟨rfl, hP, hK, hW0⟩ := hv
  have hx := B.exec
  have hb := B.bytes
  have hr := B.returns
  have hts := atoms_spec (ws := wsX7_areTwoPosts) B.pre
  have hown : s.vm.findClass RX7 = some m.cls := findClass_of_methodNamed B.named
  have hlocks := B.notSynchronized
  have hl := lv_entry ([.ref h0, .int a1, .int a2]) (n := 3) (Nat.le_of_ble_eq_true rfl)
  rw [lg_entry_eq]
  generalize (lg_sl ([.ref h0, .int a1, .int a2]) ++ List.replicate (3 - (lg_sl ([.ref h0, .int a1, .int a2])).length) Slot.unset).toArray = ls at hl ⊢
  have hl : lv_has ls 3 [(0, .ref h0), (1, .int a1), (2, .int a2)] := hl
  refine lv_iload_n hx hb dX7_areTwoPosts_0 rfl (lv_at hl 1 rfl) ?_
  refine lv_iload_n hx hb dX7_areTwoPosts_1 rfl (lv_at hl 2 rfl) ?_
  refine lv_icmp_eq (tgt := 25) hx hb dX7_areTwoPosts_2 (by decide) (fun h_1 => ?_) (fun h_1 => ?_)
  · skip
    refine lv_iconst (v := 0) hx hb dX7_areTwoPosts_25 (by decide) ?_
    exact W.zret (v := 0) hx hb hr rfl (fun t ht hW => ⟨_, rfl, ⟨0, rfl, (fun z => absurd rfl z)⟩, ht⟩) (fun q h => by cases h) dX7_areTwoPosts_26
  · skip
    refine lv_aload_n hx hb dX7_areTwoPosts_5 rfl (lv_at hl 0 rfl) ?_
    refine lv_iload_n hx hb dX7_areTwoPosts_6 rfl (lv_at hl 1 rfl) ?_
    refine pg_call (va_runV (As := [.int a1]) (rest := []) ⟨hx, hb, hml, hown, hts⟩ (k_X7_postAt l dC dI h0 q n dl cI cy L t f hT hQ hN a1) (cwV 1 hts gX7_areTwoPosts_X7_postAt rfl rfl rfl (by decide +kernel) ⟨Nat.le_of_ble_eq_true rfl, Nat.le_of_ble_eq_true rfl⟩) (pt_pre hP hK hW0 (ci := 6) (q0 := 0) rfl rfl) rfl rfl hl.1 rfl (lv_room (Nat.le_of_ble_eq_true rfl)) dX7_areTwoPosts_7 ⟨Nat.le_of_ble_eq_true rfl, Nat.le_of_ble_eq_true rfl⟩) (fun w2 hw2 => ?_)
    obtain ⟨o2, rfl, hg2⟩ := hw2
    cases o2 with
    | none =>
      refine lv_ifnullN (tgt := 25) hx hb dX7_areTwoPosts_10 (by decide) ?_
      refine lv_iconst (v := 0) hx hb dX7_areTwoPosts_25 (by decide) ?_
      exact W.zret (v := 0) hx hb hr rfl (fun t ht hW => ⟨_, rfl, ⟨0, rfl, (fun z => absurd rfl z)⟩, ht⟩) (fun q h => by cases h) dX7_areTwoPosts_26
    | some b2 =>
      have hk2 := hg2 b2 rfl
      refine lv_ifnull hx hb dX7_areTwoPosts_10 ?_
      refine lv_aload_n hx hb dX7_areTwoPosts_13 rfl (lv_at hl 0 rfl) ?_
      refine lv_iload_n hx hb dX7_areTwoPosts_14 rfl (lv_at hl 2 rfl) ?_
      refine pg_call (va_runV (As := [.int a2]) (rest := []) ⟨hx, hb, hml, hown, hts⟩ (k_X7_postAt l dC dI h0 q n dl cI cy L t f hT hQ hN a2) (cwV 1 hts gX7_areTwoPosts_X7_postAt rfl rfl rfl (by decide +kernel) ⟨Nat.le_of_ble_eq_true rfl, Nat.le_of_ble_eq_true rfl⟩) (pt_pre hP hK hW0 (ci := 6) (q0 := 0) rfl rfl) rfl rfl hl.1 rfl (lv_room (Nat.le_of_ble_eq_true rfl)) dX7_areTwoPosts_15 ⟨Nat.le_of_ble_eq_true rfl, Nat.le_of_ble_eq_true rfl⟩) (fun w3 hw3 => ?_)
      obtain ⟨o3, rfl, hg3⟩ := hw3
      cases o3 with
      | none =>
        refine lv_ifnullN (tgt := 25) hx hb dX7_areTwoPosts_18 (by decide) ?_
        refine lv_iconst (v := 0) hx hb dX7_areTwoPosts_25 (by decide) ?_
        exact W.zret (v := 0) hx hb hr rfl (fun t ht hW => ⟨_, rfl, ⟨0, rfl, (fun z => absurd rfl z)⟩, ht⟩) (fun q h => by cases h) dX7_areTwoPosts_26
      | some b3 =>
        have hk3 := hg3 b3 rfl
        refine lv_ifnull hx hb dX7_areTwoPosts_18 ?_
        refine lv_iconst (v := 1) hx hb dX7_areTwoPosts_21 (by decide) ?_
        refine lv_goto (tgt := 26) hx hb dX7_areTwoPosts_22 (by decide) ?_
        exact W.zret (v := 1) hx hb hr rfl (fun t ht hW => ⟨_, rfl, ⟨1, rfl, (fun _ => ⟨hk2.2, hk3.2⟩)⟩, ht⟩) (fun q h => by cases h) dX7_areTwoPosts_26

set_option maxHeartbeats 4000000 in
set_option maxRecDepth 100000 in
theorem k_X7_canWrite (l : Launch) (dC : Nat → ClassId) (dI : Nat → Nat → Nat) (h0 : Nat) (q n : Nat → Nat) (dl : Int32) (cI : ClassId) (cy : Nat → ClassId) (L : List Nat) (t : Nat → Nat) (f : Nat → va_E) (hT : ty_ cI cy L t f) (hQ : qs_ q t) (hN : nb_ n) (a1 : Int32) (a2 : Int32) : Met l yX7_canWrite wsX7_canWrite ({ frames := 2, cells := 0, slots := 0, locals := 43 }) (va_Pc [.ref h0, .int a1, .int a2] (pt_P (dC, dI) vwCl (tt_ cI cy) (xo_ h0 q n dl ++ va_pl L f))) (pg_Q (gi_ (fun r => True))) 0 0 pu_F := by
  refine Met.ofW (cc := cX7_canWrite) (maxL := 3) (ret := (some .boolean)) (by decide) rfl ?_
  intro p e s m args below meth c s₁ B hml hv
  obtain ⟨rfl, hP, hK, hW0⟩ := hv
  have hx := B.exec
  have hb := B.bytes
  have hr := B.returns
  have hts := atoms_spec (ws := wsX7_canWrite) B.pre
  have hown : s.vm.findClass RX7 = some m.cls := findClass_of_methodNamed B.named
  have hlocks := B.notSynchronized
  have hinX7 : ∀ w ∈ u_ws RX7 TX7 14, w ∈ wsX7_canWrite := by decide +kernel
  have hl := lv_entry ([.ref h0, .int a1, .int a2]) (n := 3) (Nat.le_of_ble_eq_true rfl)
  rw [lg_entry_eq]
  generalize (lg_sl ([.ref h0, .int a1, .int a2]) ++ List.replicate (3 - (lg_sl ([.ref h0, .int a1, .int a2])).length) Slot.unset).toArray = ls at hl ⊢
  have hl : lv_has ls 3 [(0, .ref h0), (1, .int a1), (2, .int a2)] := hl
  refine lv_aload_n hx hb dX7_canWrite_0 rfl (lv_at hl 0 rfl) ?_
  refine lv_iload_n hx hb dX7_canWrite_1 rfl (lv_at hl 1 rfl) ?_
  refine lv_iload_n hx hb dX7_canWrite_2 rfl (lv_at hl 2 rfl) ?_
  refine pg_call (va_runV (As := [.int a1, .int a2]) (rest := []) ⟨hx, hb, hml, hown, hts⟩ (k_X7_areTwoPosts l dC dI h0 q n dl cI cy L t f hT hQ hN a1 a2) (cwV 2 hts gX7_canWrite_X7_areTwoPosts rfl rfl rfl (by decide +kernel) ⟨Nat.le_of_ble_eq_true rfl, Nat.le_of_ble_eq_true rfl⟩) (pt_pre hP hK hW0 (ci := 6) (q0 := 0) rfl rfl) rfl rfl hl.1 rfl (lv_room (Nat.le_of_ble_eq_true rfl)) dX7_canWrite_3 ⟨Nat.le_of_ble_eq_true rfl, Nat.le_of_ble_eq_true rfl⟩) (fun w1 hw1 => ?_)
  obtain ⟨r1, rfl, hg1⟩ := hw1
  refine lv_if_eq (tgt := 23) hx hb dX7_canWrite_6 (by decide) (fun h_2 => ?_) (fun h_2 => ?_)
  · skip
    refine lv_iconst (v := 0) hx hb dX7_canWrite_23 (by decide) ?_
    exact W.zret (v := 0) hx hb hr rfl (fun t ht hW => ⟨_, rfl, ⟨0, rfl, trivial⟩, ht⟩) (fun q h => by cases h) dX7_canWrite_24
  · skip
    refine lv_aload_n hx hb dX7_canWrite_9 rfl (lv_at hl 0 rfl) ?_
    refine va_get (D := (dC, dI)) (ci := 6) (v := .int (nI (n 4))) (C := RX7) (T := TX7) (N := 14) hx hb hts hinX7 hown hK hP 0 rfl rfl 12 (by decide) (hts (.fieldLink RX7 165 "FurPosts" "letterCount" "I") (by decide +kernel)) (fun _ h9 => h9) rfl dX7_canWrite_10 ?_
    refine lv_sipush (v := 300) hx hb dX7_canWrite_13 (by decide) ?_
    refine lv_icmp_ge (tgt := 23) hx hb dX7_canWrite_16 (by decide) (fun h_3 => ?_) (fun h_3 => ?_)
    · skip
      refine lv_iconst (v := 0) hx hb dX7_canWrite_23 (by decide) ?_
      exact W.zret (v := 0) hx hb hr rfl (fun t ht hW => ⟨_, rfl, ⟨0, rfl, trivial⟩, ht⟩) (fun q h => by cases h) dX7_canWrite_24
    · skip
      refine lv_iconst (v := 1) hx hb dX7_canWrite_19 (by decide) ?_
      refine lv_goto (tgt := 24) hx hb dX7_canWrite_20 (by decide) ?_
      exact W.zret (v := 1) hx hb hr rfl (fun t ht hW => ⟨_, rfl, ⟨1, rfl, trivial⟩, ht⟩) (fun q h => by cases h) dX7_canWrite_24

set_option maxHeartbeats 4000000 in
set_option maxRecDepth 100000 in
theorem k_X7_isTrade (l : Launch) (a1 : Int32) (a2 : Int32) (a3 : Int32) : Met l yX7_isTrade wsX7_isTrade ({ frames := 1, cells := 0, slots := 0, locals := 22 }) (va_Pc [.int a1, .int a2, .int a3] (fun _ => True)) (pg_Q (gi_ (fun r => ¬ r = 0 → vp_in a1 12 ∧ vp_in a2 6))) 0 0 pu_F := by
  refine Met.ofW (cc := cX7_isTrade) (maxL := 3) (ret := (some .boolean)) (by decide) rfl ?_
  intro p e s m args below meth c s₁ B hml hv
  obtain ⟨rfl, -⟩ := hv
  have hx := B.exec
  have hb := B.bytes
  have hr := B.returns
  have hts := atoms_spec (ws := wsX7_isTrade) B.pre
  have hown : s.vm.findClass RX7 = some m.cls := findClass_of_methodNamed B.named
  have hlocks := B.notSynchronized
  have hl := lv_entry ([.int a1, .int a2, .int a3]) (n := 3) (Nat.le_of_ble_eq_true rfl)
  rw [lg_entry_eq]
  generalize (lg_sl ([.int a1, .int a2, .int a3]) ++ List.replicate (3 - (lg_sl ([.int a1, .int a2, .int a3])).length) Slot.unset).toArray = ls at hl ⊢
  have hl : lv_has ls 3 [(0, .int a1), (1, .int a2), (2, .int a3)] := hl
  refine lv_iload_n hx hb dX7_isTrade_0 rfl (lv_at hl 0 rfl) ?_
  refine pu_call (va_runS (As := [.int a1]) (rest := []) ⟨hx, hb, hml, hown, hts⟩ (c_X7_isHunter l a1) (va_cwS 1 hts gX7_isTrade_X7_isHunter rfl rfl rfl (by decide +kernel) ⟨Nat.le_of_ble_eq_true rfl, Nat.le_of_ble_eq_true rfl⟩) pu_preS rfl rfl hl.1 rfl (lv_room (Nat.le_of_ble_eq_true rfl)) dX7_isTrade_1 ⟨Nat.le_of_ble_eq_true rfl, Nat.le_of_ble_eq_true rfl⟩) ?_
  refine lv_if_eq (tgt := 29) hx hb dX7_isTrade_4 (by decide) (fun h_1 => ?_) (fun h_1 => ?_)
  · skip
    refine lv_iconst (v := 0) hx hb dX7_isTrade_29 (by decide) ?_
    exact W.zret (v := 0) hx hb hr rfl (fun t ht hW => ⟨_, rfl, ⟨0, rfl, (fun z => absurd rfl z)⟩, ht⟩) (fun q h => by cases h) dX7_isTrade_30
  · skip
    refine lv_iload_n hx hb dX7_isTrade_7 rfl (lv_at hl 1 rfl) ?_
    refine pu_call (va_runS (As := [.int a2]) (rest := []) ⟨hx, hb, hml, hown, hts⟩ (c_X7_isWare l a2) (va_cwS 1 hts gX7_isTrade_X7_isWare rfl rfl rfl (by decide +kernel) ⟨Nat.le_of_ble_eq_true rfl, Nat.le_of_ble_eq_true rfl⟩) pu_preS rfl rfl hl.1 rfl (lv_room (Nat.le_of_ble_eq_true rfl)) dX7_isTrade_8 ⟨Nat.le_of_ble_eq_true rfl, Nat.le_of_ble_eq_true rfl⟩) ?_
    refine lv_if_eq (tgt := 29) hx hb dX7_isTrade_11 (by decide) (fun h_2 => ?_) (fun h_2 => ?_)
    · skip
      refine lv_iconst (v := 0) hx hb dX7_isTrade_29 (by decide) ?_
      exact W.zret (v := 0) hx hb hr rfl (fun t ht hW => ⟨_, rfl, ⟨0, rfl, (fun z => absurd rfl z)⟩, ht⟩) (fun q h => by cases h) dX7_isTrade_30
    · skip
      refine lv_iload_n hx hb dX7_isTrade_14 rfl (lv_at hl 2 rfl) ?_
      refine lv_iconst (v := 1) hx hb dX7_isTrade_15 (by decide) ?_
      refine lv_sipush (v := 1000) hx hb dX7_isTrade_16 (by decide) ?_
      refine pu_call (va_runS (As := [.int a3, .int 1, .int 1000]) (rest := []) ⟨hx, hb, hml, hown, hts⟩ (c_X7_isWithin l a3 1 1000) (va_cwS 3 hts gX7_isTrade_X7_isWithin rfl rfl rfl (by decide +kernel) ⟨Nat.le_of_ble_eq_true rfl, Nat.le_of_ble_eq_true rfl⟩) pu_preS rfl rfl hl.1 rfl (lv_room (Nat.le_of_ble_eq_true rfl)) dX7_isTrade_19 ⟨Nat.le_of_ble_eq_true rfl, Nat.le_of_ble_eq_true rfl⟩) ?_
      refine lv_if_eq (tgt := 29) hx hb dX7_isTrade_22 (by decide) (fun h_3 => ?_) (fun h_3 => ?_)
      · skip
        refine lv_iconst (v := 0) hx hb dX7_isTrade_29 (by decide) ?_
        exact W.zret (v := 0) hx hb hr rfl (fun t ht hW => ⟨_, rfl, ⟨0, rfl, (fun z => absurd rfl z)⟩, ht⟩) (fun q h => by cases h) dX7_isTrade_30
      · skip
        refine lv_iconst (v := 1) hx hb dX7_isTrade_25 (by decide) ?_
        refine lv_goto (tgt := 30) hx hb dX7_isTrade_26 (by decide) ?_
        exact W.zret (v := 1) hx hb hr rfl (fun t ht hW => ⟨_, rfl, ⟨1, rfl, (fun _ => ⟨sp_vp h_1 rfl, sp_vp h_2 rfl⟩)⟩, ht⟩) (fun q h => by cases h) dX7_isTrade_30

set_option maxHeartbeats 4000000 in
set_option maxRecDepth 100000 in
theorem k_X6_startsAt (l : Launch) (dC : Nat → ClassId) (dI : Nat → Nat → Nat) (h0 : Nat) (q n : Nat → Nat) (dl : Int32) (cI : ClassId) (cy : Nat → ClassId) (L : List Nat) (t : Nat → Nat) (f : Nat → va_E) (hT : ty_ cI cy L t f) (hQ : qs_ q t) (hN : nb_ n) (a0 : Nat) (ka0 : t a0 = 2) (a1 : Int32) : Met l yX6_startsAt wsX6_startsAt ({ frames := 0, cells := 0, slots := 0, locals := 0 }) (va_Pc [.ref a0, .int a1] (pt_P (dC, dI) vwCl (tt_ cI cy) (xo_ h0 q n dl ++ va_pl L f))) (pg_Q (gi_ (fun r => True))) 0 0 pu_F := by
  refine Met.ofW (cc := cX6_startsAt) (maxL := 2) (ret := (some .boolean)) (by decide) rfl ?_
  intro p e s m args below meth c s₁ B hml hv
  obtain ⟨rfl, hP, hK, hW0⟩ := hv
  have hx := B.exec
  have hb := B.bytes
  have hr := B.returns
  have hts := atoms_spec (ws := wsX6_startsAt) B.pre
  have hown : s.vm.findClass RX6 = some m.cls := findClass_of_methodNamed B.named
  have hlocks := B.notSynchronized
  have hinX6 : ∀ w ∈ u_ws RX6 TX6 6, w ∈ wsX6_startsAt := by decide +kernel
  have hl := lv_entry ([.ref a0, .int a1]) (n := 2) (Nat.le_of_ble_eq_true rfl)
  rw [lg_entry_eq]
  generalize (lg_sl ([.ref a0, .int a1]) ++ List.replicate (2 - (lg_sl ([.ref a0, .int a1])).length) Slot.unset).toArray = ls at hl ⊢
  have hl : lv_has ls 2 [(0, .ref a0), (1, .int a1)] := hl
  refine lv_iload_n hx hb dX6_startsAt_0 rfl (lv_at hl 1 rfl) ?_
  refine lv_aload_n hx hb dX6_startsAt_1 rfl (lv_at hl 0 rfl) ?_
  obtain ⟨hm1, i1, g1, hi1, he1⟩ := at_2 (xo_ h0 q n dl) hT ka0
  refine va_get (D := (dC, dI)) (ci := 5) (v := .int (g1 0)) (C := RX6) (T := TX6) (N := 6) hx hb hts hinX6 hown hK hP i1 he1 rfl 0 (by decide) (hts (.fieldLink RX6 9 "FurPosts$Way" "a" "I") (by decide +kernel)) (fun _ h9 => h9) rfl dX6_startsAt_2 ?_
  refine lv_icmp_eq (tgt := 16) hx hb dX6_startsAt_5 (by decide) (fun h_2 => ?_) (fun h_2 => ?_)
  · skip
    refine lv_iconst (v := 1) hx hb dX6_startsAt_16 (by decide) ?_
    refine lv_goto (tgt := 21) hx hb dX6_startsAt_17 (by decide) ?_
    exact W.zret (v := 1) hx hb hr rfl (fun t ht hW => ⟨_, rfl, ⟨1, rfl, trivial⟩, ht⟩) (fun q h => by cases h) dX6_startsAt_21
  · skip
    refine lv_iload_n hx hb dX6_startsAt_8 rfl (lv_at hl 1 rfl) ?_
    refine lv_aload_n hx hb dX6_startsAt_9 rfl (lv_at hl 0 rfl) ?_
    refine va_get (D := (dC, dI)) (ci := 5) (v := .int (g1 1)) (C := RX6) (T := TX6) (N := 6) hx hb hts hinX6 hown hK hP i1 he1 rfl 1 (by decide) (hts (.fieldLink RX6 15 "FurPosts$Way" "b" "I") (by decide +kernel)) (fun _ h9 => h9) rfl dX6_startsAt_10 ?_
    refine lv_icmp_ne (tgt := 20) hx hb dX6_startsAt_13 (by decide) (fun h_3 => ?_) (fun h_3 => ?_)
    · skip
      refine lv_iconst (v := 0) hx hb dX6_startsAt_20 (by decide) ?_
      exact W.zret (v := 0) hx hb hr rfl (fun t ht hW => ⟨_, rfl, ⟨0, rfl, trivial⟩, ht⟩) (fun q h => by cases h) dX6_startsAt_21
    · skip
      refine lv_iconst (v := 1) hx hb dX6_startsAt_16 (by decide) ?_
      refine lv_goto (tgt := 21) hx hb dX6_startsAt_17 (by decide) ?_
      exact W.zret (v := 1) hx hb hr rfl (fun t ht hW => ⟨_, rfl, ⟨1, rfl, trivial⟩, ht⟩) (fun q h => by cases h) dX6_startsAt_21

set_option maxHeartbeats 4000000 in
set_option maxRecDepth 100000 in
theorem k_X6_otherEnd (l : Launch) (dC : Nat → ClassId) (dI : Nat → Nat → Nat) (h0 : Nat) (q n : Nat → Nat) (dl : Int32) (cI : ClassId) (cy : Nat → ClassId) (L : List Nat) (t : Nat → Nat) (f : Nat → va_E) (hT : ty_ cI cy L t f) (hQ : qs_ q t) (hN : nb_ n) (a0 : Nat) (ka0 : t a0 = 2) (a1 : Int32) : Met l yX6_otherEnd wsX6_otherEnd ({ frames := 0, cells := 0, slots := 0, locals := 0 }) (va_Pc [.ref a0, .int a1] (pt_P (dC, dI) vwCl (tt_ cI cy) (xo_ h0 q n dl ++ va_pl L f))) (pg_Q (gi_ (fun r => True))) 0 0 pu_F := by
  refine Met.ofW (cc := cX6_otherEnd) (maxL := 2) (ret := (some .int)) (by decide) rfl ?_
  intro p e s m args below meth c s₁ B hml hv
  obtain ⟨rfl, hP, hK, hW0⟩ := hv
  have hx := B.exec
  have hb := B.bytes
  have hr := B.returns
  have hts := atoms_spec (ws := wsX6_otherEnd) B.pre
  have hown : s.vm.findClass RX6 = some m.cls := findClass_of_methodNamed B.named
  have hlocks := B.notSynchronized
  have hinX6 : ∀ w ∈ u_ws RX6 TX6 6, w ∈ wsX6_otherEnd := by decide +kernel
  have hl := lv_entry ([.ref a0, .int a1]) (n := 2) (Nat.le_of_ble_eq_true rfl)
  rw [lg_entry_eq]
  generalize (lg_sl ([.ref a0, .int a1]) ++ List.replicate (2 - (lg_sl ([.ref a0, .int a1])).length) Slot.unset).toArray = ls at hl ⊢
  have hl : lv_has ls 2 [(0, .ref a0), (1, .int a1)] := hl
  refine lv_iload_n hx hb dX6_otherEnd_0 rfl (lv_at hl 1 rfl) ?_
  refine lv_aload_n hx hb dX6_otherEnd_1 rfl (lv_at hl 0 rfl) ?_
  obtain ⟨hm1, i1, g1, hi1, he1⟩ := at_2 (xo_ h0 q n dl) hT ka0
  refine va_get (D := (dC, dI)) (ci := 5) (v := .int (g1 0)) (C := RX6) (T := TX6) (N := 6) hx hb hts hinX6 hown hK hP i1 he1 rfl 0 (by decide) (hts (.fieldLink RX6 9 "FurPosts$Way" "a" "I") (by decide +kernel)) (fun _ h9 => h9) rfl dX6_otherEnd_2 ?_
  refine lv_icmp_ne (tgt := 15) hx hb dX6_otherEnd_5 (by decide) (fun h_2 => ?_) (fun h_2 => ?_)
  · skip
    refine lv_aload_n hx hb dX6_otherEnd_15 rfl (lv_at hl 0 rfl) ?_
    refine va_get (D := (dC, dI)) (ci := 5) (v := .int (g1 0)) (C := RX6) (T := TX6) (N := 6) hx hb hts hinX6 hown hK hP i1 he1 rfl 0 (by decide) (hts (.fieldLink RX6 9 "FurPosts$Way" "a" "I") (by decide +kernel)) (fun _ h9 => h9) rfl dX6_otherEnd_16 ?_
    exact W.iret (v := (g1 0)) hx hb hr (fun t ht hW => ⟨_, rfl, ⟨(g1 0), rfl, trivial⟩, ht⟩) (fun q h => by cases h) dX6_otherEnd_19
  · skip
    refine lv_aload_n hx hb dX6_otherEnd_8 rfl (lv_at hl 0 rfl) ?_
    refine va_get (D := (dC, dI)) (ci := 5) (v := .int (g1 1)) (C := RX6) (T := TX6) (N := 6) hx hb hts hinX6 hown hK hP i1 he1 rfl 1 (by decide) (hts (.fieldLink RX6 15 "FurPosts$Way" "b" "I") (by decide +kernel)) (fun _ h9 => h9) rfl dX6_otherEnd_9 ?_
    refine lv_goto (tgt := 19) hx hb dX6_otherEnd_12 (by decide) ?_
    exact W.iret (v := (g1 1)) hx hb hr (fun t ht hW => ⟨_, rfl, ⟨(g1 1), rfl, trivial⟩, ht⟩) (fun q h => by cases h) dX6_otherEnd_19

set_option maxHeartbeats 4000000 in
set_option maxRecDepth 100000 in
theorem k_X6_isOpenOn (l : Launch) (dC : Nat → ClassId) (dI : Nat → Nat → Nat) (h0 : Nat) (q n : Nat → Nat) (dl : Int32) (cI : ClassId) (cy : Nat → ClassId) (L : List Nat) (t : Nat → Nat) (f : Nat → va_E) (hT : ty_ cI cy L t f) (hQ : qs_ q t) (hN : nb_ n) (a0 : Nat) (ka0 : t a0 = 2) (a1 : Int32) : Met l yX6_isOpenOn wsX6_isOpenOn ({ frames := 1, cells := 0, slots := 0, locals := 22 }) (va_Pc [.ref a0, .int a1] (pt_P (dC, dI) vwCl (tt_ cI cy) (xo_ h0 q n dl ++ va_pl L f))) (pg_Q (gi_ (fun r => True))) 0 0 pu_F := by
  refine Met.ofW (cc := cX6_isOpenOn) (maxL := 2) (ret := (some .boolean)) (by decide) rfl ?_
  intro p e s m args below meth c s₁ B hml hv
  obtain ⟨rfl, hP, hK, hW0⟩ := hv
  have hx := B.exec
  have hb := B.bytes
  have hr := B.returns
  have hts := atoms_spec (ws := wsX6_isOpenOn) B.pre
  have hown : s.vm.findClass RX6 = some m.cls := findClass_of_methodNamed B.named
  have hlocks := B.notSynchronized
  have hinX6 : ∀ w ∈ u_ws RX6 TX6 6, w ∈ wsX6_isOpenOn := by decide +kernel
  have hl := lv_entry ([.ref a0, .int a1]) (n := 2) (Nat.le_of_ble_eq_true rfl)
  rw [lg_entry_eq]
  generalize (lg_sl ([.ref a0, .int a1]) ++ List.replicate (2 - (lg_sl ([.ref a0, .int a1])).length) Slot.unset).toArray = ls at hl ⊢
  have hl : lv_has ls 2 [(0, .ref a0), (1, .int a1)] := hl
  refine lv_iload_n hx hb dX6_isOpenOn_0 rfl (lv_at hl 1 rfl) ?_
  refine lv_sipush (v := 365) hx hb dX6_isOpenOn_1 (by decide) ?_
  refine lv_irem hx hb dX6_isOpenOn_4 (by decide) ?_
  refine lv_topi (fun v1 _ => ?_)
  refine lv_aload_n hx hb dX6_isOpenOn_5 rfl (lv_at hl 0 rfl) ?_
  obtain ⟨hm2, i2, g2, hi2, he2⟩ := at_2 (xo_ h0 q n dl) hT ka0
  refine va_get (D := (dC, dI)) (ci := 5) (v := .int (g2 3)) (C := RX6) (T := TX6) (N := 6) hx hb hts hinX6 hown hK hP i2 he2 rfl 3 (by decide) (hts (.fieldLink RX6 21 "FurPosts$Way" "firstOpen" "I") (by decide +kernel)) (fun _ h9 => h9) rfl dX6_isOpenOn_6 ?_
  refine lv_aload_n hx hb dX6_isOpenOn_9 rfl (lv_at hl 0 rfl) ?_
  refine va_get (D := (dC, dI)) (ci := 5) (v := .int (g2 4)) (C := RX6) (T := TX6) (N := 6) hx hb hts hinX6 hown hK hP i2 he2 rfl 4 (by decide) (hts (.fieldLink RX6 24 "FurPosts$Way" "lastOpen" "I") (by decide +kernel)) (fun _ h9 => h9) rfl dX6_isOpenOn_10 ?_
  refine pu_call (va_runSN (As := [.int v1, .int (g2 3), .int (g2 4)]) (rest := []) ⟨hx, hb, hml, hown, hts⟩ (c_X7_isWithin l v1 (g2 3) (g2 4)) ⟨va_cnB 3 hts gX6_isOpenOn_X7_isWithin_n30 rfl rfl rfl (nw_w6 hW0) (hts (.initialized RX7) (by decide +kernel)) (by decide +kernel) ⟨Nat.le_of_ble_eq_true rfl, Nat.le_of_ble_eq_true rfl⟩, hts (.static yX7_isWithin) (by decide +kernel), trivial⟩ pu_preS rfl rfl hl.1 rfl (lv_room (Nat.le_of_ble_eq_true rfl)) dX6_isOpenOn_13 ⟨Nat.le_of_ble_eq_true rfl, Nat.le_of_ble_eq_true rfl⟩) ?_
  exact W.zret (v := (sp_in v1 (g2 3) (g2 4))) hx hb hr (sp_narrow _ _ _) (fun t ht hW => ⟨_, rfl, ⟨(sp_in v1 (g2 3) (g2 4)), rfl, trivial⟩, ht⟩) (fun q h => by cases h) dX6_isOpenOn_16

set_option maxHeartbeats 4000000 in
set_option maxRecDepth 100000 in
theorem k_X0_isBetween (l : Launch) (dC : Nat → ClassId) (dI : Nat → Nat → Nat) (h0 : Nat) (q n : Nat → Nat) (dl : Int32) (cI : ClassId) (cy : Nat → ClassId) (L : List Nat) (t : Nat → Nat) (f : Nat → va_E) (hT : ty_ cI cy L t f) (hQ : qs_ q t) (hN : nb_ n) (a0 : Nat) (ka0 : t a0 = 3) (a1 : Int32) (a2 : Int32) : Met l yX0_isBetween wsX0_isBetween ({ frames := 0, cells := 0, slots := 0, locals := 0 }) (va_Pc [.ref a0, .int a1, .int a2] (pt_P (dC, dI) vwCl (tt_ cI cy) (xo_ h0 q n dl ++ va_pl L f))) (pg_Q (gi_ (fun r => True))) 0 0 pu_F := by
  refine Met.ofW (cc := cX0_isBetween) (maxL := 3) (ret := (some .boolean)) (by decide) rfl ?_
  intro p e s m args below meth c s₁ B hml hv
  obtain ⟨rfl, hP, hK, hW0⟩ := hv
  have hx := B.exec
  have hb := B.bytes
  have hr := B.returns
  have hts := atoms_spec (ws := wsX0_isBetween) B.pre
  have hown : s.vm.findClass RX0 = some m.cls := findClass_of_methodNamed B.named
  have hlocks := B.notSynchronized
  have hinX0 : ∀ w ∈ u_ws RX0 TX0 11, w ∈ wsX0_isBetween := by decide +kernel
  have hl := lv_entry ([.ref a0, .int a1, .int a2]) (n := 3) (Nat.le_of_ble_eq_true rfl)
  rw [lg_entry_eq]
  generalize (lg_sl ([.ref a0, .int a1, .int a2]) ++ List.replicate (3 - (lg_sl ([.ref a0, .int a1, .int a2])).length) Slot.unset).toArray = ls at hl ⊢
  have hl : lv_has ls 3 [(0, .ref a0), (1, .int a1), (2, .int a2)] := hl
  refine lv_aload_n hx hb dX0_isBetween_0 rfl (lv_at hl 0 rfl) ?_
  obtain ⟨hm1, i1, g1, s1, w1, hi1, he1, k1_0, k1_1⟩ := at_3 (xo_ h0 q n dl) hT ka0
  refine va_get (D := (dC, dI)) (ci := 0) (v := .int (g1 0)) (C := RX0) (T := TX0) (N := 11) hx hb hts hinX0 hown hK hP i1 he1 rfl 0 (by decide) (hts (.fieldLink RX0 18 "FurPosts$Canoe" "from" "I") (by decide +kernel)) (fun _ h9 => h9) rfl dX0_isBetween_1 ?_
  refine lv_iload_n hx hb dX0_isBetween_4 rfl (lv_at hl 1 rfl) ?_
  refine lv_icmp_ne (tgt := 16) hx hb dX0_isBetween_5 (by decide) (fun h_2 => ?_) (fun h_2 => ?_)
  · skip
    refine lv_aload_n hx hb dX0_isBetween_16 rfl (lv_at hl 0 rfl) ?_
    refine va_get (D := (dC, dI)) (ci := 0) (v := .int (g1 0)) (C := RX0) (T := TX0) (N := 11) hx hb hts hinX0 hown hK hP i1 he1 rfl 0 (by decide) (hts (.fieldLink RX0 18 "FurPosts$Canoe" "from" "I") (by decide +kernel)) (fun _ h9 => h9) rfl dX0_isBetween_17 ?_
    refine lv_iload_n hx hb dX0_isBetween_20 rfl (lv_at hl 2 rfl) ?_
    refine lv_icmp_ne (tgt := 36) hx hb dX0_isBetween_21 (by decide) (fun h_3 => ?_) (fun h_3 => ?_)
    · skip
      refine lv_iconst (v := 0) hx hb dX0_isBetween_36 (by decide) ?_
      exact W.zret (v := 0) hx hb hr rfl (fun t ht hW => ⟨_, rfl, ⟨0, rfl, trivial⟩, ht⟩) (fun q h => by cases h) dX0_isBetween_37
    · skip
      refine lv_aload_n hx hb dX0_isBetween_24 rfl (lv_at hl 0 rfl) ?_
      refine va_get (D := (dC, dI)) (ci := 0) (v := .int (g1 1)) (C := RX0) (T := TX0) (N := 11) hx hb hts hinX0 hown hK hP i1 he1 rfl 1 (by decide) (hts (.fieldLink RX0 21 "FurPosts$Canoe" "to" "I") (by decide +kernel)) (fun _ h9 => h9) rfl dX0_isBetween_25 ?_
      refine lv_iload_n hx hb dX0_isBetween_28 rfl (lv_at hl 1 rfl) ?_
      refine lv_icmp_ne (tgt := 36) hx hb dX0_isBetween_29 (by decide) (fun h_4 => ?_) (fun h_4 => ?_)
      · skip
        refine lv_iconst (v := 0) hx hb dX0_isBetween_36 (by decide) ?_
        exact W.zret (v := 0) hx hb hr rfl (fun t ht hW => ⟨_, rfl, ⟨0, rfl, trivial⟩, ht⟩) (fun q h => by cases h) dX0_isBetween_37
      · skip
        refine lv_iconst (v := 1) hx hb dX0_isBetween_32 (by decide) ?_
        refine lv_goto (tgt := 37) hx hb dX0_isBetween_33 (by decide) ?_
        exact W.zret (v := 1) hx hb hr rfl (fun t ht hW => ⟨_, rfl, ⟨1, rfl, trivial⟩, ht⟩) (fun q h => by cases h) dX0_isBetween_37
  · skip
    refine lv_aload_n hx hb dX0_isBetween_8 rfl (lv_at hl 0 rfl) ?_
    refine va_get (D := (dC, dI)) (ci := 0) (v := .int (g1 1)) (C := RX0) (T := TX0) (N := 11) hx hb hts hinX0 hown hK hP i1 he1 rfl 1 (by decide) (hts (.fieldLink RX0 21 "FurPosts$Canoe" "to" "I") (by decide +kernel)) (fun _ h9 => h9) rfl dX0_isBetween_9 ?_
    refine lv_iload_n hx hb dX0_isBetween_12 rfl (lv_at hl 2 rfl) ?_
    refine lv_icmp_eq (tgt := 32) hx hb dX0_isBetween_13 (by decide) (fun h_5 => ?_) (fun h_5 => ?_)
    · skip
      refine lv_iconst (v := 1) hx hb dX0_isBetween_32 (by decide) ?_
      refine lv_goto (tgt := 37) hx hb dX0_isBetween_33 (by decide) ?_
      exact W.zret (v := 1) hx hb hr rfl (fun t ht hW => ⟨_, rfl, ⟨1, rfl, trivial⟩, ht⟩) (fun q h => by cases h) dX0_isBetween_37
    · skip
      refine lv_aload_n hx hb dX0_isBetween_16 rfl (lv_at hl 0 rfl) ?_
      refine va_get (D := (dC, dI)) (ci := 0) (v := .int (g1 0)) (C := RX0) (T := TX0) (N := 11) hx hb hts hinX0 hown hK hP i1 he1 rfl 0 (by decide) (hts (.fieldLink RX0 18 "FurPosts$Canoe" "from" "I") (by decide +kernel)) (fun _ h9 => h9) rfl dX0_isBetween_17 ?_
      refine lv_iload_n hx hb dX0_isBetween_20 rfl (lv_at hl 2 rfl) ?_
      refine lv_icmp_ne (tgt := 36) hx hb dX0_isBetween_21 (by decide) (fun h_6 => ?_) (fun h_6 => ?_)
      · skip
        refine lv_iconst (v := 0) hx hb dX0_isBetween_36 (by decide) ?_
        exact W.zret (v := 0) hx hb hr rfl (fun t ht hW => ⟨_, rfl, ⟨0, rfl, trivial⟩, ht⟩) (fun q h => by cases h) dX0_isBetween_37
      · skip
        refine lv_aload_n hx hb dX0_isBetween_24 rfl (lv_at hl 0 rfl) ?_
        refine va_get (D := (dC, dI)) (ci := 0) (v := .int (g1 1)) (C := RX0) (T := TX0) (N := 11) hx hb hts hinX0 hown hK hP i1 he1 rfl 1 (by decide) (hts (.fieldLink RX0 21 "FurPosts$Canoe" "to" "I") (by decide +kernel)) (fun _ h9 => h9) rfl dX0_isBetween_25 ?_
        refine lv_iload_n hx hb dX0_isBetween_28 rfl (lv_at hl 1 rfl) ?_
        refine lv_icmp_ne (tgt := 36) hx hb dX0_isBetween_29 (by decide) (fun h_7 => ?_) (fun h_7 => ?_)
        · skip
          refine lv_iconst (v := 0) hx hb dX0_isBetween_36 (by decide) ?_
          exact W.zret (v := 0) hx hb hr rfl (fun t ht hW => ⟨_, rfl, ⟨0, rfl, trivial⟩, ht⟩) (fun q h => by cases h) dX0_isBetween_37
        · skip
          refine lv_iconst (v := 1) hx hb dX0_isBetween_32 (by decide) ?_
          refine lv_goto (tgt := 37) hx hb dX0_isBetween_33 (by decide) ?_
          exact W.zret (v := 1) hx hb hr rfl (fun t ht hW => ⟨_, rfl, ⟨1, rfl, trivial⟩, ht⟩) (fun q h => by cases h) dX0_isBetween_37

set_option maxHeartbeats 4000000 in
set_option maxRecDepth 100000 in
theorem k_X0_partsBooks (l : Launch) (dC : Nat → ClassId) (dI : Nat → Nat → Nat) (h0 : Nat) (q n : Nat → Nat) (dl : Int32) (cI : ClassId) (cy : Nat → ClassId) (L : List Nat) (t : Nat → Nat) (f : Nat → va_E) (hT : ty_ cI cy L t f) (hQ : qs_ q t) (hN : nb_ n) (a0 : Nat) (ka0 : t a0 = 3) : Met l yX0_partsBooks wsX0_partsBooks ({ frames := 0, cells := 0, slots := 0, locals := 0 }) (va_Pc [.ref a0] (pt_P (dC, dI) vwCl (tt_ cI cy) (xo_ h0 q n dl ++ va_pl L f))) (pg_Q (gi_ (fun r => True))) 0 0 pu_F := by
  refine Met.ofW (cc := cX0_partsBooks) (maxL := 1) (ret := (some .boolean)) (by decide) rfl ?_
  intro p e s m args below meth c s₁ B hml hv
  obtain ⟨rfl, hP, hK, hW0⟩ := hv
  have hx := B.exec
  have hb := B.bytes
  have hr := B.returns
  have hts := atoms_spec (ws := wsX0_partsBooks) B.pre
  have hown : s.vm.findClass RX0 = some m.cls := findClass_of_methodNamed B.named
  have hlocks := B.notSynchronized
  have hinX0 : ∀ w ∈ u_ws RX0 TX0 11, w ∈ wsX0_partsBooks := by decide +kernel
  have hl := lv_entry ([.ref a0]) (n := 1) (Nat.le_of_ble_eq_true rfl)
  rw [lg_entry_eq]
  generalize (lg_sl ([.ref a0]) ++ List.replicate (1 - (lg_sl ([.ref a0])).length) Slot.unset).toArray = ls at hl ⊢
  have hl : lv_has ls 1 [(0, .ref a0)] := hl
  refine lv_aload_n hx hb dX0_partsBooks_0 rfl (lv_at hl 0 rfl) ?_
  obtain ⟨hm1, i1, g1, s1, w1, hi1, he1, k1_0, k1_1⟩ := at_3 (xo_ h0 q n dl) hT ka0
  refine va_get (D := (dC, dI)) (ci := 0) (v := .int (g1 9)) (C := RX0) (T := TX0) (N := 11) hx hb hts hinX0 hown hK hP i1 he1 rfl 9 (by decide) (hts (.fieldLink RX0 15 "FurPosts$Canoe" "state" "I") (by decide +kernel)) (fun _ h9 => h9) rfl dX0_partsBooks_1 ?_
  refine lv_iconst (v := 2) hx hb dX0_partsBooks_4 (by decide) ?_
  refine lv_icmp_eq (tgt := 23) hx hb dX0_partsBooks_5 (by decide) (fun h_2 => ?_) (fun h_2 => ?_)
  · skip
    refine lv_iconst (v := 1) hx hb dX0_partsBooks_23 (by decide) ?_
    refine lv_goto (tgt := 28) hx hb dX0_partsBooks_24 (by decide) ?_
    exact W.zret (v := 1) hx hb hr rfl (fun t ht hW => ⟨_, rfl, ⟨1, rfl, trivial⟩, ht⟩) (fun q h => by cases h) dX0_partsBooks_28
  · skip
    refine lv_aload_n hx hb dX0_partsBooks_8 rfl (lv_at hl 0 rfl) ?_
    refine va_get (D := (dC, dI)) (ci := 0) (v := .int (g1 9)) (C := RX0) (T := TX0) (N := 11) hx hb hts hinX0 hown hK hP i1 he1 rfl 9 (by decide) (hts (.fieldLink RX0 15 "FurPosts$Canoe" "state" "I") (by decide +kernel)) (fun _ h9 => h9) rfl dX0_partsBooks_9 ?_
    refine lv_iconst (v := 1) hx hb dX0_partsBooks_12 (by decide) ?_
    refine lv_icmp_ne (tgt := 27) hx hb dX0_partsBooks_13 (by decide) (fun h_3 => ?_) (fun h_3 => ?_)
    · skip
      refine lv_iconst (v := 0) hx hb dX0_partsBooks_27 (by decide) ?_
      exact W.zret (v := 0) hx hb hr rfl (fun t ht hW => ⟨_, rfl, ⟨0, rfl, trivial⟩, ht⟩) (fun q h => by cases h) dX0_partsBooks_28
    · skip
      refine lv_aload_n hx hb dX0_partsBooks_16 rfl (lv_at hl 0 rfl) ?_
      refine va_get (D := (dC, dI)) (ci := 0) (v := .int (g1 10)) (C := RX0) (T := TX0) (N := 11) hx hb hts hinX0 hown hK hP i1 he1 rfl 10 (by decide) (hts (.fieldLink RX0 45 "FurPosts$Canoe" "spoilt" "Z") (by decide +kernel)) (fun _ h9 => h9) rfl dX0_partsBooks_17 ?_
      refine lv_if_eq (tgt := 27) hx hb dX0_partsBooks_20 (by decide) (fun h_4 => ?_) (fun h_4 => ?_)
      · skip
        refine lv_iconst (v := 0) hx hb dX0_partsBooks_27 (by decide) ?_
        exact W.zret (v := 0) hx hb hr rfl (fun t ht hW => ⟨_, rfl, ⟨0, rfl, trivial⟩, ht⟩) (fun q h => by cases h) dX0_partsBooks_28
      · skip
        refine lv_iconst (v := 1) hx hb dX0_partsBooks_23 (by decide) ?_
        refine lv_goto (tgt := 28) hx hb dX0_partsBooks_24 (by decide) ?_
        exact W.zret (v := 1) hx hb hr rfl (fun t ht hW => ⟨_, rfl, ⟨1, rfl, trivial⟩, ht⟩) (fun q h => by cases h) dX0_partsBooks_28

set_option maxHeartbeats 4000000 in
set_option maxRecDepth 100000 in
theorem k_X4_owedByAll (l : Launch) (dC : Nat → ClassId) (dI : Nat → Nat → Nat) (h0 : Nat) (q n : Nat → Nat) (dl : Int32) (cI : ClassId) (cy : Nat → ClassId) (L : List Nat) (t : Nat → Nat) (f : Nat → va_E) (hT : ty_ cI cy L t f) (hQ : qs_ q t) (hN : nb_ n) (a0 : Nat) (ka0 : t a0 = 1) : Met l yX4_owedByAll wsX4_owedByAll ({ frames := 0, cells := 0, slots := 0, locals := 0 }) (va_Pc [.ref a0] (pt_P (dC, dI) vwCl (tt_ cI cy) (xo_ h0 q n dl ++ va_pl L f))) (pg_Q (gi_ (fun r => True))) 0 0 pu_F := by
  refine Met.ofW (cc := cX4_owedByAll) (maxL := 3) (ret := (some .int)) (by decide) rfl ?_
  intro p e s m args below meth c s₁ B hml hv
  obtain ⟨rfl, hP, hK, hW0⟩ := hv
  have hx := B.exec
  have hb := B.bytes
  have hr := B.returns
  have hts := atoms_spec (ws := wsX4_owedByAll) B.pre
  have hown : s.vm.findClass RX4 = some m.cls := findClass_of_methodNamed B.named
  have hlocks := B.notSynchronized
  have hinX4 : ∀ w ∈ u_ws RX4 TX4 4, w ∈ wsX4_owedByAll := by decide +kernel
  have hl := lv_entry ([.ref a0]) (n := 3) (Nat.le_of_ble_eq_true rfl)
  rw [lg_entry_eq]
  generalize (lg_sl ([.ref a0]) ++ List.replicate (3 - (lg_sl ([.ref a0])).length) Slot.unset).toArray = ls at hl ⊢
  have hl : lv_has ls 3 [(0, .ref a0)] := hl
  refine lv_iconst (v := 0) hx hb dX4_owedByAll_0 (by decide) ?_
  refine lv_istore_n (lv' := [(1, .int 0), (0, .ref a0)]) hx hb dX4_owedByAll_1 rfl hl (by decide) rfl (fun ls hl => ?_)
  refine lv_iconst (v := 0) hx hb dX4_owedByAll_2 (by decide) ?_
  refine lv_istore_n (lv' := [(2, .int 0), (1, .int 0), (0, .ref a0)]) hx hb dX4_owedByAll_3 rfl hl (by decide) rfl (fun ls hl => ?_)
  have key4 : ∀ (k j4 : Nat) (x4_1 : Int32) (ls : Array Slot), j4 + k = 12 → lv_has ls 3 [(2, .int (nI j4)), (1, .int x4_1), (0, .ref a0)] →
      W p l e (headSpec wsX4_owedByAll ({ frames := 0, cells := 0, slots := 0, locals := 0 })).room s m [.ref a0].toArray below meth c s.heap [] 0 0 (MQ below (pg_Q (gi_ (fun r => True))) [.ref a0].toArray s 0 0 pu_F) (F0 m 4 ls []) := by
    intro k
    induction k with
    | zero =>
      intro j4 x4_1 ls hj hl
      have hj : j4 = 12 := by omega
      subst j4
      refine lv_iload_n hx hb dX4_owedByAll_4 rfl (lv_at hl 0 rfl) ?_
      refine lv_bipush (v := 12) hx hb dX4_owedByAll_5 (by decide) ?_
      refine lv_icmp_ge (tgt := 25) hx hb dX4_owedByAll_7 (by decide) (fun h_1 => ?_) (fun h_1 => absurd (lp_ge0 (B := 12) rfl) h_1)
      refine lv_iload_n hx hb dX4_owedByAll_25 rfl (lv_at hl 1 rfl) ?_
      exact W.iret (v := x4_1) hx hb hr (fun t ht hW => ⟨_, rfl, ⟨x4_1, rfl, trivial⟩, ht⟩) (fun q h => by cases h) dX4_owedByAll_26
    | succ k ih4 =>
      intro j4 x4_1 ls hj hl
      have hj4 : j4 < 12 := by omega
      refine lv_iload_n hx hb dX4_owedByAll_4 rfl (lv_at hl 0 rfl) ?_
      refine lv_bipush (v := 12) hx hb dX4_owedByAll_5 (by decide) ?_
      refine lv_icmp_ge (tgt := 25) hx hb dX4_owedByAll_7 (by decide) (fun h_2 => absurd h_2 (lp_ge (B := 12) (by omega) (by omega) rfl)) (fun h_2 => ?_)
      refine lv_iload_n hx hb dX4_owedByAll_10 rfl (lv_at hl 1 rfl) ?_
      refine lv_aload_n hx hb dX4_owedByAll_11 rfl (lv_at hl 2 rfl) ?_
      obtain ⟨hm3, i3, s3, p3, o3, r3, hi3, he3, k3_0, k3_1, k3_2, k3_3⟩ := at_1 (xo_ h0 q n dl) hT ka0
      refine va_get (D := (dC, dI)) (ci := 3) (v := .ref o3) (C := RX4) (T := TX4) (N := 4) hx hb hts hinX4 hown hK hP i3 he3 rfl 2 (by decide) (hts (.fieldLink RX4 18 "FurPosts$Post" "owed" "[I") (by decide +kernel)) (fun _ h9 => h9) rfl dX4_owedByAll_12 ?_
      refine lv_iload_n hx hb dX4_owedByAll_15 rfl (lv_at hl 0 rfl) ?_
      obtain ⟨hm4, i4, g4, hi4, he4⟩ := at_17 (xo_ h0 q n dl) hT k3_2
      refine va_iald hx hb hK hP i4 0 he4 rfl (i := (nI j4)) (vp_in_nI (show j4 < 12 by omega) (by decide)) dX4_owedByAll_16 ?_
      refine lv_topi (fun v5 _ => ?_)
      refine lv_iadd hx hb dX4_owedByAll_17 ?_
      refine lv_topi (fun v6 _ => ?_)
      refine lv_istore_n (lv' := [(1, .int v6), (2, .int (nI j4)), (0, .ref a0)]) hx hb dX4_owedByAll_18 rfl hl (by decide) rfl (fun ls hl => ?_)
      refine lv_iinc (v := (nI (j4 + 1))) (lv' := [(2, .int (nI (j4 + 1))), (1, .int v6), (0, .ref a0)]) hx hb dX4_owedByAll_19 hl (k := 1) rfl (show nI j4 + 1 = nI (j4 + 1) from nI_1 j4) (by decide) rfl (fun ls hl => ?_)
      refine lv_goto (tgt := 4) hx hb dX4_owedByAll_22 (by decide) ?_
      exact ih4 (j4 + 1) v6 ls (by omega) (lv_sub hl [0, 1, 2] rfl)
  exact key4 12 0 0 ls (by omega) (lv_sub hl [0, 1, 2] rfl)
