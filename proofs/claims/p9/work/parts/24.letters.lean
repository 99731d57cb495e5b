section GI
variable {p : Program} {l : Launch} {e : Env} {R : Room} {s : State} {m : MethodId} {args : Array Value} {below : List Frame} {meth : Method} {c : Code} {H : Heap} {locs : List Loc} {cells slots : Nat} {Q : State → Prop}
variable {cc : ByteArray} {pc : Nat} {ls : Array Slot} {rest : List Value} {D : va_G} {a : Nat} {tys : List (ClassId × FieldType)} {X : va_W} {cI : ClassId} {cy : Nat → ClassId} {L : List Nat} {t : Nat → Nat} {f : Nat → va_E} {own : String} {index : Nat}
theorem gl_inst (hexec : p.tables.exec = Jvm.exec) (hb : c.code = cc) (hown : s.vm.findClass own = some m.cls) (hlink : (Cond.classLink own index RX1).before args s = true) (hW0 : nw_ s) (hK : va_K D vwCl tys s) (hP : va_P D vwCl (X ++ va_pl L f) H) (hT : ty_ cI cy L t f) (ha : t a = 4 ∨ t a = 5 ∨ t a = 6) (hdg : decode cc pc = .ok (.instanceof index, 3))
    (kk : ∀ v : Int32, W p l e R s m args below meth c H locs cells slots Q (F0 m (pc + 3) ls (.int v :: rest))) : W p l e R s m args below meth c H locs cells slots Q (F0 m pc ls (.ref a :: rest)) := by
  rcases ha with ha | ha | ha
  · obtain ⟨hm, i, g, hi, he⟩ := at_4 X hT ha
    exact va_instNo (C := RX3) hexec hb hown hlink (nw_n3 hW0) (va_recv hK hP (ci := 2) (q0 := i) rfl he) hdg (kk 0)
  · obtain ⟨hm, i, g, hi, he⟩ := at_5 X hT ha
    exact va_instS hexec hb hown hlink (hK.1 1 _ rfl).2 (va_recv hK hP (ci := 1) (q0 := i) rfl he) hdg (kk 1)
  · obtain ⟨hm, i, g, z, hi, he, hz⟩ := at_6 X hT ha
    exact va_instNo (C := RX5) hexec hb hown hlink (nw_n5 hW0) (va_recv hK hP (ci := 4) (q0 := i) rfl he) hdg (kk 0)
end GI
set_option maxHeartbeats 4000000 in
set_option maxRecDepth 100000 in
theorem m_X7_loseLetters (l : Launch) (dC : Nat → ClassId) (dI : Nat → Nat → Nat) (h0 : Nat) (q n : Nat → Nat) (dl : Int32) (cI : ClassId) (cy : Nat → ClassId) (L : List Nat) (t : Nat → Nat) (f : Nat → va_E) (hT : ty_ cI cy L t f) (hQ : qs_ q t) (hN : nb_ n) (A : Nat → Prop) (hD : va_D A (xo_ h0 q n dl ++ va_pl L f)) (a1 : Int32) : Met l yX7_loseLetters wsX7_loseLetters ({ frames := 1, cells := 0, slots := 0, locals := 21 }) (va_Pc [.ref h0, .int a1] (pt_P (dC, dI) vwCl (tt_ cI cy) (xo_ h0 q n dl ++ va_pl L f))) (va_Qv (fun u : (Nat → va_E) × (Nat → Nat) × Int32 => va_D A (xo_ h0 q u.2.1 u.2.2 ++ va_pl L u.1) ∧ ty_ cI cy L t u.1 ∧ u.2.1 = n) (fun u s' => va_P (dC, dI) vwCl (xo_ h0 q u.2.1 u.2.2 ++ va_pl L u.1) s'.heap) A) 0 0 A := by
  refine Met.ofW (cc := cX7_loseLetters) (maxL := 4) (ret := none) (by decide) rfl ?_
  intro p e s m args below meth c s₁ B hml hv
  obtain ⟨rfl, hP, hK, hW0⟩ := hv
  have hx := B.exec
  have hb := B.bytes
  have hr := B.returns
  have hts := atoms_spec (ws := wsX7_loseLetters) B.pre
  have hown : s.vm.findClass RX7 = some m.cls := findClass_of_methodNamed B.named
  have hlocks := B.notSynchronized
  have hinX1 : ∀ w ∈ u_ws RX1 TX1 6, w ∈ wsX7_loseLetters := by decide +kernel
  have hinX3 : ∀ w ∈ u_ws RX3 TX3 6, w ∈ wsX7_loseLetters := by decide +kernel
  have hinX5 : ∀ w ∈ u_ws RX5 TX5 6, w ∈ wsX7_loseLetters := by decide +kernel
  have hinX7 : ∀ w ∈ u_ws RX7 TX7 14, w ∈ wsX7_loseLetters := by decide +kernel
  have hS : va_S A s.heap s.heap [] := va_S.rf
  have hl := lv_entry ([.ref h0, .int a1]) (n := 4) (Nat.le_of_ble_eq_true rfl)
  rw [lg_entry_eq]
  generalize (lg_sl ([.ref h0, .int a1]) ++ List.replicate (4 - (lg_sl ([.ref h0, .int a1])).length) Slot.unset).toArray = ls at hl ⊢
  have hl : lv_has ls 4 [(0, .ref h0), (1, .int a1)] := hl
  obtain ⟨H, hH, hP, hS⟩ : ∃ H, H = s.heap ∧ va_P (dC, dI) vwCl (xo_ h0 q n dl ++ va_pl L f) H ∧ va_S A s.heap H [] := ⟨_, rfl, hP, hS⟩
  rw [← hH]
  generalize ([] : List Loc) = locs at hS ⊢
  refine lv_iconst (v := 0) hx hb dX7_loseLetters_0 (by decide) ?_
  refine lv_istore_n (lv' := [(2, .int 0), (0, .ref h0), (1, .int a1)]) hx hb dX7_loseLetters_1 rfl hl (by decide) rfl (fun ls hl => ?_)
  have key2 : ∀ (k j2 : Nat) (f : Nat → va_E) (dl : Int32) (H : Heap) (locs : List Loc) (ls : Array Slot), j2 + k = (n 4) → va_P (dC, dI) vwCl (xo_ h0 q n dl ++ va_pl L f) H → va_D A (xo_ h0 q n dl ++ va_pl L f) → ty_ cI cy L t f → va_S A s.heap H locs → lv_has ls 4 [(2, .int (nI j2)), (0, .ref h0), (1, .int a1)] →
      W p l e (headSpec wsX7_loseLetters ({ frames := 1, cells := 0, slots := 0, locals := 21 })).room s m [.ref h0, .int a1].toArray below meth c H locs 0 0 (MQ below (va_Qv (fun u : (Nat → va_E) × (Nat → Nat) × Int32 => va_D A (xo_ h0 q u.2.1 u.2.2 ++ va_pl L u.1) ∧ ty_ cI cy L t u.1 ∧ u.2.1 = n) (fun u s' => va_P (dC, dI) vwCl (xo_ h0 q u.2.1 u.2.2 ++ va_pl L u.1) s'.heap) A) [.ref h0, .int a1].toArray s 0 0 A) (F0 m 2 ls []) := by
    intro k
    induction k with
    | zero =>
      intro j2 f dl H locs ls hj hP hD hT hS hl
      have hj : j2 = (n 4) := by omega
      subst j2
      refine lv_iload_n hx hb dX7_loseLetters_2 rfl (lv_at hl 0 rfl) ?_
      refine lv_aload_n hx hb dX7_loseLetters_3 rfl (lv_at hl 1 rfl) ?_
      refine va_get (D := (dC, dI)) (ci := 6) (v := .int (nI (n 4))) (C := RX7) (T := TX7) (N := 14) hx hb hts hinX7 hown hK hP 0 rfl rfl 12 (by decide) (hts (.fieldLink RX7 165 "FurPosts" "letterCount" "I") (by decide +kernel)) (fun _ h9 => h9) rfl dX7_loseLetters_4 ?_
      refine lv_icmp_ge (tgt := 56) hx hb dX7_loseLetters_7 (by decide) (fun h_1 => ?_) (fun h_1 => absurd (lp_ge0 (B := (n 4)) rfl) h_1)
      exact W.vret hx hb hr (fun t ht hW => ⟨⟨(f, n, dl), rfl, ⟨hD, hT, rfl⟩, by show va_P (dC, dI) vwCl _ t.heap; rw [ht]; exact hP⟩, hS.F ht⟩) hS.2.2 dX7_loseLetters_56
    | succ k ih2 =>
      intro j2 f dl H locs ls hj hP hD hT hS hl
      have hj2 : j2 < (n 4) := by omega
      refine lv_iload_n hx hb dX7_loseLetters_2 rfl (lv_at hl 0 rfl) ?_
      refine lv_aload_n hx hb dX7_loseLetters_3 rfl (lv_at hl 1 rfl) ?_
      refine va_get (D := (dC, dI)) (ci := 6) (v := .int (nI (n 4))) (C := RX7) (T := TX7) (N := 14) hx hb hts hinX7 hown hK hP 0 rfl rfl 12 (by decide) (hts (.fieldLink RX7 165 "FurPosts" "letterCount" "I") (by decide +kernel)) (fun _ h9 => h9) rfl dX7_loseLetters_4 ?_
      refine lv_icmp_ge (tgt := 56) hx hb dX7_loseLetters_7 (by decide) (fun h_2 => absurd h_2 (lp_ge (B := (n 4)) (by omega) (by omega) rfl)) (fun h_2 => ?_)
      refine lv_aload_n hx hb dX7_loseLetters_10 rfl (lv_at hl 1 rfl) ?_
      refine lv_iload_n hx hb dX7_loseLetters_11 rfl (lv_at hl 0 rfl) ?_
      refine pg_call (va_runV (As := [.int (nI j2)]) (rest := []) ⟨hx, hb, hml, hown, hts⟩ (k_X7_letterAt l dC dI h0 q n dl cI cy L t f hT hQ hN (nI j2)) (cwV 1 hts gX7_loseLetters_X7_letterAt rfl rfl rfl (by decide +kernel) ⟨Nat.le_of_ble_eq_true rfl, Nat.le_of_ble_eq_true rfl⟩) (pt_pre hP hK hW0 (ci := 6) (q0 := 0) rfl rfl) rfl rfl hl.1 rfl (lv_room (Nat.le_of_ble_eq_true rfl)) dX7_loseLetters_12 ⟨Nat.le_of_ble_eq_true rfl, Nat.le_of_ble_eq_true rfl⟩) (fun w3 hw3 => ?_)
      obtain ⟨o3, rfl, hg3⟩ := hw3
      cases o3 with
      | none =>
        refine lv_astore_nN (lv' := [(3, .null), (2, .int (nI j2)), (0, .ref h0), (1, .int a1)]) hx hb dX7_loseLetters_15 rfl hl (by decide) rfl (fun ls hl => ?_)
        refine lv_aload_nN hx hb dX7_loseLetters_16 rfl (lv_at hl 0 rfl) ?_
        refine lv_ifnullN (tgt := 50) hx hb dX7_loseLetters_17 (by decide) ?_
        refine lv_iinc (v := (nI (j2 + 1))) (lv' := [(2, .int (nI (j2 + 1))), (3, .null), (0, .ref h0), (1, .int a1)]) hx hb dX7_loseLetters_50 hl (k := 1) rfl (show nI j2 + 1 = nI (j2 + 1) from nI_1 j2) (by decide) rfl (fun ls hl => ?_)
        refine lv_goto (tgt := 2) hx hb dX7_loseLetters_53 (by decide) ?_
        exact ih2 (j2 + 1) f dl H locs ls (by omega) hP hD hT hS (lv_sub hl [0, 2, 3] rfl)
      | some b3 =>
        have hk3 := hg3 b3 rfl
        refine lv_astore_n (lv' := [(3, .ref b3), (2, .int (nI j2)), (0, .ref h0), (1, .int a1)]) hx hb dX7_loseLetters_15 rfl hl (by decide) rfl (fun ls hl => ?_)
        refine lv_aload_n hx hb dX7_loseLetters_16 rfl (lv_at hl 0 rfl) ?_
        refine lv_ifnull hx hb dX7_loseLetters_17 ?_
        refine lv_aload_n hx hb dX7_loseLetters_20 rfl (lv_at hl 0 rfl) ?_
        refine gl_get 3 (by decide) hx hb hts hinX1 hinX3 hinX5 hown hK hP hT hk3.1 (own := RX7) (index := 185) (hts (.fieldLink RX7 185 "FurPosts$Letter" "carrier" "I") (by decide +kernel)) dX7_loseLetters_21 (fun v4 => ?_)
        refine lv_iload_n hx hb dX7_loseLetters_24 rfl (lv_at hl 3 rfl) ?_
        refine lv_icmp_ne (tgt := 50) hx hb dX7_loseLetters_25 (by decide) (fun h_5 => ?_) (fun h_5 => ?_)
        · skip
          refine lv_iinc (v := (nI (j2 + 1))) (lv' := [(2, .int (nI (j2 + 1))), (3, .ref b3), (0, .ref h0), (1, .int a1)]) hx hb dX7_loseLetters_50 hl (k := 1) rfl (show nI j2 + 1 = nI (j2 + 1) from nI_1 j2) (by decide) rfl (fun ls hl => ?_)
          refine lv_goto (tgt := 2) hx hb dX7_loseLetters_53 (by decide) ?_
          exact ih2 (j2 + 1) f dl H locs ls (by omega) hP hD hT hS (lv_sub hl [0, 2, 3] rfl)
        · skip
          refine lv_aload_n hx hb dX7_loseLetters_28 rfl (lv_at hl 0 rfl) ?_
          refine lv_iconst (v := (-1)) hx hb dX7_loseLetters_29 (by decide) ?_
          refine gl_put 3 (by decide) hx hb hts hinX1 hinX3 hinX5 hown hK hP hD hS hT hk3.1 (own := RX7) (index := 185) (v := (-1)) (hts (.fieldLink RX7 185 "FurPosts$Letter" "carrier" "I") (by decide +kernel)) dX7_loseLetters_30 (fun f H locs hP hD hT hS => ?_)
          refine lv_aload_n hx hb dX7_loseLetters_33 rfl (lv_at hl 0 rfl) ?_
          refine gl_inst hx hb hown (hts (.classLink RX7 188 RX1) (by decide +kernel)) hW0 hK hP hT hk3.1 dX7_loseLetters_34 (fun v6 => ?_)
          refine lv_if_eq (tgt := 50) hx hb dX7_loseLetters_37 (by decide) (fun h_7 => ?_) (fun h_7 => ?_)
          · skip
            refine lv_iinc (v := (nI (j2 + 1))) (lv' := [(2, .int (nI (j2 + 1))), (3, .ref b3), (0, .ref h0), (1, .int a1)]) hx hb dX7_loseLetters_50 hl (k := 1) rfl (show nI j2 + 1 = nI (j2 + 1) from nI_1 j2) (by decide) rfl (fun ls hl => ?_)
            refine lv_goto (tgt := 2) hx hb dX7_loseLetters_53 (by decide) ?_
            exact ih2 (j2 + 1) f dl H locs ls (by omega) hP hD hT hS (lv_sub hl [0, 2, 3] rfl)
          · skip
            refine lv_aload_n hx hb dX7_loseLetters_40 rfl (lv_at hl 2 rfl) ?_
            refine lv_dup hx hb dX7_loseLetters_41 rfl ?_
            refine va_get (D := (dC, dI)) (ci := 6) (v := .int dl) (C := RX7) (T := TX7) (N := 14) hx hb hts hinX7 hown hK hP 0 rfl rfl 13 (by decide) (hts (.fieldLink RX7 190 "FurPosts" "debtsLost" "I") (by decide +kernel)) (fun _ h9 => h9) rfl dX7_loseLetters_42 ?_
            refine lv_iconst (v := 1) hx hb dX7_loseLetters_45 (by decide) ?_
            refine lv_iadd hx hb dX7_loseLetters_46 ?_
            refine lv_topi (fun v8 _ => ?_)
            refine va_put (D := (dC, dI)) (ci := 6) (v := .int v8) (ty := .int) (C := RX7) (T := TX7) (N := 14) hx hb hts hinX7 tyX7 tyX7_ok nmX7 hown hK hP hD hS 0 rfl rfl 13 (by decide) (hts (.fieldLink RX7 190 "FurPosts" "debtsLost" "I") (by decide +kernel)) (fun _ h9 => h9) rfl (by decide +kernel) rfl rfl (Nat.le_of_ble_eq_true rfl) dX7_loseLetters_47 (fun H locs hP2 hD2 hS => ?_)
            obtain ⟨dl, hP, hD⟩ : ∃ dl : Int32, va_P (dC, dI) vwCl (xo_ h0 q n dl ++ va_pl L f) H ∧ va_D A (xo_ h0 q n dl ++ va_pl L f) := ⟨_, hP2, hD2⟩
            refine lv_iinc (v := (nI (j2 + 1))) (lv' := [(2, .int (nI (j2 + 1))), (3, .ref b3), (0, .ref h0), (1, .int a1)]) hx hb dX7_loseLetters_50 hl (k := 1) rfl (show nI j2 + 1 = nI (j2 + 1) from nI_1 j2) (by decide) rfl (fun ls hl => ?_)
            refine lv_goto (tgt := 2) hx hb dX7_loseLetters_53 (by decide) ?_
            exact ih2 (j2 + 1) f dl H locs ls (by omega) hP hD hT hS (lv_sub hl [0, 2, 3] rfl)
  exact key2 (n 4) 0 f dl H locs ls (by omega) hP hD hT hS (lv_sub hl [0, 1, 2] rfl)

set_option maxHeartbeats 4000000 in
set_option maxRecDepth 100000 in
theorem m_X7_takeLetters (l : Launch) (dC : Nat → ClassId) (dI : Nat → Nat → Nat) (h0 : Nat) (q n : Nat → Nat) (dl : Int32) (cI : ClassId) (cy : Nat → ClassId) (L : List Nat) (t : Nat → Nat) (f : Nat → va_E) (hT : ty_ cI cy L t f) (hQ : qs_ q t) (hN : nb_ n) (A : Nat → Prop) (hD : va_D A (xo_ h0 q n dl ++ va_pl L f)) (a1 : Int32) (a2 : Nat) (ka2 : t a2 = 3) : Met l yX7_takeLetters wsX7_takeLetters ({ frames := 3, cells := 0, slots := 0, locals := 66 }) (va_Pc [.ref h0, .int a1, .ref a2] (pt_P (dC, dI) vwCl (tt_ cI cy) (xo_ h0 q n dl ++ va_pl L f))) (va_Qi (fun r (u : (Nat → va_E) × (Nat → Nat) × Int32) => True ∧ va_D A (xo_ h0 q u.2.1 u.2.2 ++ va_pl L u.1) ∧ ty_ cI cy L t u.1 ∧ u.2.1 = n) (fun u s' => va_P (dC, dI) vwCl (xo_ h0 q u.2.1 u.2.2 ++ va_pl L u.1) s'.heap) A) 0 0 A := by
  refine Met.ofW (cc := cX7_takeLetters) (maxL := 6) (ret := (some .int)) (by decide) rfl ?_
  intro p e s m args below meth c s₁ B hml hv
  obtain ⟨rfl, hP, hK, hW0⟩ := hv
  have hx := B.exec
  have hb := B.bytes
  have hr := B.returns
  have hts := atoms_spec (ws := wsX7_takeLetters) B.pre
  have hown : s.vm.findClass RX7 = some m.cls := findClass_of_methodNamed B.named
  have hlocks := B.notSynchronized
  have hinX0 : ∀ w ∈ u_ws RX0 TX0 11, w ∈ wsX7_takeLetters := by decide +kernel
  have hinX1 : ∀ w ∈ u_ws RX1 TX1 6, w ∈ wsX7_takeLetters := by decide +kernel
  have hinX3 : ∀ w ∈ u_ws RX3 TX3 6, w ∈ wsX7_takeLetters := by decide +kernel
  have hinX5 : ∀ w ∈ u_ws RX5 TX5 6, w ∈ wsX7_takeLetters := by decide +kernel
  have hinX7 : ∀ w ∈ u_ws RX7 TX7 14, w ∈ wsX7_takeLetters := by decide +kernel
  have hS : va_S A s.heap s.heap [] := va_S.rf
  have hl := lv_entry ([.ref h0, .int a1, .ref a2]) (n := 6) (Nat.le_of_ble_eq_true rfl)
  rw [lg_entry_eq]
  generalize (lg_sl ([.ref h0, .int a1, .ref a2]) ++ List.replicate (6 - (lg_sl ([.ref h0, .int a1, .ref a2])).length) Slot.unset).toArray = ls at hl ⊢
  have hl : lv_has ls 6 [(0, .ref h0), (1, .int a1), (2, .ref a2)] := hl
  obtain ⟨H, hH, hP, hS⟩ : ∃ H, H = s.heap ∧ va_P (dC, dI) vwCl (xo_ h0 q n dl ++ va_pl L f) H ∧ va_S A s.heap H [] := ⟨_, rfl, hP, hS⟩
  rw [← hH]
  generalize ([] : List Loc) = locs at hS ⊢
  refine lv_iconst (v := 0) hx hb dX7_takeLetters_0 (by decide) ?_
  refine lv_istore_n (lv' := [(3, .int 0), (0, .ref h0), (1, .int a1), (2, .ref a2)]) hx hb dX7_takeLetters_1 rfl hl (by decide) rfl (fun ls hl => ?_)
  refine lv_iconst (v := 0) hx hb dX7_takeLetters_2 (by decide) ?_
  refine lv_istore (lv' := [(4, .int 0), (3, .int 0), (0, .ref h0), (1, .int a1), (2, .ref a2)]) hx hb dX7_takeLetters_3 hl (by decide) rfl (fun ls hl => ?_)
  have key5 : ∀ (k j5 : Nat) (x5_3 : Int32) (f : Nat → va_E) (dl : Int32) (H : Heap) (locs : List Loc) (ls : Array Slot), j5 + k = (n 4) → va_P (dC, dI) vwCl (xo_ h0 q n dl ++ va_pl L f) H → va_D A (xo_ h0 q n dl ++ va_pl L f) → ty_ cI cy L t f → va_S A s.heap H locs → lv_has ls 6 [(4, .int (nI j5)), (3, .int x5_3), (0, .ref h0), (1, .int a1), (2, .ref a2)] →
      W p l e (headSpec wsX7_takeLetters ({ frames := 3, cells := 0, slots := 0, locals := 66 })).room s m [.ref h0, .int a1, .ref a2].toArray below meth c H locs 0 0 (MQ below (va_Qi (fun r (u : (Nat → va_E) × (Nat → Nat) × Int32) => True ∧ va_D A (xo_ h0 q u.2.1 u.2.2 ++ va_pl L u.1) ∧ ty_ cI cy L t u.1 ∧ u.2.1 = n) (fun u s' => va_P (dC, dI) vwCl (xo_ h0 q u.2.1 u.2.2 ++ va_pl L u.1) s'.heap) A) [.ref h0, .int a1, .ref a2].toArray s 0 0 A) (F0 m 5 ls []) := by
    intro k
    induction k with
    | zero =>
      intro j5 x5_3 f dl H locs ls hj hP hD hT hS hl
      have hj : j5 = (n 4) := by omega
      subst j5
      refine lv_iload hx hb dX7_takeLetters_5 (lv_at hl 0 rfl) ?_
      refine lv_aload_n hx hb dX7_takeLetters_7 rfl (lv_at hl 2 rfl) ?_
      refine va_get (D := (dC, dI)) (ci := 6) (v := .int (nI (n 4))) (C := RX7) (T := TX7) (N := 14) hx hb hts hinX7 hown hK hP 0 rfl rfl 12 (by decide) (hts (.fieldLink RX7 165 "FurPosts" "letterCount" "I") (by decide +kernel)) (fun _ h9 => h9) rfl dX7_takeLetters_8 ?_
      refine lv_icmp_ge (tgt := 80) hx hb dX7_takeLetters_11 (by decide) (fun h_1 => ?_) (fun h_1 => absurd (lp_ge0 (B := (n 4)) rfl) h_1)
      refine lv_iload_n hx hb dX7_takeLetters_80 rfl (lv_at hl 1 rfl) ?_
      exact W.iret (v := x5_3) hx hb hr (fun t ht hW => ⟨⟨x5_3, (f, n, dl), rfl, ⟨trivial, hD, hT, rfl⟩, by show va_P (dC, dI) vwCl _ t.heap; rw [ht]; exact hP⟩, hS.F ht⟩) hS.2.2 dX7_takeLetters_81
    | succ k ih5 =>
      intro j5 x5_3 f dl H locs ls hj hP hD hT hS hl
      have hj5 : j5 < (n 4) := by omega
      refine lv_iload hx hb dX7_takeLetters_5 (lv_at hl 0 rfl) ?_
      refine lv_aload_n hx hb dX7_takeLetters_7 rfl (lv_at hl 2 rfl) ?_
      refine va_get (D := (dC, dI)) (ci := 6) (v := .int (nI (n 4))) (C := RX7) (T := TX7) (N := 14) hx hb hts hinX7 hown hK hP 0 rfl rfl 12 (by decide) (hts (.fieldLink RX7 165 "FurPosts" "letterCount" "I") (by decide +kernel)) (fun _ h9 => h9) rfl dX7_takeLetters_8 ?_
      refine lv_icmp_ge (tgt := 80) hx hb dX7_takeLetters_11 (by decide) (fun h_2 => absurd h_2 (lp_ge (B := (n 4)) (by omega) (by omega) rfl)) (fun h_2 => ?_)
      refine lv_aload_n hx hb dX7_takeLetters_14 rfl (lv_at hl 2 rfl) ?_
      refine lv_iload hx hb dX7_takeLetters_15 (lv_at hl 0 rfl) ?_
      refine pg_call (va_runV (As := [.int (nI j5)]) (rest := []) ⟨hx, hb, hml, hown, hts⟩ (k_X7_letterAt l dC dI h0 q n dl cI cy L t f hT hQ hN (nI j5)) (cwV 1 hts gX7_takeLetters_X7_letterAt rfl rfl rfl (by decide +kernel) ⟨Nat.le_of_ble_eq_true rfl, Nat.le_of_ble_eq_true rfl⟩) (pt_pre hP hK hW0 (ci := 6) (q0 := 0) rfl rfl) rfl rfl hl.1 rfl (lv_room (Nat.le_of_ble_eq_true rfl)) dX7_takeLetters_17 ⟨Nat.le_of_ble_eq_true rfl, Nat.le_of_ble_eq_true rfl⟩) (fun w3 hw3 => ?_)
      obtain ⟨o3, rfl, hg3⟩ := hw3
      cases o3 with
      | none =>
        refine lv_astoreN (lv' := [(5, .null), (4, .int (nI j5)), (3, .int x5_3), (0, .ref h0), (1, .int a1), (2, .ref a2)]) hx hb dX7_takeLetters_20 hl (by decide) rfl (fun ls hl => ?_)
        refine lv_aloadN hx hb dX7_takeLetters_22 (lv_at hl 0 rfl) ?_
        refine lv_ifnullN (tgt := 74) hx hb dX7_takeLetters_24 (by decide) ?_
        refine lv_iinc (v := (nI (j5 + 1))) (lv' := [(4, .int (nI (j5 + 1))), (5, .null), (3, .int x5_3), (0, .ref h0), (1, .int a1), (2, .ref a2)]) hx hb dX7_takeLetters_74 hl (k := 1) rfl (show nI j5 + 1 = nI (j5 + 1) from nI_1 j5) (by decide) rfl (fun ls hl => ?_)
        refine lv_goto (tgt := 5) hx hb dX7_takeLetters_77 (by decide) ?_
        exact ih5 (j5 + 1) x5_3 f dl H locs ls (by omega) hP hD hT hS (lv_sub hl [0, 2, 3, 4, 5] rfl)
      | some b3 =>
        have hk3 := hg3 b3 rfl
        refine lv_astore (lv' := [(5, .ref b3), (4, .int (nI j5)), (3, .int x5_3), (0, .ref h0), (1, .int a1), (2, .ref a2)]) hx hb dX7_takeLetters_20 hl (by decide) rfl (fun ls hl => ?_)
        refine lv_aload hx hb dX7_takeLetters_22 (lv_at hl 0 rfl) ?_
        refine lv_ifnull hx hb dX7_takeLetters_24 ?_
        refine lv_aload hx hb dX7_takeLetters_27 (lv_at hl 0 rfl) ?_
        refine gl_get 2 (by decide) hx hb hts hinX1 hinX3 hinX5 hown hK hP hT hk3.1 (own := RX7) (index := 172) (hts (.fieldLink RX7 172 "FurPosts$Letter" "bag" "I") (by decide +kernel)) dX7_takeLetters_29 (fun v4 => ?_)
        refine lv_aload_n hx hb dX7_takeLetters_32 rfl (lv_at hl 5 rfl) ?_
        obtain ⟨hm5, i5, g5, s5, w5, hi5, he5, k5_0, k5_1⟩ := at_3 (xo_ h0 q n dl) hT ka2
        refine va_get (D := (dC, dI)) (ci := 0) (v := .int (g5 0)) (C := RX0) (T := TX0) (N := 11) hx hb hts hinX0 hown hK hP i5 he5 rfl 0 (by decide) (hts (.fieldLink RX7 175 "FurPosts$Canoe" "from" "I") (by decide +kernel)) (fun _ h9 => h9) rfl dX7_takeLetters_33 ?_
        refine lv_icmp_ne (tgt := 74) hx hb dX7_takeLetters_36 (by decide) (fun h_6 => ?_) (fun h_6 => ?_)
        · skip
          refine lv_iinc (v := (nI (j5 + 1))) (lv' := [(4, .int (nI (j5 + 1))), (5, .ref b3), (3, .int x5_3), (0, .ref h0), (1, .int a1), (2, .ref a2)]) hx hb dX7_takeLetters_74 hl (k := 1) rfl (show nI j5 + 1 = nI (j5 + 1) from nI_1 j5) (by decide) rfl (fun ls hl => ?_)
          refine lv_goto (tgt := 5) hx hb dX7_takeLetters_77 (by decide) ?_
          exact ih5 (j5 + 1) x5_3 f dl H locs ls (by omega) hP hD hT hS (lv_sub hl [0, 2, 3, 4, 5] rfl)
        · skip
          refine lv_aload_n hx hb dX7_takeLetters_39 rfl (lv_at hl 3 rfl) ?_
          refine lv_aload_n hx hb dX7_takeLetters_40 rfl (lv_at hl 5 rfl) ?_
          refine va_get (D := (dC, dI)) (ci := 0) (v := .int (g5 0)) (C := RX0) (T := TX0) (N := 11) hx hb hts hinX0 hown hK hP i5 he5 rfl 0 (by decide) (hts (.fieldLink RX7 175 "FurPosts$Canoe" "from" "I") (by decide +kernel)) (fun _ h9 => h9) rfl dX7_takeLetters_41 ?_
          refine lv_aload hx hb dX7_takeLetters_44 (lv_at hl 0 rfl) ?_
          refine gl_get 1 (by decide) hx hb hts hinX1 hinX3 hinX5 hown hK hP hT hk3.1 (own := RX7) (index := 178) (hts (.fieldLink RX7 178 "FurPosts$Letter" "to" "I") (by decide +kernel)) dX7_takeLetters_46 (fun v7 => ?_)
          refine pg_call (va_runV (As := [.int (g5 0), .int v7]) (rest := []) ⟨hx, hb, hml, hown, hts⟩ (k_X7_next l dC dI h0 q n dl cI cy L t f hT hQ hN (g5 0) v7) (cwV 2 hts gX7_takeLetters_X7_next rfl rfl rfl (by decide +kernel) ⟨Nat.le_of_ble_eq_true rfl, Nat.le_of_ble_eq_true rfl⟩) (pt_pre hP hK hW0 (ci := 6) (q0 := 0) rfl rfl) rfl rfl hl.1 rfl (lv_room (Nat.le_of_ble_eq_true rfl)) dX7_takeLetters_49 ⟨Nat.le_of_ble_eq_true rfl, Nat.le_of_ble_eq_true rfl⟩) (fun w8 hw8 => ?_)
          obtain ⟨r8, rfl, hg8⟩ := hw8
          refine lv_aload_n hx hb dX7_takeLetters_52 rfl (lv_at hl 5 rfl) ?_
          refine va_get (D := (dC, dI)) (ci := 0) (v := .int (g5 1)) (C := RX0) (T := TX0) (N := 11) hx hb hts hinX0 hown hK hP i5 he5 rfl 1 (by decide) (hts (.fieldLink RX7 184 "FurPosts$Canoe" "to" "I") (by decide +kernel)) (fun _ h9 => h9) rfl dX7_takeLetters_53 ?_
          refine lv_icmp_ne (tgt := 74) hx hb dX7_takeLetters_56 (by decide) (fun h_9 => ?_) (fun h_9 => ?_)
          · skip
            refine lv_iinc (v := (nI (j5 + 1))) (lv' := [(4, .int (nI (j5 + 1))), (5, .ref b3), (3, .int x5_3), (0, .ref h0), (1, .int a1), (2, .ref a2)]) hx hb dX7_takeLetters_74 hl (k := 1) rfl (show nI j5 + 1 = nI (j5 + 1) from nI_1 j5) (by decide) rfl (fun ls hl => ?_)
            refine lv_goto (tgt := 5) hx hb dX7_takeLetters_77 (by decide) ?_
            exact ih5 (j5 + 1) x5_3 f dl H locs ls (by omega) hP hD hT hS (lv_sub hl [0, 2, 3, 4, 5] rfl)
          · skip
            refine lv_aload hx hb dX7_takeLetters_59 (lv_at hl 0 rfl) ?_
            refine lv_iconst (v := (-1)) hx hb dX7_takeLetters_61 (by decide) ?_
            refine gl_put 2 (by decide) hx hb hts hinX1 hinX3 hinX5 hown hK hP hD hS hT hk3.1 (own := RX7) (index := 172) (v := (-1)) (hts (.fieldLink RX7 172 "FurPosts$Letter" "bag" "I") (by decide +kernel)) dX7_takeLetters_62 (fun f H locs hP hD hT hS => ?_)
            refine lv_aload hx hb dX7_takeLetters_65 (lv_at hl 0 rfl) ?_
            refine lv_iload_n hx hb dX7_takeLetters_67 rfl (lv_at hl 4 rfl) ?_
            refine gl_put 3 (by decide) hx hb hts hinX1 hinX3 hinX5 hown hK hP hD hS hT hk3.1 (own := RX7) (index := 185) (v := a1) (hts (.fieldLink RX7 185 "FurPosts$Letter" "carrier" "I") (by decide +kernel)) dX7_takeLetters_68 (fun f H locs hP hD hT hS => ?_)
            refine lv_iinc (v := (x5_3 + 1)) (lv' := [(3, .int (x5_3 + 1)), (5, .ref b3), (4, .int (nI j5)), (0, .ref h0), (1, .int a1), (2, .ref a2)]) hx hb dX7_takeLetters_71 hl (k := 2) rfl rfl (by decide) rfl (fun ls hl => ?_)
            refine lv_iinc (v := (nI (j5 + 1))) (lv' := [(4, .int (nI (j5 + 1))), (3, .int (x5_3 + 1)), (5, .ref b3), (0, .ref h0), (1, .int a1), (2, .ref a2)]) hx hb dX7_takeLetters_74 hl (k := 2) rfl (show nI j5 + 1 = nI (j5 + 1) from nI_1 j5) (by decide) rfl (fun ls hl => ?_)
            refine lv_goto (tgt := 5) hx hb dX7_takeLetters_77 (by decide) ?_
            exact ih5 (j5 + 1) (x5_3 + 1) f dl H locs ls (by omega) hP hD hT hS (lv_sub hl [0, 1, 3, 4, 5] rfl)
  exact key5 (n 4) 0 0 f dl H locs ls (by omega) hP hD hT hS (lv_sub hl [0, 1, 2, 3, 4] rfl)

set_option maxHeartbeats 4000000 in
set_option maxRecDepth 100000 in
theorem m_X7_landLetters (l : Launch) (dC : Nat → ClassId) (dI : Nat → Nat → Nat) (h0 : Nat) (q n : Nat → Nat) (dl : Int32) (cI : ClassId) (cy : Nat → ClassId) (L : List Nat) (t : Nat → Nat) (f : Nat → va_E) (hT : ty_ cI cy L t f) (hQ : qs_ q t) (hN : nb_ n) (A : Nat → Prop) (hD : va_D A (xo_ h0 q n dl ++ va_pl L f)) (a1 : Int32) (a2 : Int32) (a3 : Nat) (ka3 : t a3 = 1) : Met l yX7_landLetters wsX7_landLetters ({ frames := 2, cells := 0, slots := 0, locals := 43 }) (va_Pc [.ref h0, .int a1, .int a2, .ref a3] (pt_P (dC, dI) vwCl (tt_ cI cy) (xo_ h0 q n dl ++ va_pl L f))) (va_Qv (fun u : (Nat → va_E) × (Nat → Nat) × Int32 => va_D A (xo_ h0 q u.2.1 u.2.2 ++ va_pl L u.1) ∧ ty_ cI cy L t u.1 ∧ u.2.1 = n) (fun u s' => va_P (dC, dI) vwCl (xo_ h0 q u.2.1 u.2.2 ++ va_pl L u.1) s'.heap) A) 0 0 A := by
  refine Met.ofW (cc := cX7_landLetters) (maxL := 6) (ret := none) (by decide) rfl ?_
  intro p e s m args below meth c s₁ B hml hv
  obtain ⟨rfl, hP, hK, hW0⟩ := hv
  have hx := B.exec
  have hb := B.bytes
  have hr := B.returns
  have hts := atoms_spec (ws := wsX7_landLetters) B.pre
  have hown : s.vm.findClass RX7 = some m.cls := findClass_of_methodNamed B.named
  have hlocks := B.notSynchronized
  have hinX1 : ∀ w ∈ u_ws RX1 TX1 6, w ∈ wsX7_landLetters := by decide +kernel
  have hinX3 : ∀ w ∈ u_ws RX3 TX3 6, w ∈ wsX7_landLetters := by decide +kernel
  have hinX5 : ∀ w ∈ u_ws RX5 TX5 6, w ∈ wsX7_landLetters := by decide +kernel
  have hinX7 : ∀ w ∈ u_ws RX7 TX7 14, w ∈ wsX7_landLetters := by decide +kernel
  have hS : va_S A s.heap s.heap [] := va_S.rf
  have hl := lv_entry ([.ref h0, .int a1, .int a2, .ref a3]) (n := 6) (Nat.le_of_ble_eq_true rfl)
  rw [lg_entry_eq]
  generalize (lg_sl ([.ref h0, .int a1, .int a2, .ref a3]) ++ List.replicate (6 - (lg_sl ([.ref h0, .int a1, .int a2, .ref a3])).length) Slot.unset).toArray = ls at hl ⊢
  have hl : lv_has ls 6 [(0, .ref h0), (1, .int a1), (2, .int a2), (3, .ref a3)] := hl
  obtain ⟨H, hH, hP, hS⟩ : ∃ H, H = s.heap ∧ va_P (dC, dI) vwCl (xo_ h0 q n dl ++ va_pl L f) H ∧ va_S A s.heap H [] := ⟨_, rfl, hP, hS⟩
  rw [← hH]
  generalize ([] : List Loc) = locs at hS ⊢
  refine lv_iconst (v := 0) hx hb dX7_landLetters_0 (by decide) ?_
  refine lv_istore (lv' := [(4, .int 0), (0, .ref h0), (1, .int a1), (2, .int a2), (3, .ref a3)]) hx hb dX7_landLetters_1 hl (by decide) rfl (fun ls hl => ?_)
  have key3 : ∀ (k j3 : Nat) (f : Nat → va_E) (dl : Int32) (H : Heap) (locs : List Loc) (ls : Array Slot), j3 + k = (n 4) → va_P (dC, dI) vwCl (xo_ h0 q n dl ++ va_pl L f) H → va_D A (xo_ h0 q n dl ++ va_pl L f) → ty_ cI cy L t f → va_S A s.heap H locs → lv_has ls 6 [(4, .int (nI j3)), (0, .ref h0), (1, .int a1), (2, .int a2), (3, .ref a3)] →
      W p l e (headSpec wsX7_landLetters ({ frames := 2, cells := 0, slots := 0, locals := 43 })).room s m [.ref h0, .int a1, .int a2, .ref a3].toArray below meth c H locs 0 0 (MQ below (va_Qv (fun u : (Nat → va_E) × (Nat → Nat) × Int32 => va_D A (xo_ h0 q u.2.1 u.2.2 ++ va_pl L u.1) ∧ ty_ cI cy L t u.1 ∧ u.2.1 = n) (fun u s' => va_P (dC, dI) vwCl (xo_ h0 q u.2.1 u.2.2 ++ va_pl L u.1) s'.heap) A) [.ref h0, .int a1, .int a2, .ref a3].toArray s 0 0 A) (F0 m 3 ls []) := by
    intro k
    induction k with
    | zero =>
      intro j3 f dl H locs ls hj hP hD hT hS hl
      have hj : j3 = (n 4) := by omega
      subst j3
      refine lv_iload hx hb dX7_landLetters_3 (lv_at hl 0 rfl) ?_
      refine lv_aload_n hx hb dX7_landLetters_5 rfl (lv_at hl 1 rfl) ?_
      refine va_get (D := (dC, dI)) (ci := 6) (v := .int (nI (n 4))) (C := RX7) (T := TX7) (N := 14) hx hb hts hinX7 hown hK hP 0 rfl rfl 12 (by decide) (hts (.fieldLink RX7 165 "FurPosts" "letterCount" "I") (by decide +kernel)) (fun _ h9 => h9) rfl dX7_landLetters_6 ?_
      refine lv_icmp_ge (tgt := 70) hx hb dX7_landLetters_9 (by decide) (fun h_1 => ?_) (fun h_1 => absurd (lp_ge0 (B := (n 4)) rfl) h_1)
      exact W.vret hx hb hr (fun t ht hW => ⟨⟨(f, n, dl), rfl, ⟨hD, hT, rfl⟩, by show va_P (dC, dI) vwCl _ t.heap; rw [ht]; exact hP⟩, hS.F ht⟩) hS.2.2 dX7_landLetters_70
    | succ k ih3 =>
      intro j3 f dl H locs ls hj hP hD hT hS hl
      have hj3 : j3 < (n 4) := by omega
      refine lv_iload hx hb dX7_landLetters_3 (lv_at hl 0 rfl) ?_
      refine lv_aload_n hx hb dX7_landLetters_5 rfl (lv_at hl 1 rfl) ?_
      refine va_get (D := (dC, dI)) (ci := 6) (v := .int (nI (n 4))) (C := RX7) (T := TX7) (N := 14) hx hb hts hinX7 hown hK hP 0 rfl rfl 12 (by decide) (hts (.fieldLink RX7 165 "FurPosts" "letterCount" "I") (by decide +kernel)) (fun _ h9 => h9) rfl dX7_landLetters_6 ?_
      refine lv_icmp_ge (tgt := 70) hx hb dX7_landLetters_9 (by decide) (fun h_2 => absurd h_2 (lp_ge (B := (n 4)) (by omega) (by omega) rfl)) (fun h_2 => ?_)
      refine lv_aload_n hx hb dX7_landLetters_12 rfl (lv_at hl 1 rfl) ?_
      refine lv_iload hx hb dX7_landLetters_13 (lv_at hl 0 rfl) ?_
      refine pg_call (va_runV (As := [.int (nI j3)]) (rest := []) ⟨hx, hb, hml, hown, hts⟩ (k_X7_letterAt l dC dI h0 q n dl cI cy L t f hT hQ hN (nI j3)) (cwV 1 hts gX7_landLetters_X7_letterAt rfl rfl rfl (by decide +kernel) ⟨Nat.le_of_ble_eq_true rfl, Nat.le_of_ble_eq_true rfl⟩) (pt_pre hP hK hW0 (ci := 6) (q0 := 0) rfl rfl) rfl rfl hl.1 rfl (lv_room (Nat.le_of_ble_eq_true rfl)) dX7_landLetters_15 ⟨Nat.le_of_ble_eq_true rfl, Nat.le_of_ble_eq_true rfl⟩) (fun w3 hw3 => ?_)
      obtain ⟨o3, rfl, hg3⟩ := hw3
      cases o3 with
      | none =>
        refine lv_astoreN (lv' := [(5, .null), (4, .int (nI j3)), (0, .ref h0), (1, .int a1), (2, .int a2), (3, .ref a3)]) hx hb dX7_landLetters_18 hl (by decide) rfl (fun ls hl => ?_)
        refine lv_aloadN hx hb dX7_landLetters_20 (lv_at hl 0 rfl) ?_
        refine lv_ifnullN (tgt := 64) hx hb dX7_landLetters_22 (by decide) ?_
        refine lv_iinc (v := (nI (j3 + 1))) (lv' := [(4, .int (nI (j3 + 1))), (5, .null), (0, .ref h0), (1, .int a1), (2, .int a2), (3, .ref a3)]) hx hb dX7_landLetters_64 hl (k := 1) rfl (show nI j3 + 1 = nI (j3 + 1) from nI_1 j3) (by decide) rfl (fun ls hl => ?_)
        refine lv_goto (tgt := 3) hx hb dX7_landLetters_67 (by decide) ?_
        exact ih3 (j3 + 1) f dl H locs ls (by omega) hP hD hT hS (lv_sub hl [0, 2, 3, 4, 5] rfl)
      | some b3 =>
        have hk3 := hg3 b3 rfl
        refine lv_astore (lv' := [(5, .ref b3), (4, .int (nI j3)), (0, .ref h0), (1, .int a1), (2, .int a2), (3, .ref a3)]) hx hb dX7_landLetters_18 hl (by decide) rfl (fun ls hl => ?_)
        refine lv_aload hx hb dX7_landLetters_20 (lv_at hl 0 rfl) ?_
        refine lv_ifnull hx hb dX7_landLetters_22 ?_
        refine lv_aload hx hb dX7_landLetters_25 (lv_at hl 0 rfl) ?_
        refine gl_get 3 (by decide) hx hb hts hinX1 hinX3 hinX5 hown hK hP hT hk3.1 (own := RX7) (index := 185) (hts (.fieldLink RX7 185 "FurPosts$Letter" "carrier" "I") (by decide +kernel)) dX7_landLetters_27 (fun v4 => ?_)
        refine lv_iload_n hx hb dX7_landLetters_30 rfl (lv_at hl 3 rfl) ?_
        refine lv_icmp_ne (tgt := 64) hx hb dX7_landLetters_31 (by decide) (fun h_5 => ?_) (fun h_5 => ?_)
        · skip
          refine lv_iinc (v := (nI (j3 + 1))) (lv' := [(4, .int (nI (j3 + 1))), (5, .ref b3), (0, .ref h0), (1, .int a1), (2, .int a2), (3, .ref a3)]) hx hb dX7_landLetters_64 hl (k := 1) rfl (show nI j3 + 1 = nI (j3 + 1) from nI_1 j3) (by decide) rfl (fun ls hl => ?_)
          refine lv_goto (tgt := 3) hx hb dX7_landLetters_67 (by decide) ?_
          exact ih3 (j3 + 1) f dl H locs ls (by omega) hP hD hT hS (lv_sub hl [0, 2, 3, 4, 5] rfl)
        · skip
          refine lv_aload hx hb dX7_landLetters_34 (lv_at hl 0 rfl) ?_
          refine lv_iconst (v := (-1)) hx hb dX7_landLetters_36 (by decide) ?_
          refine gl_put 3 (by decide) hx hb hts hinX1 hinX3 hinX5 hown hK hP hD hS hT hk3.1 (own := RX7) (index := 185) (v := (-1)) (hts (.fieldLink RX7 185 "FurPosts$Letter" "carrier" "I") (by decide +kernel)) dX7_landLetters_37 (fun f H locs hP hD hT hS => ?_)
          refine lv_aload hx hb dX7_landLetters_40 (lv_at hl 0 rfl) ?_
          refine gl_get 1 (by decide) hx hb hts hinX1 hinX3 hinX5 hown hK hP hT hk3.1 (own := RX7) (index := 178) (hts (.fieldLink RX7 178 "FurPosts$Letter" "to" "I") (by decide +kernel)) dX7_landLetters_42 (fun v6 => ?_)
          refine lv_iload_n hx hb dX7_landLetters_45 rfl (lv_at hl 4 rfl) ?_
          refine lv_icmp_ne (tgt := 58) hx hb dX7_landLetters_46 (by decide) (fun h_7 => ?_) (fun h_7 => ?_)
          · skip
            refine lv_aload hx hb dX7_landLetters_58 (lv_at hl 0 rfl) ?_
            refine lv_iload_n hx hb dX7_landLetters_60 rfl (lv_at hl 4 rfl) ?_
            refine gl_put 2 (by decide) hx hb hts hinX1 hinX3 hinX5 hown hK hP hD hS hT hk3.1 (own := RX7) (index := 172) (v := a2) (hts (.fieldLink RX7 172 "FurPosts$Letter" "bag" "I") (by decide +kernel)) dX7_landLetters_61 (fun f H locs hP hD hT hS => ?_)
            refine lv_iinc (v := (nI (j3 + 1))) (lv' := [(4, .int (nI (j3 + 1))), (5, .ref b3), (0, .ref h0), (1, .int a1), (2, .int a2), (3, .ref a3)]) hx hb dX7_landLetters_64 hl (k := 1) rfl (show nI j3 + 1 = nI (j3 + 1) from nI_1 j3) (by decide) rfl (fun ls hl => ?_)
            refine lv_goto (tgt := 3) hx hb dX7_landLetters_67 (by decide) ?_
            exact ih3 (j3 + 1) f dl H locs ls (by omega) hP hD hT hS (lv_sub hl [0, 2, 3, 4, 5] rfl)
          · skip
            refine lv_aload hx hb dX7_landLetters_49 (lv_at hl 0 rfl) ?_
            refine lv_aload_n hx hb dX7_landLetters_51 rfl (lv_at hl 5 rfl) ?_
            rcases hk3.1 with kk8 | kk8 | kk8
            · skip
              obtain ⟨hm10, i10, g10, hi10, he10⟩ := at_4 (xo_ h0 q n dl) hT kk8
              refine va_callv (va_runU (As := [.ref a3]) (rest := []) ⟨hx, hb, hml, hown, hts⟩ (m_X3_readAt l dC dI h0 q n dl cI cy L t f hT hQ hN A hD b3 kk8 a3 ka3) (va_cwA 1 hts gX7_landLetters_X3_readAt_u207X3 rfl rfl rfl (nw_de hW0) (by decide +kernel) ⟨Nat.le_of_ble_eq_true rfl, Nat.le_of_ble_eq_true rfl⟩) (pt_pre hP hK hW0 (ci := 2) (q0 := i10) rfl he10) rfl rfl hl.1 rfl (lv_room (Nat.le_of_ble_eq_true rfl)) dX7_landLetters_52 ⟨Nat.le_of_ble_eq_true rfl, Nat.le_of_ble_eq_true rfl⟩) hS (fun _ _ h => h) (fun _ h => h) (fun u9 st9 H locs ht9 hvm9 hw9 hB9 hz9 hk9 hS => ?_)
              obtain ⟨f9, n9, d9⟩ := u9
              obtain ⟨hD9, hT9, hn9⟩ := hw9
              have hn9 : n9 = n := hn9
              have hB9 : va_P (dC, dI) vwCl (xo_ h0 q n9 d9 ++ va_pl L f9) H := by rw [← ht9]; exact hB9
              have hD9 : va_D A (xo_ h0 q n9 d9 ++ va_pl L f9) := hD9
              rw [hn9] at hB9 hD9
              obtain ⟨f, dl, hP, hD, hT⟩ : ∃ (f : Nat → va_E) (dl : Int32), va_P (dC, dI) vwCl (xo_ h0 q n dl ++ va_pl L f) H ∧ va_D A (xo_ h0 q n dl ++ va_pl L f) ∧ ty_ cI cy L t f := ⟨f9, d9, hB9, hD9, hT9⟩
              refine lv_goto (tgt := 64) hx hb dX7_landLetters_55 (by decide) ?_
              refine lv_iinc (v := (nI (j3 + 1))) (lv' := [(4, .int (nI (j3 + 1))), (5, .ref b3), (0, .ref h0), (1, .int a1), (2, .int a2), (3, .ref a3)]) hx hb dX7_landLetters_64 hl (k := 1) rfl (show nI j3 + 1 = nI (j3 + 1) from nI_1 j3) (by decide) rfl (fun ls hl => ?_)
              refine lv_goto (tgt := 3) hx hb dX7_landLetters_67 (by decide) ?_
              exact ih3 (j3 + 1) f dl H locs ls (by omega) hP hD hT hS (lv_sub hl [0, 2, 3, 4, 5] rfl)
            · skip
              obtain ⟨hm12, i12, g12, hi12, he12⟩ := at_5 (xo_ h0 q n dl) hT kk8
              refine va_callv (va_runU (As := [.ref a3]) (rest := []) ⟨hx, hb, hml, hown, hts⟩ (m_X1_readAt l dC dI h0 q n dl cI cy L t f hT hQ hN A hD b3 kk8 a3 ka3) (va_cwA 1 hts gX7_landLetters_X1_readAt_u207X1 rfl rfl rfl (nw_de hW0) (by decide +kernel) ⟨Nat.le_of_ble_eq_true rfl, Nat.le_of_ble_eq_true rfl⟩) (pt_pre hP hK hW0 (ci := 1) (q0 := i12) rfl he12) rfl rfl hl.1 rfl (lv_room (Nat.le_of_ble_eq_true rfl)) dX7_landLetters_52 ⟨Nat.le_of_ble_eq_true rfl, Nat.le_of_ble_eq_true rfl⟩) hS (fun _ _ h => h) (fun _ h => h) (fun u11 st11 H locs ht11 hvm11 hw11 hB11 hz11 hk11 hS => ?_)
              obtain ⟨f11, n11, d11⟩ := u11
              obtain ⟨hD11, hT11, hn11⟩ := hw11
              have hn11 : n11 = n := hn11
              have hB11 : va_P (dC, dI) vwCl (xo_ h0 q n11 d11 ++ va_pl L f11) H := by rw [← ht11]; exact hB11
              have hD11 : va_D A (xo_ h0 q n11 d11 ++ va_pl L f11) := hD11
              rw [hn11] at hB11 hD11
              obtain ⟨f, dl, hP, hD, hT⟩ : ∃ (f : Nat → va_E) (dl : Int32), va_P (dC, dI) vwCl (xo_ h0 q n dl ++ va_pl L f) H ∧ va_D A (xo_ h0 q n dl ++ va_pl L f) ∧ ty_ cI cy L t f := ⟨f11, d11, hB11, hD11, hT11⟩
              refine lv_goto (tgt := 64) hx hb dX7_landLetters_55 (by decide) ?_
              refine lv_iinc (v := (nI (j3 + 1))) (lv' := [(4, .int (nI (j3 + 1))), (5, .ref b3), (0, .ref h0), (1, .int a1), (2, .int a2), (3, .ref a3)]) hx hb dX7_landLetters_64 hl (k := 1) rfl (show nI j3 + 1 = nI (j3 + 1) from nI_1 j3) (by decide) rfl (fun ls hl => ?_)
              refine lv_goto (tgt := 3) hx hb dX7_landLetters_67 (by decide) ?_
              exact ih3 (j3 + 1) f dl H locs ls (by omega) hP hD hT hS (lv_sub hl [0, 2, 3, 4, 5] rfl)
            · skip
              obtain ⟨hm14, i14, g14, s14, hi14, he14, k14_0⟩ := at_6 (xo_ h0 q n dl) hT kk8
              refine va_callv (va_runU (As := [.ref a3]) (rest := []) ⟨hx, hb, hml, hown, hts⟩ (m_X5_readAt l dC dI h0 q n dl cI cy L t f hT hQ hN A hD b3 kk8 a3 ka3) (va_cwA 1 hts gX7_landLetters_X5_readAt_u207X5 rfl rfl rfl (nw_de hW0) (by decide +kernel) ⟨Nat.le_of_ble_eq_true rfl, Nat.le_of_ble_eq_true rfl⟩) (pt_pre hP hK hW0 (ci := 4) (q0 := i14) rfl he14) rfl rfl hl.1 rfl (lv_room (Nat.le_of_ble_eq_true rfl)) dX7_landLetters_52 ⟨Nat.le_of_ble_eq_true rfl, Nat.le_of_ble_eq_true rfl⟩) hS (fun _ _ h => h) (fun _ h => h) (fun u13 st13 H locs ht13 hvm13 hw13 hB13 hz13 hk13 hS => ?_)
              obtain ⟨f13, n13, d13⟩ := u13
              obtain ⟨hD13, hT13, hn13⟩ := hw13
              have hn13 : n13 = n := hn13
              have hB13 : va_P (dC, dI) vwCl (xo_ h0 q n13 d13 ++ va_pl L f13) H := by rw [← ht13]; exact hB13
              have hD13 : va_D A (xo_ h0 q n13 d13 ++ va_pl L f13) := hD13
              rw [hn13] at hB13 hD13
              obtain ⟨f, dl, hP, hD, hT⟩ : ∃ (f : Nat → va_E) (dl : Int32), va_P (dC, dI) vwCl (xo_ h0 q n dl ++ va_pl L f) H ∧ va_D A (xo_ h0 q n dl ++ va_pl L f) ∧ ty_ cI cy L t f := ⟨f13, d13, hB13, hD13, hT13⟩
              refine lv_goto (tgt := 64) hx hb dX7_landLetters_55 (by decide) ?_
              refine lv_iinc (v := (nI (j3 + 1))) (lv' := [(4, .int (nI (j3 + 1))), (5, .ref b3), (0, .ref h0), (1, .int a1), (2, .int a2), (3, .ref a3)]) hx hb dX7_landLetters_64 hl (k := 1) rfl (show nI j3 + 1 = nI (j3 + 1) from nI_1 j3) (by decide) rfl (fun ls hl => ?_)
              refine lv_goto (tgt := 3) hx hb dX7_landLetters_67 (by decide) ?_
              exact ih3 (j3 + 1) f dl H locs ls (by omega) hP hD hT hS (lv_sub hl [0, 2, 3, 4, 5] rfl)
  exact key3 (n 4) 0 f dl H locs ls (by omega) hP hD hT hS (lv_sub hl [0, 1, 2, 3, 4] rfl)

set_option maxHeartbeats 4000000 in
set_option maxRecDepth 100000 in
theorem m_X7_moveCanoe (l : Launch) (dC : Nat → ClassId) (dI : Nat → Nat → Nat) (h0 : Nat) (q n : Nat → Nat) (dl : Int32) (cI : ClassId) (cy : Nat → ClassId) (L : List Nat) (t : Nat → Nat) (f : Nat → va_E) (hT : ty_ cI cy L t f) (hQ : qs_ q t) (hN : nb_ n) (A : Nat → Prop) (hD : va_D A (xo_ h0 q n dl ++ va_pl L f)) (a1 : Int32) : Met l yX7_moveCanoe wsX7_moveCanoe ({ frames := 3, cells := 0, slots := 0, locals := 68 }) (va_Pc [.ref h0, .int a1] (pt_P (dC, dI) vwCl (tt_ cI cy) (xo_ h0 q n dl ++ va_pl L f))) (va_Qv (fun u : (Nat → va_E) × (Nat → Nat) × Int32 => va_D A (xo_ h0 q u.2.1 u.2.2 ++ va_pl L u.1) ∧ ty_ cI cy L t u.1 ∧ u.2.1 = n) (fun u s' => va_P (dC, dI) vwCl (xo_ h0 q u.2.1 u.2.2 ++ va_pl L u.1) s'.heap) A) 0 0 A := by
  refine Met.ofW (cc := cX7_moveCanoe) (maxL := 5) (ret := none) (by decide) rfl ?_
  intro p e s m args below meth c s₁ B hml hv
  obtain ⟨rfl, hP, hK, hW0⟩ := hv
  have hx := B.exec
  have hb := B.bytes
  have hr := B.returns
  have hts := atoms_spec (ws := wsX7_moveCanoe) B.pre
  have hown : s.vm.findClass RX7 = some m.cls := findClass_of_methodNamed B.named
  have hlocks := B.notSynchronized
  have hinX0 : ∀ w ∈ u_ws RX0 TX0 11, w ∈ wsX7_moveCanoe := by decide +kernel
  have hinX7 : ∀ w ∈ u_ws RX7 TX7 14, w ∈ wsX7_moveCanoe := by decide +kernel
  have hS : va_S A s.heap s.heap [] := va_S.rf
  have hl := lv_entry ([.ref h0, .int a1]) (n := 5) (Nat.le_of_ble_eq_true rfl)
  rw [lg_entry_eq]
  generalize (lg_sl ([.ref h0, .int a1]) ++ List.replicate (5 - (lg_sl ([.ref h0, .int a1])).length) Slot.unset).toArray = ls at hl ⊢
  have hl : lv_has ls 5 [(0, .ref h0), (1, .int a1)] := hl
  obtain ⟨H, hH, hP, hS⟩ : ∃ H, H = s.heap ∧ va_P (dC, dI) vwCl (xo_ h0 q n dl ++ va_pl L f) H ∧ va_S A s.heap H [] := ⟨_, rfl, hP, hS⟩
  rw [← hH]
  generalize ([] : List Loc) = locs at hS ⊢
  refine lv_aload_n hx hb dX7_moveCanoe_0 rfl (lv_at hl 0 rfl) ?_
  refine lv_iload_n hx hb dX7_moveCanoe_1 rfl (lv_at hl 1 rfl) ?_
  refine pg_call (va_runV (As := [.int a1]) (rest := []) ⟨hx, hb, hml, hown, hts⟩ (k_X7_canoeAt l dC dI h0 q n dl cI cy L t f hT hQ hN a1) (cwV 1 hts gX7_moveCanoe_X7_canoeAt rfl rfl rfl (by decide +kernel) ⟨Nat.le_of_ble_eq_true rfl, Nat.le_of_ble_eq_true rfl⟩) (pt_pre hP hK hW0 (ci := 6) (q0 := 0) rfl rfl) rfl rfl hl.1 rfl (lv_room (Nat.le_of_ble_eq_true rfl)) dX7_moveCanoe_2 ⟨Nat.le_of_ble_eq_true rfl, Nat.le_of_ble_eq_true rfl⟩) (fun w1 hw1 => ?_)
  obtain ⟨o1, rfl, hg1⟩ := hw1
  cases o1 with
  | none =>
    refine lv_astore_nN (lv' := [(2, .null), (0, .ref h0), (1, .int a1)]) hx hb dX7_moveCanoe_5 rfl hl (by decide) rfl (fun ls hl => ?_)
    refine lv_aload_nN hx hb dX7_moveCanoe_6 rfl (lv_at hl 0 rfl) ?_
    refine lv_ifnullN (tgt := 17) hx hb dX7_moveCanoe_7 (by decide) ?_
    exact W.vret hx hb hr (fun t ht hW => ⟨⟨(f, n, dl), rfl, ⟨hD, hT, rfl⟩, by show va_P (dC, dI) vwCl _ t.heap; rw [ht]; exact hP⟩, hS.F ht⟩) hS.2.2 dX7_moveCanoe_17
  | some b1 =>
    have hk1 := hg1 b1 rfl
    refine lv_astore_n (lv' := [(2, .ref b1), (0, .ref h0), (1, .int a1)]) hx hb dX7_moveCanoe_5 rfl hl (by decide) rfl (fun ls hl => ?_)
    refine lv_aload_n hx hb dX7_moveCanoe_6 rfl (lv_at hl 0 rfl) ?_
    refine lv_ifnull hx hb dX7_moveCanoe_7 ?_
    refine lv_aload_n hx hb dX7_moveCanoe_10 rfl (lv_at hl 0 rfl) ?_
    obtain ⟨hm2, i2, g2, s2, w2, hi2, he2, k2_0, k2_1⟩ := at_3 (xo_ h0 q n dl) hT hk1.1
    refine va_get (D := (dC, dI)) (ci := 0) (v := .int (g2 9)) (C := RX0) (T := TX0) (N := 11) hx hb hts hinX0 hown hK hP i2 he2 rfl 9 (by decide) (hts (.fieldLink RX7 142 "FurPosts$Canoe" "state" "I") (by decide +kernel)) (fun _ h9 => h9) rfl dX7_moveCanoe_11 ?_
    refine lv_if_eq (tgt := 18) hx hb dX7_moveCanoe_14 (by decide) (fun h_3 => ?_) (fun h_3 => ?_)
    · skip
      refine lv_aload_n hx hb dX7_moveCanoe_18 rfl (lv_at hl 1 rfl) ?_
      refine lv_aload_n hx hb dX7_moveCanoe_19 rfl (lv_at hl 0 rfl) ?_
      refine va_get (D := (dC, dI)) (ci := 0) (v := .int (g2 2)) (C := RX0) (T := TX0) (N := 11) hx hb hts hinX0 hown hK hP i2 he2 rfl 2 (by decide) (hts (.fieldLink RX7 193 "FurPosts$Canoe" "way" "I") (by decide +kernel)) (fun _ h9 => h9) rfl dX7_moveCanoe_20 ?_
      refine pg_call (va_runV (As := [.int (g2 2)]) (rest := []) ⟨hx, hb, hml, hown, hts⟩ (k_X7_wayAt l dC dI h0 q n dl cI cy L t f hT hQ hN (g2 2)) (cwV 1 hts gX7_moveCanoe_X7_wayAt rfl rfl rfl (by decide +kernel) ⟨Nat.le_of_ble_eq_true rfl, Nat.le_of_ble_eq_true rfl⟩) (pt_pre hP hK hW0 (ci := 6) (q0 := 0) rfl rfl) rfl rfl hl.1 rfl (lv_room (Nat.le_of_ble_eq_true rfl)) dX7_moveCanoe_23 ⟨Nat.le_of_ble_eq_true rfl, Nat.le_of_ble_eq_true rfl⟩) (fun w4 hw4 => ?_)
      obtain ⟨o4, rfl, hg4⟩ := hw4
      cases o4 with
      | none =>
        refine lv_astore_nN (lv' := [(3, .null), (2, .ref b1), (0, .ref h0), (1, .int a1)]) hx hb dX7_moveCanoe_26 rfl hl (by decide) rfl (fun ls hl => ?_)
        refine lv_aload_n hx hb dX7_moveCanoe_27 rfl (lv_at hl 2 rfl) ?_
        refine lv_aload_n hx hb dX7_moveCanoe_28 rfl (lv_at hl 1 rfl) ?_
        refine va_get (D := (dC, dI)) (ci := 0) (v := .int (g2 1)) (C := RX0) (T := TX0) (N := 11) hx hb hts hinX0 hown hK hP i2 he2 rfl 1 (by decide) (hts (.fieldLink RX7 184 "FurPosts$Canoe" "to" "I") (by decide +kernel)) (fun _ h9 => h9) rfl dX7_moveCanoe_29 ?_
        refine pg_call (va_runV (As := [.int (g2 1)]) (rest := []) ⟨hx, hb, hml, hown, hts⟩ (k_X7_postAt l dC dI h0 q n dl cI cy L t f hT hQ hN (g2 1)) (cwV 1 hts gX7_moveCanoe_X7_postAt rfl rfl rfl (by decide +kernel) ⟨Nat.le_of_ble_eq_true rfl, Nat.le_of_ble_eq_true rfl⟩) (pt_pre hP hK hW0 (ci := 6) (q0 := 0) rfl rfl) rfl rfl hl.1 rfl (lv_room (Nat.le_of_ble_eq_true rfl)) dX7_moveCanoe_32 ⟨Nat.le_of_ble_eq_true rfl, Nat.le_of_ble_eq_true rfl⟩) (fun w5 hw5 => ?_)
        obtain ⟨o5, rfl, hg5⟩ := hw5
        cases o5 with
        | none =>
          refine lv_astoreN (lv' := [(4, .null), (3, .null), (2, .ref b1), (0, .ref h0), (1, .int a1)]) hx hb dX7_moveCanoe_35 hl (by decide) rfl (fun ls hl => ?_)
          refine lv_aload_nN hx hb dX7_moveCanoe_37 rfl (lv_at hl 1 rfl) ?_
          refine lv_ifnullN (tgt := 57) hx hb dX7_moveCanoe_38 (by decide) ?_
          exact W.vret hx hb hr (fun t ht hW => ⟨⟨(f, n, dl), rfl, ⟨hD, hT, rfl⟩, by show va_P (dC, dI) vwCl _ t.heap; rw [ht]; exact hP⟩, hS.F ht⟩) hS.2.2 dX7_moveCanoe_57
        | some b5 =>
          have hk5 := hg5 b5 rfl
          refine lv_astore (lv' := [(4, .ref b5), (3, .null), (2, .ref b1), (0, .ref h0), (1, .int a1)]) hx hb dX7_moveCanoe_35 hl (by decide) rfl (fun ls hl => ?_)
          refine lv_aload_nN hx hb dX7_moveCanoe_37 rfl (lv_at hl 1 rfl) ?_
          refine lv_ifnullN (tgt := 57) hx hb dX7_moveCanoe_38 (by decide) ?_
          exact W.vret hx hb hr (fun t ht hW => ⟨⟨(f, n, dl), rfl, ⟨hD, hT, rfl⟩, by show va_P (dC, dI) vwCl _ t.heap; rw [ht]; exact hP⟩, hS.F ht⟩) hS.2.2 dX7_moveCanoe_57
      | some b4 =>
        have hk4 := hg4 b4 rfl
        refine lv_astore_n (lv' := [(3, .ref b4), (2, .ref b1), (0, .ref h0), (1, .int a1)]) hx hb dX7_moveCanoe_26 rfl hl (by decide) rfl (fun ls hl => ?_)
        refine lv_aload_n hx hb dX7_moveCanoe_27 rfl (lv_at hl 2 rfl) ?_
        refine lv_aload_n hx hb dX7_moveCanoe_28 rfl (lv_at hl 1 rfl) ?_
        refine va_get (D := (dC, dI)) (ci := 0) (v := .int (g2 1)) (C := RX0) (T := TX0) (N := 11) hx hb hts hinX0 hown hK hP i2 he2 rfl 1 (by decide) (hts (.fieldLink RX7 184 "FurPosts$Canoe" "to" "I") (by decide +kernel)) (fun _ h9 => h9) rfl dX7_moveCanoe_29 ?_
        refine pg_call (va_runV (As := [.int (g2 1)]) (rest := []) ⟨hx, hb, hml, hown, hts⟩ (k_X7_postAt l dC dI h0 q n dl cI cy L t f hT hQ hN (g2 1)) (cwV 1 hts gX7_moveCanoe_X7_postAt rfl rfl rfl (by decide +kernel) ⟨Nat.le_of_ble_eq_true rfl, Nat.le_of_ble_eq_true rfl⟩) (pt_pre hP hK hW0 (ci := 6) (q0 := 0) rfl rfl) rfl rfl hl.1 rfl (lv_room (Nat.le_of_ble_eq_true rfl)) dX7_moveCanoe_32 ⟨Nat.le_of_ble_eq_true rfl, Nat.le_of_ble_eq_true rfl⟩) (fun w6 hw6 => ?_)
        obtain ⟨o6, rfl, hg6⟩ := hw6
        cases o6 with
        | none =>
          refine lv_astoreN (lv' := [(4, .null), (3, .ref b4), (2, .ref b1), (0, .ref h0), (1, .int a1)]) hx hb dX7_moveCanoe_35 hl (by decide) rfl (fun ls hl => ?_)
          refine lv_aload_n hx hb dX7_moveCanoe_37 rfl (lv_at hl 1 rfl) ?_
          refine lv_ifnull hx hb dX7_moveCanoe_38 ?_
          refine lv_aloadN hx hb dX7_moveCanoe_41 (lv_at hl 0 rfl) ?_
          refine lv_ifnullN (tgt := 57) hx hb dX7_moveCanoe_43 (by decide) ?_
          exact W.vret hx hb hr (fun t ht hW => ⟨⟨(f, n, dl), rfl, ⟨hD, hT, rfl⟩, by show va_P (dC, dI) vwCl _ t.heap; rw [ht]; exact hP⟩, hS.F ht⟩) hS.2.2 dX7_moveCanoe_57
        | some b6 =>
          have hk6 := hg6 b6 rfl
          refine lv_astore (lv' := [(4, .ref b6), (3, .ref b4), (2, .ref b1), (0, .ref h0), (1, .int a1)]) hx hb dX7_moveCanoe_35 hl (by decide) rfl (fun ls hl => ?_)
          refine lv_aload_n hx hb dX7_moveCanoe_37 rfl (lv_at hl 1 rfl) ?_
          refine lv_ifnull hx hb dX7_moveCanoe_38 ?_
          refine lv_aload hx hb dX7_moveCanoe_41 (lv_at hl 0 rfl) ?_
          refine lv_ifnull hx hb dX7_moveCanoe_43 ?_
          refine lv_aload_n hx hb dX7_moveCanoe_46 rfl (lv_at hl 1 rfl) ?_
          refine lv_aload_n hx hb dX7_moveCanoe_47 rfl (lv_at hl 3 rfl) ?_
          refine va_get (D := (dC, dI)) (ci := 6) (v := .int (nI (n 0))) (C := RX7) (T := TX7) (N := 14) hx hb hts hinX7 hown hK hP 0 rfl rfl 8 (by decide) (hts (.fieldLink RX7 103 "FurPosts" "now" "I") (by decide +kernel)) (fun _ h9 => h9) rfl dX7_moveCanoe_48 ?_
          obtain ⟨hm8, i8, g8, hi8, he8⟩ := at_2 (xo_ h0 q n dl) hT hk4.1
          refine pg_call (va_runV (As := [.int (nI (n 0))]) (rest := []) ⟨hx, hb, hml, hown, hts⟩ (k_X6_isOpenOn l dC dI h0 q n dl cI cy L t f hT hQ hN b4 hk4.1 (nI (n 0))) (cwV 1 hts gX7_moveCanoe_X6_isOpenOn rfl rfl rfl (by decide +kernel) ⟨Nat.le_of_ble_eq_true rfl, Nat.le_of_ble_eq_true rfl⟩) (pt_pre hP hK hW0 (ci := 5) (q0 := i8) rfl he8) rfl rfl hl.1 rfl (lv_room (Nat.le_of_ble_eq_true rfl)) dX7_moveCanoe_51 ⟨Nat.le_of_ble_eq_true rfl, Nat.le_of_ble_eq_true rfl⟩) (fun w7 hw7 => ?_)
          obtain ⟨r7, rfl, hg7⟩ := hw7
          refine lv_if_ne (tgt := 58) hx hb dX7_moveCanoe_54 (by decide) (fun h_9 => ?_) (fun h_9 => ?_)
          · skip
            refine lv_aload_n hx hb dX7_moveCanoe_58 rfl (lv_at hl 2 rfl) ?_
            refine lv_dup hx hb dX7_moveCanoe_59 rfl ?_
            refine va_get (D := (dC, dI)) (ci := 0) (v := .int (g2 7)) (C := RX0) (T := TX0) (N := 11) hx hb hts hinX0 hown hK hP i2 he2 rfl 7 (by decide) (hts (.fieldLink RX7 145 "FurPosts$Canoe" "daysToGo" "I") (by decide +kernel)) (fun _ h9 => h9) rfl dX7_moveCanoe_60 ?_
            refine lv_iconst (v := 1) hx hb dX7_moveCanoe_63 (by decide) ?_
            refine lv_isub hx hb dX7_moveCanoe_64 ?_
            refine lv_topi (fun v10 _ => ?_)
            refine va_put (D := (dC, dI)) (ci := 0) (v := .int v10) (ty := .int) (C := RX0) (T := TX0) (N := 11) hx hb hts hinX0 tyX0 tyX0_ok nmX0 hown hK hP hD hS i2 he2 rfl 7 (by decide) (hts (.fieldLink RX7 145 "FurPosts$Canoe" "daysToGo" "I") (by decide +kernel)) (fun _ h9 => h9) rfl (by decide +kernel) rfl rfl (Nat.le_of_ble_eq_true rfl) dX7_moveCanoe_65 (fun H locs hP2 hD2 hS => ?_)
            rw [va_pl_set hD hm2 hi2] at hP2 hD2
            obtain ⟨f, hP, hD, hT⟩ : ∃ f, va_P (dC, dI) vwCl (xo_ h0 q n dl ++ va_pl L f) H ∧ va_D A (xo_ h0 q n dl ++ va_pl L f) ∧ ty_ cI cy L t f := ⟨_, hP2, hD2, ty_set hT hk1.1 ⟨va_up g2 7 v10, s2, w2, rfl, k2_0, k2_1⟩⟩
            refine lv_aload_n hx hb dX7_moveCanoe_68 rfl (lv_at hl 2 rfl) ?_
            obtain ⟨hm11, i11, g11, s11, w11, hi11, he11, k11_0, k11_1⟩ := at_3 (xo_ h0 q n dl) hT hk1.1
            refine va_get (D := (dC, dI)) (ci := 0) (v := .int (g11 7)) (C := RX0) (T := TX0) (N := 11) hx hb hts hinX0 hown hK hP i11 he11 rfl 7 (by decide) (hts (.fieldLink RX7 145 "FurPosts$Canoe" "daysToGo" "I") (by decide +kernel)) (fun _ h9 => h9) rfl dX7_moveCanoe_69 ?_
            refine lv_if_ne (tgt := 93) hx hb dX7_moveCanoe_72 (by decide) (fun h_12 => ?_) (fun h_12 => ?_)
            · skip
              exact W.vret hx hb hr (fun t ht hW => ⟨⟨(f, n, dl), rfl, ⟨hD, hT, rfl⟩, by show va_P (dC, dI) vwCl _ t.heap; rw [ht]; exact hP⟩, hS.F ht⟩) hS.2.2 dX7_moveCanoe_93
            · skip
              refine lv_aload_n hx hb dX7_moveCanoe_75 rfl (lv_at hl 3 rfl) ?_
              refine lv_aload_n hx hb dX7_moveCanoe_76 rfl (lv_at hl 2 rfl) ?_
              refine lv_aload hx hb dX7_moveCanoe_77 (lv_at hl 0 rfl) ?_
              refine va_callv (va_runV (As := [.ref b1, .ref b6]) (rest := []) ⟨hx, hb, hml, hown, hts⟩ (m_X7_landCanoe l dC dI h0 q n dl cI cy L t f hT hQ hN A hD b1 hk1.1 b6 hk6.1) (cwV 2 hts gX7_moveCanoe_X7_landCanoe rfl rfl rfl (by decide +kernel) ⟨Nat.le_of_ble_eq_true rfl, Nat.le_of_ble_eq_true rfl⟩) (pt_pre hP hK hW0 (ci := 6) (q0 := 0) rfl rfl) rfl rfl hl.1 rfl (lv_room (Nat.le_of_ble_eq_true rfl)) dX7_moveCanoe_79 ⟨Nat.le_of_ble_eq_true rfl, Nat.le_of_ble_eq_true rfl⟩) hS (fun _ _ h => h) (fun _ h => h) (fun u13 st13 H locs ht13 hvm13 hw13 hB13 hz13 hk13 hS => ?_)
              obtain ⟨f13, n13, d13⟩ := u13
              obtain ⟨hD13, hT13, hn13⟩ := hw13
              have hn13 : n13 = n := hn13
              have hB13 : va_P (dC, dI) vwCl (xo_ h0 q n13 d13 ++ va_pl L f13) H := by rw [← ht13]; exact hB13
              have hD13 : va_D A (xo_ h0 q n13 d13 ++ va_pl L f13) := hD13
              rw [hn13] at hB13 hD13
              obtain ⟨f, dl, hP, hD, hT⟩ : ∃ (f : Nat → va_E) (dl : Int32), va_P (dC, dI) vwCl (xo_ h0 q n dl ++ va_pl L f) H ∧ va_D A (xo_ h0 q n dl ++ va_pl L f) ∧ ty_ cI cy L t f := ⟨f13, d13, hB13, hD13, hT13⟩
              refine lv_aload_n hx hb dX7_moveCanoe_82 rfl (lv_at hl 3 rfl) ?_
              refine lv_iload_n hx hb dX7_moveCanoe_83 rfl (lv_at hl 4 rfl) ?_
              refine lv_aload_n hx hb dX7_moveCanoe_84 rfl (lv_at hl 2 rfl) ?_
              obtain ⟨hm14, i14, g14, s14, w14, hi14, he14, k14_0, k14_1⟩ := at_3 (xo_ h0 q n dl) hT hk1.1
              refine va_get (D := (dC, dI)) (ci := 0) (v := .int (g14 1)) (C := RX0) (T := TX0) (N := 11) hx hb hts hinX0 hown hK hP i14 he14 rfl 1 (by decide) (hts (.fieldLink RX7 184 "FurPosts$Canoe" "to" "I") (by decide +kernel)) (fun _ h9 => h9) rfl dX7_moveCanoe_85 ?_
              refine lv_aload hx hb dX7_moveCanoe_88 (lv_at hl 0 rfl) ?_
              refine va_callv (va_runV (As := [.int a1, .int (g14 1), .ref b6]) (rest := []) ⟨hx, hb, hml, hown, hts⟩ (m_X7_landLetters l dC dI h0 q n dl cI cy L t f hT hQ hN A hD a1 (g14 1) b6 hk6.1) (cwV 3 hts gX7_moveCanoe_X7_landLetters rfl rfl rfl (by decide +kernel) ⟨Nat.le_of_ble_eq_true rfl, Nat.le_of_ble_eq_true rfl⟩) (pt_pre hP hK hW0 (ci := 6) (q0 := 0) rfl rfl) rfl rfl hl.1 rfl (lv_room (Nat.le_of_ble_eq_true rfl)) dX7_moveCanoe_90 ⟨Nat.le_of_ble_eq_true rfl, Nat.le_of_ble_eq_true rfl⟩) hS (fun _ _ h => h) (fun _ h => h) (fun u15 st15 H locs ht15 hvm15 hw15 hB15 hz15 hk15 hS => ?_)
              obtain ⟨f15, n15, d15⟩ := u15
              obtain ⟨hD15, hT15, hn15⟩ := hw15
              have hn15 : n15 = n := hn15
              have hB15 : va_P (dC, dI) vwCl (xo_ h0 q n15 d15 ++ va_pl L f15) H := by rw [← ht15]; exact hB15
              have hD15 : va_D A (xo_ h0 q n15 d15 ++ va_pl L f15) := hD15
              rw [hn15] at hB15 hD15
              obtain ⟨f, dl, hP, hD, hT⟩ : ∃ (f : Nat → va_E) (dl : Int32), va_P (dC, dI) vwCl (xo_ h0 q n dl ++ va_pl L f) H ∧ va_D A (xo_ h0 q n dl ++ va_pl L f) ∧ ty_ cI cy L t f := ⟨f15, d15, hB15, hD15, hT15⟩
              exact W.vret hx hb hr (fun t ht hW => ⟨⟨(f, n, dl), rfl, ⟨hD, hT, rfl⟩, by show va_P (dC, dI) vwCl _ t.heap; rw [ht]; exact hP⟩, hS.F ht⟩) hS.2.2 dX7_moveCanoe_93
          · skip
            exact W.vret hx hb hr (fun t ht hW => ⟨⟨(f, n, dl), rfl, ⟨hD, hT, rfl⟩, by show va_P (dC, dI) vwCl _ t.heap; rw [ht]; exact hP⟩, hS.F ht⟩) hS.2.2 dX7_moveCanoe_57
    · skip
      exact W.vret hx hb hr (fun t ht hW => ⟨⟨(f, n, dl), rfl, ⟨hD, hT, rfl⟩, by show va_P (dC, dI) vwCl _ t.heap; rw [ht]; exact hP⟩, hS.F ht⟩) hS.2.2 dX7_moveCanoe_17

set_option maxHeartbeats 4000000 in
set_option maxRecDepth 100000 in
theorem m_X7_lose (l : Launch) (dC : Nat → ClassId) (dI : Nat → Nat → Nat) (h0 : Nat) (q n : Nat → Nat) (dl : Int32) (cI : ClassId) (cy : Nat → ClassId) (L : List Nat) (t : Nat → Nat) (f : Nat → va_E) (hT : ty_ cI cy L t f) (hQ : qs_ q t) (hN : nb_ n) (A : Nat → Prop) (hD : va_D A (xo_ h0 q n dl ++ va_pl L f)) (a1 : Int32) : Met l yX7_lose wsX7_lose ({ frames := 2, cells := 0, slots := 0, locals := 44 }) (va_Pc [.ref h0, .int a1] (pt_P (dC, dI) vwCl (tt_ cI cy) (xo_ h0 q n dl ++ va_pl L f))) (va_Qi (fun r (u : (Nat → va_E) × (Nat → Nat) × Int32) => True ∧ va_D A (xo_ h0 q u.2.1 u.2.2 ++ va_pl L u.1) ∧ ty_ cI cy L t u.1 ∧ u.2.1 = n) (fun u s' => va_P (dC, dI) vwCl (xo_ h0 q u.2.1 u.2.2 ++ va_pl L u.1) s'.heap) A) 0 0 A := by
  refine Met.ofW (cc := cX7_lose) (maxL := 5) (ret := (some .int)) (by decide) rfl ?_
  intro p e s m args below meth c s₁ B hml hv
  obtain ⟨rfl, hP, hK, hW0⟩ := hv
  have hx := B.exec
  have hb := B.bytes
  have hr := B.returns
  have hts := atoms_spec (ws := wsX7_lose) B.pre
  have hown : s.vm.findClass RX7 = some m.cls := findClass_of_methodNamed B.named
  have hlocks := B.notSynchronized
  have hinX0 : ∀ w ∈ u_ws RX0 TX0 11, w ∈ wsX7_lose := by decide +kernel
  have hinX7 : ∀ w ∈ u_ws RX7 TX7 14, w ∈ wsX7_lose := by decide +kernel
  have hS : va_S A s.heap s.heap [] := va_S.rf
  have hl := lv_entry ([.ref h0, .int a1]) (n := 5) (Nat.le_of_ble_eq_true rfl)
  rw [lg_entry_eq]
  generalize (lg_sl ([.ref h0, .int a1]) ++ List.replicate (5 - (lg_sl ([.ref h0, .int a1])).length) Slot.unset).toArray = ls at hl ⊢
  have hl : lv_has ls 5 [(0, .ref h0), (1, .int a1)] := hl
  obtain ⟨H, hH, hP, hS⟩ : ∃ H, H = s.heap ∧ va_P (dC, dI) vwCl (xo_ h0 q n dl ++ va_pl L f) H ∧ va_S A s.heap H [] := ⟨_, rfl, hP, hS⟩
  rw [← hH]
  generalize ([] : List Loc) = locs at hS ⊢
  refine lv_aload_n hx hb dX7_lose_0 rfl (lv_at hl 0 rfl) ?_
  refine lv_iload_n hx hb dX7_lose_1 rfl (lv_at hl 1 rfl) ?_
  refine pg_call (va_runV (As := [.int a1]) (rest := []) ⟨hx, hb, hml, hown, hts⟩ (k_X7_canoeAt l dC dI h0 q n dl cI cy L t f hT hQ hN a1) (cwV 1 hts gX7_lose_X7_canoeAt rfl rfl rfl (by decide +kernel) ⟨Nat.le_of_ble_eq_true rfl, Nat.le_of_ble_eq_true rfl⟩) (pt_pre hP hK hW0 (ci := 6) (q0 := 0) rfl rfl) rfl rfl hl.1 rfl (lv_room (Nat.le_of_ble_eq_true rfl)) dX7_lose_2 ⟨Nat.le_of_ble_eq_true rfl, Nat.le_of_ble_eq_true rfl⟩) (fun w1 hw1 => ?_)
  obtain ⟨o1, rfl, hg1⟩ := hw1
  cases o1 with
  | none =>
    refine lv_astore_nN (lv' := [(2, .null), (0, .ref h0), (1, .int a1)]) hx hb dX7_lose_5 rfl hl (by decide) rfl (fun ls hl => ?_)
    refine lv_aload_nN hx hb dX7_lose_6 rfl (lv_at hl 0 rfl) ?_
    refine lv_ifnullN (tgt := 17) hx hb dX7_lose_7 (by decide) ?_
    refine lv_iconst (v := (-1)) hx hb dX7_lose_17 (by decide) ?_
    exact W.iret (v := (-1)) hx hb hr (fun t ht hW => ⟨⟨(-1), (f, n, dl), rfl, ⟨trivial, hD, hT, rfl⟩, by show va_P (dC, dI) vwCl _ t.heap; rw [ht]; exact hP⟩, hS.F ht⟩) hS.2.2 dX7_lose_18
  | some b1 =>
    have hk1 := hg1 b1 rfl
    refine lv_astore_n (lv' := [(2, .ref b1), (0, .ref h0), (1, .int a1)]) hx hb dX7_lose_5 rfl hl (by decide) rfl (fun ls hl => ?_)
    refine lv_aload_n hx hb dX7_lose_6 rfl (lv_at hl 0 rfl) ?_
    refine lv_ifnull hx hb dX7_lose_7 ?_
    refine lv_aload_n hx hb dX7_lose_10 rfl (lv_at hl 0 rfl) ?_
    obtain ⟨hm2, i2, g2, s2, w2, hi2, he2, k2_0, k2_1⟩ := at_3 (xo_ h0 q n dl) hT hk1.1
    refine va_get (D := (dC, dI)) (ci := 0) (v := .int (g2 9)) (C := RX0) (T := TX0) (N := 11) hx hb hts hinX0 hown hK hP i2 he2 rfl 9 (by decide) (hts (.fieldLink RX7 142 "FurPosts$Canoe" "state" "I") (by decide +kernel)) (fun _ h9 => h9) rfl dX7_lose_11 ?_
    refine lv_if_eq (tgt := 19) hx hb dX7_lose_14 (by decide) (fun h_3 => ?_) (fun h_3 => ?_)
    · skip
      refine lv_aload_n hx hb dX7_lose_19 rfl (lv_at hl 0 rfl) ?_
      refine lv_iconst (v := 2) hx hb dX7_lose_20 (by decide) ?_
      refine va_put (D := (dC, dI)) (ci := 0) (v := .int 2) (ty := .int) (C := RX0) (T := TX0) (N := 11) hx hb hts hinX0 tyX0 tyX0_ok nmX0 hown hK hP hD hS i2 he2 rfl 9 (by decide) (hts (.fieldLink RX7 142 "FurPosts$Canoe" "state" "I") (by decide +kernel)) (fun _ h9 => h9) rfl (by decide +kernel) rfl rfl (Nat.le_of_ble_eq_true rfl) dX7_lose_21 (fun H locs hP2 hD2 hS => ?_)
      rw [va_pl_set hD hm2 hi2] at hP2 hD2
      obtain ⟨f, hP, hD, hT⟩ : ∃ f, va_P (dC, dI) vwCl (xo_ h0 q n dl ++ va_pl L f) H ∧ va_D A (xo_ h0 q n dl ++ va_pl L f) ∧ ty_ cI cy L t f := ⟨_, hP2, hD2, ty_set hT hk1.1 ⟨va_up g2 9 2, s2, w2, rfl, k2_0, k2_1⟩⟩
      refine lv_aload_n hx hb dX7_lose_24 rfl (lv_at hl 0 rfl) ?_
      refine lv_iconst (v := 0) hx hb dX7_lose_25 (by decide) ?_
      obtain ⟨hm4, i4, g4, s4, w4, hi4, he4, k4_0, k4_1⟩ := at_3 (xo_ h0 q n dl) hT hk1.1
      refine va_put (D := (dC, dI)) (ci := 0) (v := .int 0) (ty := .int) (C := RX0) (T := TX0) (N := 11) hx hb hts hinX0 tyX0 tyX0_ok nmX0 hown hK hP hD hS i4 he4 rfl 7 (by decide) (hts (.fieldLink RX7 145 "FurPosts$Canoe" "daysToGo" "I") (by decide +kernel)) (fun _ h9 => h9) rfl (by decide +kernel) rfl rfl (Nat.le_of_ble_eq_true rfl) dX7_lose_26 (fun H locs hP2 hD2 hS => ?_)
      rw [va_pl_set hD hm4 hi4] at hP2 hD2
      obtain ⟨f, hP, hD, hT⟩ : ∃ f, va_P (dC, dI) vwCl (xo_ h0 q n dl ++ va_pl L f) H ∧ va_D A (xo_ h0 q n dl ++ va_pl L f) ∧ ty_ cI cy L t f := ⟨_, hP2, hD2, ty_set hT hk1.1 ⟨va_up g4 7 0, s4, w4, rfl, k4_0, k4_1⟩⟩
      refine lv_iconst (v := 0) hx hb dX7_lose_29 (by decide) ?_
      refine lv_istore_n (lv' := [(3, .int 0), (2, .ref b1), (0, .ref h0), (1, .int a1)]) hx hb dX7_lose_30 rfl hl (by decide) rfl (fun ls hl => ?_)
      refine lv_iconst (v := 0) hx hb dX7_lose_31 (by decide) ?_
      refine lv_istore (lv' := [(4, .int 0), (3, .int 0), (2, .ref b1), (0, .ref h0), (1, .int a1)]) hx hb dX7_lose_32 hl (by decide) rfl (fun ls hl => ?_)
      have key34 : ∀ (k j34 : Nat) (x34_3 : Int32) (f : Nat → va_E) (dl : Int32) (H : Heap) (locs : List Loc) (ls : Array Slot), j34 + k = 6 → va_P (dC, dI) vwCl (xo_ h0 q n dl ++ va_pl L f) H → va_D A (xo_ h0 q n dl ++ va_pl L f) → ty_ cI cy L t f → va_S A s.heap H locs → lv_has ls 5 [(4, .int (nI j34)), (3, .int x34_3), (2, .ref b1), (0, .ref h0), (1, .int a1)] →
          W p l e (headSpec wsX7_lose ({ frames := 2, cells := 0, slots := 0, locals := 44 })).room s m [.ref h0, .int a1].toArray below meth c H locs 0 0 (MQ below (va_Qi (fun r (u : (Nat → va_E) × (Nat → Nat) × Int32) => True ∧ va_D A (xo_ h0 q u.2.1 u.2.2 ++ va_pl L u.1) ∧ ty_ cI cy L t u.1 ∧ u.2.1 = n) (fun u s' => va_P (dC, dI) vwCl (xo_ h0 q u.2.1 u.2.2 ++ va_pl L u.1) s'.heap) A) [.ref h0, .int a1].toArray s 0 0 A) (F0 m 34 ls []) := by
        intro k
        induction k with
        | zero =>
          intro j34 x34_3 f dl H locs ls hj hP hD hT hS hl
          have hj : j34 = 6 := by omega
          subst j34
          refine lv_iload hx hb dX7_lose_34 (lv_at hl 0 rfl) ?_
          refine lv_bipush (v := 6) hx hb dX7_lose_36 (by decide) ?_
          refine lv_icmp_ge (tgt := 84) hx hb dX7_lose_38 (by decide) (fun h_5 => ?_) (fun h_5 => absurd (lp_ge0 (B := 6) rfl) h_5)
          refine lv_aload_n hx hb dX7_lose_84 rfl (lv_at hl 3 rfl) ?_
          refine lv_iload_n hx hb dX7_lose_85 rfl (lv_at hl 4 rfl) ?_
          refine va_callv (va_runV (As := [.int a1]) (rest := []) ⟨hx, hb, hml, hown, hts⟩ (m_X7_loseLetters l dC dI h0 q n dl cI cy L t f hT hQ hN A hD a1) (cwV 1 hts gX7_lose_X7_loseLetters rfl rfl rfl (by decide +kernel) ⟨Nat.le_of_ble_eq_true rfl, Nat.le_of_ble_eq_true rfl⟩) (pt_pre hP hK hW0 (ci := 6) (q0 := 0) rfl rfl) rfl rfl hl.1 rfl (lv_room (Nat.le_of_ble_eq_true rfl)) dX7_lose_86 ⟨Nat.le_of_ble_eq_true rfl, Nat.le_of_ble_eq_true rfl⟩) hS (fun _ _ h => h) (fun _ h => h) (fun u6 st6 H locs ht6 hvm6 hw6 hB6 hz6 hk6 hS => ?_)
          obtain ⟨f6, n6, d6⟩ := u6
          obtain ⟨hD6, hT6, hn6⟩ := hw6
          have hn6 : n6 = n := hn6
          have hB6 : va_P (dC, dI) vwCl (xo_ h0 q n6 d6 ++ va_pl L f6) H := by rw [← ht6]; exact hB6
          have hD6 : va_D A (xo_ h0 q n6 d6 ++ va_pl L f6) := hD6
          rw [hn6] at hB6 hD6
          obtain ⟨f, dl, hP, hD, hT⟩ : ∃ (f : Nat → va_E) (dl : Int32), va_P (dC, dI) vwCl (xo_ h0 q n dl ++ va_pl L f) H ∧ va_D A (xo_ h0 q n dl ++ va_pl L f) ∧ ty_ cI cy L t f := ⟨f6, d6, hB6, hD6, hT6⟩
          refine lv_iload_n hx hb dX7_lose_89 rfl (lv_at hl 1 rfl) ?_
          exact W.iret (v := x34_3) hx hb hr (fun t ht hW => ⟨⟨x34_3, (f, n, dl), rfl, ⟨trivial, hD, hT, rfl⟩, by show va_P (dC, dI) vwCl _ t.heap; rw [ht]; exact hP⟩, hS.F ht⟩) hS.2.2 dX7_lose_90
        | succ k ih34 =>
          intro j34 x34_3 f dl H locs ls hj hP hD hT hS hl
          have hj34 : j34 < 6 := by omega
          refine lv_iload hx hb dX7_lose_34 (lv_at hl 0 rfl) ?_
          refine lv_bipush (v := 6) hx hb dX7_lose_36 (by decide) ?_
          refine lv_icmp_ge (tgt := 84) hx hb dX7_lose_38 (by decide) (fun h_7 => absurd h_7 (lp_ge (B := 6) (by omega) (by omega) rfl)) (fun h_7 => ?_)
          refine lv_iload_n hx hb dX7_lose_41 rfl (lv_at hl 1 rfl) ?_
          refine lv_aload_n hx hb dX7_lose_42 rfl (lv_at hl 2 rfl) ?_
          obtain ⟨hm8, i8, g8, s8, w8, hi8, he8, k8_0, k8_1⟩ := at_3 (xo_ h0 q n dl) hT hk1.1
          refine va_get (D := (dC, dI)) (ci := 0) (v := .ref w8) (C := RX0) (T := TX0) (N := 11) hx hb hts hinX0 hown hK hP i8 he8 rfl 5 (by decide) (hts (.fieldLink RX7 148 "FurPosts$Canoe" "wares" "[I") (by decide +kernel)) (fun _ h9 => h9) rfl dX7_lose_43 ?_
          refine lv_iload hx hb dX7_lose_46 (lv_at hl 0 rfl) ?_
          obtain ⟨hm9, i9, g9, hi9, he9⟩ := at_15 (xo_ h0 q n dl) hT k8_1
          refine va_iald hx hb hK hP i9 0 he9 rfl (i := (nI j34)) (vp_in_nI (show j34 < 6 by omega) (by decide)) dX7_lose_48 ?_
          refine lv_topi (fun v10 _ => ?_)
          refine lv_iadd hx hb dX7_lose_49 ?_
          refine lv_topi (fun v11 _ => ?_)
          refine lv_istore_n (lv' := [(3, .int v11), (4, .int (nI j34)), (2, .ref b1), (0, .ref h0), (1, .int a1)]) hx hb dX7_lose_50 rfl hl (by decide) rfl (fun ls hl => ?_)
          refine lv_aload_n hx hb dX7_lose_51 rfl (lv_at hl 3 rfl) ?_
          refine va_get (D := (dC, dI)) (ci := 6) (v := .ref (q 7)) (C := RX7) (T := TX7) (N := 14) hx hb hts hinX7 hown hK hP 0 rfl rfl 6 (by decide) (hts (.fieldLink RX7 41 "FurPosts" "tallies" "[[I") (by decide +kernel)) (fun _ h9 => h9) rfl dX7_lose_52 ?_
          refine lv_iload hx hb dX7_lose_55 (lv_at hl 1 rfl) ?_
          obtain ⟨hm12, i12, r12, hi12, he12, k12_0⟩ := at_14 (xo_ h0 q n dl) hT hQ.2.2.2.2.2.2.1
          refine va_ald2 hx hb hK hP i12 8 he12 rfl (i := (nI j34)) (vp_in_nI (show j34 < 6 by omega) (by decide)) (b := r12 (Int32.toNatClampNeg (nI j34))) (if_pos (vp_lt (vp_in_nI (show j34 < 6 by omega) (by decide)))) dX7_lose_57 ?_
          have hr13 := k12_0 (Int32.toNatClampNeg (nI j34)) (vp_lt (vp_in_nI (show j34 < 6 by omega) (by decide)))
          generalize r12 (Int32.toNatClampNeg (nI j34)) = b13 at hr13 ⊢
          refine lv_iconst (v := 4) hx hb dX7_lose_58 (by decide) ?_
          refine lv_dup2_11 hx hb dX7_lose_59 rfl rfl ?_
          obtain ⟨hm14, i14, g14, hi14, he14⟩ := at_15 (xo_ h0 q n dl) hT hr13
          refine va_iald hx hb hK hP i14 0 he14 rfl (i := 4) (by unfold vp_in; decide) dX7_lose_60 ?_
          refine lv_topi (fun v15 _ => ?_)
          refine lv_aload_n hx hb dX7_lose_61 rfl (lv_at hl 2 rfl) ?_
          refine va_get (D := (dC, dI)) (ci := 0) (v := .ref w8) (C := RX0) (T := TX0) (N := 11) hx hb hts hinX0 hown hK hP i8 he8 rfl 5 (by decide) (hts (.fieldLink RX7 148 "FurPosts$Canoe" "wares" "[I") (by decide +kernel)) (fun _ h9 => h9) rfl dX7_lose_62 ?_
          refine lv_iload hx hb dX7_lose_65 (lv_at hl 1 rfl) ?_
          refine va_iald hx hb hK hP i9 0 he9 rfl (i := (nI j34)) (vp_in_nI (show j34 < 6 by omega) (by decide)) dX7_lose_67 ?_
          refine lv_topi (fun v16 _ => ?_)
          refine lv_iadd hx hb dX7_lose_68 ?_
          refine lv_topi (fun v17 _ => ?_)
          refine va_iast hx hb hK hP hD hS i14 0 he14 rfl (i := 4) (by unfold vp_in; decide) dX7_lose_69 (fun H locs hP2 hD2 hS => ?_)
          rw [va_pl_set hD hm14 hi14] at hP2 hD2
          obtain ⟨f, hP, hD, hT⟩ : ∃ f, va_P (dC, dI) vwCl (xo_ h0 q n dl ++ va_pl L f) H ∧ va_D A (xo_ h0 q n dl ++ va_pl L f) ∧ ty_ cI cy L t f := ⟨_, hP2, hD2, ty_set hT hr13 ⟨_, rfl⟩⟩
          refine lv_aload_n hx hb dX7_lose_70 rfl (lv_at hl 2 rfl) ?_
          obtain ⟨hm18, i18, g18, s18, w18, hi18, he18, k18_0, k18_1⟩ := at_3 (xo_ h0 q n dl) hT hk1.1
          refine va_get (D := (dC, dI)) (ci := 0) (v := .ref w18) (C := RX0) (T := TX0) (N := 11) hx hb hts hinX0 hown hK hP i18 he18 rfl 5 (by decide) (hts (.fieldLink RX7 148 "FurPosts$Canoe" "wares" "[I") (by decide +kernel)) (fun _ h9 => h9) rfl dX7_lose_71 ?_
          refine lv_iload hx hb dX7_lose_74 (lv_at hl 1 rfl) ?_
          refine lv_iconst (v := 0) hx hb dX7_lose_76 (by decide) ?_
          obtain ⟨hm19, i19, g19, hi19, he19⟩ := at_15 (xo_ h0 q n dl) hT k18_1
          refine va_iast hx hb hK hP hD hS i19 0 he19 rfl (i := (nI j34)) (vp_in_nI (show j34 < 6 by omega) (by decide)) dX7_lose_77 (fun H locs hP2 hD2 hS => ?_)
          rw [va_pl_set hD hm19 hi19] at hP2 hD2
          obtain ⟨f, hP, hD, hT⟩ : ∃ f, va_P (dC, dI) vwCl (xo_ h0 q n dl ++ va_pl L f) H ∧ va_D A (xo_ h0 q n dl ++ va_pl L f) ∧ ty_ cI cy L t f := ⟨_, hP2, hD2, ty_set hT k18_1 ⟨_, rfl⟩⟩
          refine lv_iinc (v := (nI (j34 + 1))) (lv' := [(4, .int (nI (j34 + 1))), (3, .int v11), (2, .ref b1), (0, .ref h0), (1, .int a1)]) hx hb dX7_lose_78 hl (k := 1) rfl (show nI j34 + 1 = nI (j34 + 1) from nI_1 j34) (by decide) rfl (fun ls hl => ?_)
          refine lv_goto (tgt := 34) hx hb dX7_lose_81 (by decide) ?_
          exact ih34 (j34 + 1) v11 f dl H locs ls (by omega) hP hD hT hS (lv_sub hl [0, 1, 2, 3, 4] rfl)
      exact key34 6 0 0 f dl H locs ls (by omega) hP hD hT hS (lv_sub hl [0, 1, 2, 3, 4] rfl)
    · skip
      refine lv_iconst (v := (-1)) hx hb dX7_lose_17 (by decide) ?_
      exact W.iret (v := (-1)) hx hb hr (fun t ht hW => ⟨⟨(-1), (f, n, dl), rfl, ⟨trivial, hD, hT, rfl⟩, by show va_P (dC, dI) vwCl _ t.heap; rw [ht]; exact hP⟩, hS.F ht⟩) hS.2.2 dX7_lose_18
