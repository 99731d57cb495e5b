theorem post_no {n : Nat → Nat} (h : nI (n 1) = 8) : n 1 = post_n (n 1) := by
  unfold post_n
  by_cases e : n 1 < 8
  · exact absurd h (fun z => by
      have h1 : nI (n 1) = nI 8 := z
      have h2 := nI_clamp (n := n 1) (by omega)
      rw [h1] at h2
      have h3 := nI_clamp (n := 8) (by decide)
      omega)
  · rw [if_neg e]
theorem post_nr {n : Nat → Nat} (h : nI (n 1) = 8) : (-1 : Int32) = post_r (n 1) := by
  unfold post_r
  by_cases e : n 1 < 8
  · exact absurd h (fun z => by
      have h1 : nI (n 1) = nI 8 := z
      have h2 := nI_clamp (n := n 1) (by omega)
      rw [h1] at h2
      have h3 := nI_clamp (n := 8) (by decide)
      omega)
  · rw [if_neg e]
set_option maxHeartbeats 4000000 in
set_option maxRecDepth 100000 in
theorem m_X8_next (l : Launch) (dC : Nat → ClassId) (dI : Nat → Nat → Nat) (h0 : Nat) (q n : Nat → Nat) (dl : Int32) (cI cZ : ClassId) (F : Nat → Nat → Int32) (hI : mi_ n F) (hN : nb_ n) (A : Nat → Prop) (hD : va_D A (mw_ h0 q n dl cI cZ F)) (a1 : Int32) (a2 : Int32) : Met l yX8_next wsX8_next ({ frames := 2, cells := 0, slots := 0, locals := 43 }) (va_Pc [.ref h0, .int a1, .int a2] (pu_P (dC, dI) vwCl (mt_ cI cZ) (mw_ h0 q n dl cI cZ F))) (va_Qi (fun r (u : (Nat → Nat → Int32) × (Nat → Nat) × Int32) => True ∧ va_D A (mw_ h0 q u.2.1 u.2.2 cI cZ u.1) ∧ mi_ u.2.1 u.1 ∧ nb_ u.2.1 ∧ u.2.1 = n) (fun u s' => va_P (dC, dI) vwCl (mw_ h0 q u.2.1 u.2.2 cI cZ u.1) s'.heap) A) 0 0 A := by
  refine Met.ofW (cc := cX8_next) (maxL := 5) (ret := (some .int)) (by decide) rfl ?_
  intro p e s m args below meth c s₁ B hml hv
  obtain ⟨rfl, hP, hK⟩ := hv
  have hx := B.exec
  have hb := B.bytes
  have hr := B.returns
  have hts := atoms_spec (ws := wsX8_next) B.pre
  have hown : s.vm.findClass RX8 = some m.cls := findClass_of_methodNamed B.named
  have hlocks := B.notSynchronized
  have hinX8 : ∀ w ∈ u_ws RX8 TX8 37, w ∈ wsX8_next := by decide +kernel
  have hS : va_S A s.heap s.heap [] := va_S.rf
  have hl := lv_entry ([.ref h0, .int a1, .int a2]) (n := 5) (Nat.le_of_ble_eq_true rfl)
  rw [lg_entry_eq]
  generalize (lg_sl ([.ref h0, .int a1, .int a2]) ++ List.replicate (5 - (lg_sl ([.ref h0, .int a1, .int a2])).length) Slot.unset).toArray = ls at hl ⊢
  have hl : lv_has ls 5 [(0, .ref h0), (1, .int a1), (2, .int a2)] := hl
  obtain ⟨H, hH, hP, hS⟩ : ∃ H, H = s.heap ∧ va_P (dC, dI) vwCl (mw_ h0 q n dl cI cZ F) H ∧ va_S A s.heap H [] := ⟨_, rfl, hP, hS⟩
  rw [← hH]
  generalize ([] : List Loc) = locs at hS ⊢
  refine lv_aload_n hx hb dX8_next_0 rfl (lv_at hl 0 rfl) ?_
  refine lv_iload_n hx hb dX8_next_1 rfl (lv_at hl 1 rfl) ?_
  refine pg_call (va_runV (As := [.int a1]) (rest := []) ⟨hx, hb, hml, hown, hts⟩ (k_X8_isPost l dC dI h0 q n dl cI cZ F hI hN a1) (cwV 1 hts gX8_next_X8_isPost rfl rfl rfl (by decide +kernel) ⟨Nat.le_of_ble_eq_true rfl, Nat.le_of_ble_eq_true rfl⟩) (pu_pre hP hK (ci := 7) (q0 := 0) rfl rfl) rfl rfl hl.1 rfl (lv_room (Nat.le_of_ble_eq_true rfl)) dX8_next_2 ⟨Nat.le_of_ble_eq_true rfl, Nat.le_of_ble_eq_true rfl⟩) (fun w1 hw1 => ?_)
  obtain ⟨r1, rfl, hg1⟩ := hw1
  refine lv_if_eq (tgt := 21) hx hb dX8_next_5 (by decide) (fun h_2 => ?_) (fun h_2 => ?_)
  · skip
    refine lv_iconst (v := (-1)) hx hb dX8_next_21 (by decide) ?_
    exact W.iret (v := (-1)) hx hb hr (fun t9 ht hW => ⟨⟨(-1), (F, n, dl), rfl, ⟨trivial, hD, hI, hN, rfl⟩, by show va_P (dC, dI) vwCl _ t9.heap; rw [ht]; exact hP⟩, hS.F ht⟩) hS.2.2 dX8_next_22
  · skip
    refine lv_aload_n hx hb dX8_next_8 rfl (lv_at hl 0 rfl) ?_
    refine lv_iload_n hx hb dX8_next_9 rfl (lv_at hl 2 rfl) ?_
    refine pg_call (va_runV (As := [.int a2]) (rest := []) ⟨hx, hb, hml, hown, hts⟩ (k_X8_isPost l dC dI h0 q n dl cI cZ F hI hN a2) (cwV 1 hts gX8_next_X8_isPost rfl rfl rfl (by decide +kernel) ⟨Nat.le_of_ble_eq_true rfl, Nat.le_of_ble_eq_true rfl⟩) (pu_pre hP hK (ci := 7) (q0 := 0) rfl rfl) rfl rfl hl.1 rfl (lv_room (Nat.le_of_ble_eq_true rfl)) dX8_next_10 ⟨Nat.le_of_ble_eq_true rfl, Nat.le_of_ble_eq_true rfl⟩) (fun w3 hw3 => ?_)
    obtain ⟨r3, rfl, hg3⟩ := hw3
    refine lv_if_eq (tgt := 21) hx hb dX8_next_13 (by decide) (fun h_4 => ?_) (fun h_4 => ?_)
    · skip
      refine lv_iconst (v := (-1)) hx hb dX8_next_21 (by decide) ?_
      exact W.iret (v := (-1)) hx hb hr (fun t9 ht hW => ⟨⟨(-1), (F, n, dl), rfl, ⟨trivial, hD, hI, hN, rfl⟩, by show va_P (dC, dI) vwCl _ t9.heap; rw [ht]; exact hP⟩, hS.F ht⟩) hS.2.2 dX8_next_22
    · skip
      refine lv_iload_n hx hb dX8_next_16 rfl (lv_at hl 1 rfl) ?_
      refine lv_iload_n hx hb dX8_next_17 rfl (lv_at hl 2 rfl) ?_
      refine lv_icmp_ne (tgt := 23) hx hb dX8_next_18 (by decide) (fun h_5 => ?_) (fun h_5 => ?_)
      · skip
        refine lv_iconst (v := 0) hx hb dX8_next_23 (by decide) ?_
        refine lv_istore_n (lv' := [(3, .int 0), (0, .ref h0), (1, .int a1), (2, .int a2)]) hx hb dX8_next_24 rfl hl (by decide) rfl (fun ls hl => ?_)
        have key25 : ∀ (k j25 : Nat) (F25 : Nat → Nat → Int32) (dl : Int32) (H : Heap) (locs : List Loc) (ls : Array Slot), j25 + k = 8 → va_P (dC, dI) vwCl (mw_ h0 q n dl cI cZ F25) H → va_D A (mw_ h0 q n dl cI cZ F25) → mi_ n F25 → va_S A s.heap H locs → lv_has ls 5 [(3, .int (nI j25)), (0, .ref h0), (1, .int a1), (2, .int a2)] →
            W p l e (headSpec wsX8_next ({ frames := 2, cells := 0, slots := 0, locals := 43 })).room s m [.ref h0, .int a1, .int a2].toArray below meth c H locs 0 0 (MQ below (va_Qi (fun r (u : (Nat → Nat → Int32) × (Nat → Nat) × Int32) => True ∧ va_D A (mw_ h0 q u.2.1 u.2.2 cI cZ u.1) ∧ mi_ u.2.1 u.1 ∧ nb_ u.2.1 ∧ u.2.1 = n) (fun u s' => va_P (dC, dI) vwCl (mw_ h0 q u.2.1 u.2.2 cI cZ u.1) s'.heap) A) [.ref h0, .int a1, .int a2].toArray s 0 0 A) (F0 m 25 ls []) := by
          intro k
          induction k with
          | zero =>
            intro j25 F25 dl H locs ls hj hP hD hI25 hS hl
            have hj : j25 = 8 := by omega
            subst j25
            refine lv_iload_n hx hb dX8_next_25 rfl (lv_at hl 0 rfl) ?_
            refine lv_bipush (v := 8) hx hb dX8_next_26 (by decide) ?_
            refine lv_icmp_ge (tgt := 54) hx hb dX8_next_28 (by decide) (fun h_6 => ?_) (fun h_6 => absurd (lp_ge0 (B := 8) rfl) h_6)
            refine lv_iconst (v := 0) hx hb dX8_next_54 (by decide) ?_
            refine lv_istore_n (lv' := [(3, .int 0), (0, .ref h0), (1, .int a1), (2, .int a2)]) hx hb dX8_next_55 rfl hl (by decide) rfl (fun ls hl => ?_)
            have key56 : ∀ (k j56 : Nat) (F56 : Nat → Nat → Int32) (dl : Int32) (H : Heap) (locs : List Loc) (ls : Array Slot), j56 + k = 8 → va_P (dC, dI) vwCl (mw_ h0 q n dl cI cZ F56) H → va_D A (mw_ h0 q n dl cI cZ F56) → mi_ n F56 → va_S A s.heap H locs → lv_has ls 5 [(3, .int (nI j56)), (0, .ref h0), (1, .int a1), (2, .int a2)] →
                W p l e (headSpec wsX8_next ({ frames := 2, cells := 0, slots := 0, locals := 43 })).room s m [.ref h0, .int a1, .int a2].toArray below meth c H locs 0 0 (MQ below (va_Qi (fun r (u : (Nat → Nat → Int32) × (Nat → Nat) × Int32) => True ∧ va_D A (mw_ h0 q u.2.1 u.2.2 cI cZ u.1) ∧ mi_ u.2.1 u.1 ∧ nb_ u.2.1 ∧ u.2.1 = n) (fun u s' => va_P (dC, dI) vwCl (mw_ h0 q u.2.1 u.2.2 cI cZ u.1) s'.heap) A) [.ref h0, .int a1, .int a2].toArray s 0 0 A) (F0 m 56 ls []) := by
              intro k
              induction k with
              | zero =>
                intro j56 F56 dl H locs ls hj hP hD hI56 hS hl
                have hj : j56 = 8 := by omega
                subst j56
                refine lv_iload_n hx hb dX8_next_56 rfl (lv_at hl 0 rfl) ?_
                refine lv_bipush (v := 8) hx hb dX8_next_57 (by decide) ?_
                refine lv_icmp_ge (tgt := 196) hx hb dX8_next_59 (by decide) (fun h_7 => ?_) (fun h_7 => absurd (lp_ge0 (B := 8) rfl) h_7)
                refine lv_iconst (v := (-1)) hx hb dX8_next_196 (by decide) ?_
                refine lv_istore_n (lv' := [(3, .int (-1)), (0, .ref h0), (1, .int a1), (2, .int a2)]) hx hb dX8_next_197 rfl hl (by decide) rfl (fun ls hl => ?_)
                refine lv_iconst (v := 0) hx hb dX8_next_198 (by decide) ?_
                refine lv_istore (lv' := [(4, .int 0), (3, .int (-1)), (0, .ref h0), (1, .int a1), (2, .int a2)]) hx hb dX8_next_199 hl (by decide) rfl (fun ls hl => ?_)
                have key201 : ∀ (k j201 : Nat) (x201_3 : Int32) (F201 : Nat → Nat → Int32) (dl : Int32) (H : Heap) (locs : List Loc) (ls : Array Slot), j201 + k = (n 1) → (x201_3 = -1 ∨ vp_in x201_3 8) → va_P (dC, dI) vwCl (mw_ h0 q n dl cI cZ F201) H → va_D A (mw_ h0 q n dl cI cZ F201) → mi_ n F201 → va_S A s.heap H locs → lv_has ls 5 [(4, .int (nI j201)), (3, .int x201_3), (0, .ref h0), (1, .int a1), (2, .int a2)] →
                    W p l e (headSpec wsX8_next ({ frames := 2, cells := 0, slots := 0, locals := 43 })).room s m [.ref h0, .int a1, .int a2].toArray below meth c H locs 0 0 (MQ below (va_Qi (fun r (u : (Nat → Nat → Int32) × (Nat → Nat) × Int32) => True ∧ va_D A (mw_ h0 q u.2.1 u.2.2 cI cZ u.1) ∧ mi_ u.2.1 u.1 ∧ nb_ u.2.1 ∧ u.2.1 = n) (fun u s' => va_P (dC, dI) vwCl (mw_ h0 q u.2.1 u.2.2 cI cZ u.1) s'.heap) A) [.ref h0, .int a1, .int a2].toArray s 0 0 A) (F0 m 201 ls []) := by
                  intro k
                  induction k with
                  | zero =>
                    intro j201 x201_3 F201 dl H locs ls hj hv201_3 hP hD hI201 hS hl
                    have hj : j201 = (n 1) := by omega
                    subst j201
                    refine lv_iload hx hb dX8_next_201 (lv_at hl 0 rfl) ?_
                    refine lv_aload_n hx hb dX8_next_203 rfl (lv_at hl 2 rfl) ?_
                    refine va_get (D := (dC, dI)) (ci := 7) (v := .int (nI (n 1))) (C := RX8) (T := TX8) (N := 37) hx hb hts hinX8 hown hK hP 0 rfl rfl 1 (by decide) (hts (.fieldLink RX8 104 "FurPostsModel" "posts" "I") (by decide +kernel)) (fun _ h9 => h9) rfl dX8_next_204 ?_
                    refine lv_icmp_ge (tgt := 263) hx hb dX8_next_207 (by decide) (fun h_8 => ?_) (fun h_8 => absurd (lp_ge0 (B := (n 1)) rfl) h_8)
                    refine lv_iload_n hx hb dX8_next_263 rfl (lv_at hl 1 rfl) ?_
                    exact W.iret (v := x201_3) hx hb hr (fun t9 ht hW => ⟨⟨x201_3, (F201, n, dl), rfl, ⟨trivial, hD, hI201, hN, rfl⟩, by show va_P (dC, dI) vwCl _ t9.heap; rw [ht]; exact hP⟩, hS.F ht⟩) hS.2.2 dX8_next_264
                  | succ k ih201 =>
                    intro j201 x201_3 F201 dl H locs ls hj hv201_3 hP hD hI201 hS hl
                    have hj201 : j201 < (n 1) := by omega
                    refine lv_iload hx hb dX8_next_201 (lv_at hl 0 rfl) ?_
                    refine lv_aload_n hx hb dX8_next_203 rfl (lv_at hl 2 rfl) ?_
                    refine va_get (D := (dC, dI)) (ci := 7) (v := .int (nI (n 1))) (C := RX8) (T := TX8) (N := 37) hx hb hts hinX8 hown hK hP 0 rfl rfl 1 (by decide) (hts (.fieldLink RX8 104 "FurPostsModel" "posts" "I") (by decide +kernel)) (fun _ h9 => h9) rfl dX8_next_204 ?_
                    refine lv_icmp_ge (tgt := 263) hx hb dX8_next_207 (by decide) (fun h_9 => absurd h_9 (lp_ge (B := (n 1)) (by omega) (by omega) rfl)) (fun h_9 => ?_)
                    refine lv_aload_n hx hb dX8_next_210 rfl (lv_at hl 2 rfl) ?_
                    refine lv_iload_n hx hb dX8_next_211 rfl (lv_at hl 3 rfl) ?_
                    refine lv_iload hx hb dX8_next_212 (lv_at hl 0 rfl) ?_
                    refine pg_call (va_runV (As := [.int a1, .int (nI j201)]) (rest := []) ⟨hx, hb, hml, hown, hts⟩ (k_X8_between l dC dI h0 q n dl cI cZ F201 hI201 hN a1 (nI j201)) (cwV 2 hts gX8_next_X8_between rfl rfl rfl (by decide +kernel) ⟨Nat.le_of_ble_eq_true rfl, Nat.le_of_ble_eq_true rfl⟩) (pu_pre hP hK (ci := 7) (q0 := 0) rfl rfl) rfl rfl hl.1 rfl (lv_room (Nat.le_of_ble_eq_true rfl)) dX8_next_214 ⟨Nat.le_of_ble_eq_true rfl, Nat.le_of_ble_eq_true rfl⟩) (fun w10 hw10 => ?_)
                    obtain ⟨r10, rfl, hg10⟩ := hw10
                    refine lv_iconst (v := (-1)) hx hb dX8_next_217 (by decide) ?_
                    refine lv_icmp_eq (tgt := 257) hx hb dX8_next_218 (by decide) (fun h_11 => ?_) (fun h_11 => ?_)
                    · skip
                      refine lv_iinc (v := (nI (j201 + 1))) (lv' := [(4, .int (nI (j201 + 1))), (3, .int x201_3), (0, .ref h0), (1, .int a1), (2, .int a2)]) hx hb dX8_next_257 hl (k := 0) rfl (show nI j201 + 1 = nI (j201 + 1) from nI_1 j201) (by decide) rfl (fun ls hl => ?_)
                      refine lv_goto (tgt := 201) hx hb dX8_next_260 (by decide) ?_
                      exact ih201 (j201 + 1) x201_3 F201 dl H locs ls (by omega) hv201_3 hP hD hI201 hS (lv_sub hl [0, 1, 2, 3, 4] rfl)
                    · skip
                      refine lv_aload_n hx hb dX8_next_221 rfl (lv_at hl 2 rfl) ?_
                      refine va_get (D := (dC, dI)) (ci := 7) (v := .ref (q 36)) (C := RX8) (T := TX8) (N := 37) hx hb hts hinX8 hown hK hP 0 rfl rfl 36 (by decide) (hts (.fieldLink RX8 101 "FurPostsModel" "far" "[I") (by decide +kernel)) (fun _ h9 => h9) rfl dX8_next_222 ?_
                      refine lv_iload hx hb dX8_next_225 (lv_at hl 0 rfl) ?_
                      refine va_iald hx hb hK hP 31 0 rfl rfl (i := (nI j201)) (vp_in_nI (show j201 < 8 by omega) (by decide)) dX8_next_227 ?_
                      refine lv_bipush (v := 100) hx hb dX8_next_228 (by decide) ?_
                      refine lv_icmp_ge (tgt := 257) hx hb dX8_next_230 (by decide) (fun h_12 => ?_) (fun h_12 => ?_)
                      · skip
                        refine lv_iinc (v := (nI (j201 + 1))) (lv' := [(4, .int (nI (j201 + 1))), (3, .int x201_3), (0, .ref h0), (1, .int a1), (2, .int a2)]) hx hb dX8_next_257 hl (k := 0) rfl (show nI j201 + 1 = nI (j201 + 1) from nI_1 j201) (by decide) rfl (fun ls hl => ?_)
                        refine lv_goto (tgt := 201) hx hb dX8_next_260 (by decide) ?_
                        exact ih201 (j201 + 1) x201_3 F201 dl H locs ls (by omega) hv201_3 hP hD hI201 hS (lv_sub hl [0, 1, 2, 3, 4] rfl)
                      · skip
                        refine lv_iload_n hx hb dX8_next_233 rfl (lv_at hl 1 rfl) ?_
                        refine lv_iconst (v := (-1)) hx hb dX8_next_234 (by decide) ?_
                        refine lv_icmp_eq (tgt := 254) hx hb dX8_next_235 (by decide) (fun h_13 => ?_) (fun h_13 => ?_)
                        · skip
                          refine lv_iload hx hb dX8_next_254 (lv_at hl 0 rfl) ?_
                          refine lv_istore_n (lv' := [(3, .int (nI j201)), (4, .int (nI j201)), (0, .ref h0), (1, .int a1), (2, .int a2)]) hx hb dX8_next_256 rfl hl (by decide) rfl (fun ls hl => ?_)
                          refine lv_iinc (v := (nI (j201 + 1))) (lv' := [(4, .int (nI (j201 + 1))), (3, .int (nI j201)), (0, .ref h0), (1, .int a1), (2, .int a2)]) hx hb dX8_next_257 hl (k := 1) rfl (show nI j201 + 1 = nI (j201 + 1) from nI_1 j201) (by decide) rfl (fun ls hl => ?_)
                          refine lv_goto (tgt := 201) hx hb dX8_next_260 (by decide) ?_
                          exact ih201 (j201 + 1) (nI j201) F201 dl H locs ls (by omega) (Or.inr (vp_in_nI (show j201 < 8 by omega) (by decide))) hP hD hI201 hS (lv_sub hl [0, 1, 2, 3, 4] rfl)
                        · skip
                          refine lv_aload_n hx hb dX8_next_238 rfl (lv_at hl 2 rfl) ?_
                          refine va_get (D := (dC, dI)) (ci := 7) (v := .ref (q 36)) (C := RX8) (T := TX8) (N := 37) hx hb hts hinX8 hown hK hP 0 rfl rfl 36 (by decide) (hts (.fieldLink RX8 101 "FurPostsModel" "far" "[I") (by decide +kernel)) (fun _ h9 => h9) rfl dX8_next_239 ?_
                          refine lv_iload hx hb dX8_next_242 (lv_at hl 0 rfl) ?_
                          refine va_iald hx hb hK hP 31 0 rfl rfl (i := (nI j201)) (vp_in_nI (show j201 < 8 by omega) (by decide)) dX8_next_244 ?_
                          refine lv_aload_n hx hb dX8_next_245 rfl (lv_at hl 2 rfl) ?_
                          refine va_get (D := (dC, dI)) (ci := 7) (v := .ref (q 36)) (C := RX8) (T := TX8) (N := 37) hx hb hts hinX8 hown hK hP 0 rfl rfl 36 (by decide) (hts (.fieldLink RX8 101 "FurPostsModel" "far" "[I") (by decide +kernel)) (fun _ h9 => h9) rfl dX8_next_246 ?_
                          refine lv_iload_n hx hb dX8_next_249 rfl (lv_at hl 1 rfl) ?_
                          refine va_iald hx hb hK hP 31 0 rfl rfl (i := x201_3) (hv201_3.resolve_left h_13) dX8_next_250 ?_
                          refine lv_icmp_ge (tgt := 257) hx hb dX8_next_251 (by decide) (fun h_14 => ?_) (fun h_14 => ?_)
                          · skip
                            refine lv_iinc (v := (nI (j201 + 1))) (lv' := [(4, .int (nI (j201 + 1))), (3, .int x201_3), (0, .ref h0), (1, .int a1), (2, .int a2)]) hx hb dX8_next_257 hl (k := 0) rfl (show nI j201 + 1 = nI (j201 + 1) from nI_1 j201) (by decide) rfl (fun ls hl => ?_)
                            refine lv_goto (tgt := 201) hx hb dX8_next_260 (by decide) ?_
                            exact ih201 (j201 + 1) x201_3 F201 dl H locs ls (by omega) hv201_3 hP hD hI201 hS (lv_sub hl [0, 1, 2, 3, 4] rfl)
                          · skip
                            refine lv_iload hx hb dX8_next_254 (lv_at hl 0 rfl) ?_
                            refine lv_istore_n (lv' := [(3, .int (nI j201)), (4, .int (nI j201)), (0, .ref h0), (1, .int a1), (2, .int a2)]) hx hb dX8_next_256 rfl hl (by decide) rfl (fun ls hl => ?_)
                            refine lv_iinc (v := (nI (j201 + 1))) (lv' := [(4, .int (nI (j201 + 1))), (3, .int (nI j201)), (0, .ref h0), (1, .int a1), (2, .int a2)]) hx hb dX8_next_257 hl (k := 1) rfl (show nI j201 + 1 = nI (j201 + 1) from nI_1 j201) (by decide) rfl (fun ls hl => ?_)
                            refine lv_goto (tgt := 201) hx hb dX8_next_260 (by decide) ?_
                            exact ih201 (j201 + 1) (nI j201) F201 dl H locs ls (by omega) (Or.inr (vp_in_nI (show j201 < 8 by omega) (by decide))) hP hD hI201 hS (lv_sub hl [0, 1, 2, 3, 4] rfl)
                exact key201 (n 1) 0 (-1) F56 dl H locs ls (by omega) (Or.inl rfl) hP hD hI56 hS (lv_sub hl [0, 1, 2, 3, 4] rfl)
              | succ k ih56 =>
                intro j56 F56 dl H locs ls hj hP hD hI56 hS hl
                have hj56 : j56 < 8 := by omega
                refine lv_iload_n hx hb dX8_next_56 rfl (lv_at hl 0 rfl) ?_
                refine lv_bipush (v := 8) hx hb dX8_next_57 (by decide) ?_
                refine lv_icmp_ge (tgt := 196) hx hb dX8_next_59 (by decide) (fun h_15 => absurd h_15 (lp_ge (B := 8) (by omega) (by omega) rfl)) (fun h_15 => ?_)
                refine lv_iconst (v := 0) hx hb dX8_next_62 (by decide) ?_
                refine lv_istore (lv' := [(4, .int 0), (3, .int (nI j56)), (0, .ref h0), (1, .int a1), (2, .int a2)]) hx hb dX8_next_63 hl (by decide) rfl (fun ls hl => ?_)
                have key65 : ∀ (k j65 : Nat) (F65 : Nat → Nat → Int32) (dl : Int32) (H : Heap) (locs : List Loc) (ls : Array Slot), j65 + k = (n 2) → va_P (dC, dI) vwCl (mw_ h0 q n dl cI cZ F65) H → va_D A (mw_ h0 q n dl cI cZ F65) → mi_ n F65 → va_S A s.heap H locs → lv_has ls 5 [(4, .int (nI j65)), (3, .int (nI j56)), (0, .ref h0), (1, .int a1), (2, .int a2)] →
                    W p l e (headSpec wsX8_next ({ frames := 2, cells := 0, slots := 0, locals := 43 })).room s m [.ref h0, .int a1, .int a2].toArray below meth c H locs 0 0 (MQ below (va_Qi (fun r (u : (Nat → Nat → Int32) × (Nat → Nat) × Int32) => True ∧ va_D A (mw_ h0 q u.2.1 u.2.2 cI cZ u.1) ∧ mi_ u.2.1 u.1 ∧ nb_ u.2.1 ∧ u.2.1 = n) (fun u s' => va_P (dC, dI) vwCl (mw_ h0 q u.2.1 u.2.2 cI cZ u.1) s'.heap) A) [.ref h0, .int a1, .int a2].toArray s 0 0 A) (F0 m 65 ls []) := by
                  intro k
                  induction k with
                  | zero =>
                    intro j65 F65 dl H locs ls hj hP hD hI65 hS hl
                    have hj : j65 = (n 2) := by omega
                    subst j65
                    refine lv_iload hx hb dX8_next_65 (lv_at hl 0 rfl) ?_
                    refine lv_aload_n hx hb dX8_next_67 rfl (lv_at hl 2 rfl) ?_
                    refine va_get (D := (dC, dI)) (ci := 7) (v := .int (nI (n 2))) (C := RX8) (T := TX8) (N := 37) hx hb hts hinX8 hown hK hP 0 rfl rfl 5 (by decide) (hts (.fieldLink RX8 115 "FurPostsModel" "ways" "I") (by decide +kernel)) (fun _ h9 => h9) rfl dX8_next_68 ?_
                    refine lv_icmp_ge (tgt := 190) hx hb dX8_next_71 (by decide) (fun h_16 => ?_) (fun h_16 => absurd (lp_ge0 (B := (n 2)) rfl) h_16)
                    refine lv_iinc (v := (nI (j56 + 1))) (lv' := [(3, .int (nI (j56 + 1))), (4, .int (nI (n 2))), (0, .ref h0), (1, .int a1), (2, .int a2)]) hx hb dX8_next_190 hl (k := 1) rfl (show nI j56 + 1 = nI (j56 + 1) from nI_1 j56) (by decide) rfl (fun ls hl => ?_)
                    refine lv_goto (tgt := 56) hx hb dX8_next_193 (by decide) ?_
                    exact ih56 (j56 + 1) F65 dl H locs ls (by omega) hP hD hI65 hS (lv_sub hl [0, 2, 3, 4] rfl)
                  | succ k ih65 =>
                    intro j65 F65 dl H locs ls hj hP hD hI65 hS hl
                    have hj65 : j65 < (n 2) := by omega
                    refine lv_iload hx hb dX8_next_65 (lv_at hl 0 rfl) ?_
                    refine lv_aload_n hx hb dX8_next_67 rfl (lv_at hl 2 rfl) ?_
                    refine va_get (D := (dC, dI)) (ci := 7) (v := .int (nI (n 2))) (C := RX8) (T := TX8) (N := 37) hx hb hts hinX8 hown hK hP 0 rfl rfl 5 (by decide) (hts (.fieldLink RX8 115 "FurPostsModel" "ways" "I") (by decide +kernel)) (fun _ h9 => h9) rfl dX8_next_68 ?_
                    refine lv_icmp_ge (tgt := 190) hx hb dX8_next_71 (by decide) (fun h_17 => absurd h_17 (lp_ge (B := (n 2)) (by omega) (by omega) rfl)) (fun h_17 => ?_)
                    refine lv_aload_n hx hb dX8_next_74 rfl (lv_at hl 2 rfl) ?_
                    refine va_get (D := (dC, dI)) (ci := 7) (v := .ref (q 36)) (C := RX8) (T := TX8) (N := 37) hx hb hts hinX8 hown hK hP 0 rfl rfl 36 (by decide) (hts (.fieldLink RX8 101 "FurPostsModel" "far" "[I") (by decide +kernel)) (fun _ h9 => h9) rfl dX8_next_75 ?_
                    refine lv_aload_n hx hb dX8_next_78 rfl (lv_at hl 2 rfl) ?_
                    refine va_get (D := (dC, dI)) (ci := 7) (v := .ref (q 6)) (C := RX8) (T := TX8) (N := 37) hx hb hts hinX8 hown hK hP 0 rfl rfl 6 (by decide) (hts (.fieldLink RX8 19 "FurPostsModel" "wayA" "[I") (by decide +kernel)) (fun _ h9 => h9) rfl dX8_next_79 ?_
                    refine lv_iload hx hb dX8_next_82 (lv_at hl 0 rfl) ?_
                    refine va_iald hx hb hK hP 4 0 rfl rfl (i := (nI j65)) (vp_in_nI (show j65 < 12 by omega) (by decide)) dX8_next_84 ?_
                    refine va_iald hx hb hK hP 31 0 rfl rfl (i := (F65 6 (Int32.toNatClampNeg (nI j65)))) (hI65.1 _) dX8_next_85 ?_
                    refine lv_iconst (v := 1) hx hb dX8_next_86 (by decide) ?_
                    refine lv_iadd hx hb dX8_next_87 ?_
                    refine lv_aload_n hx hb dX8_next_88 rfl (lv_at hl 2 rfl) ?_
                    refine va_get (D := (dC, dI)) (ci := 7) (v := .ref (q 36)) (C := RX8) (T := TX8) (N := 37) hx hb hts hinX8 hown hK hP 0 rfl rfl 36 (by decide) (hts (.fieldLink RX8 101 "FurPostsModel" "far" "[I") (by decide +kernel)) (fun _ h9 => h9) rfl dX8_next_89 ?_
                    refine lv_aload_n hx hb dX8_next_92 rfl (lv_at hl 2 rfl) ?_
                    refine va_get (D := (dC, dI)) (ci := 7) (v := .ref (q 7)) (C := RX8) (T := TX8) (N := 37) hx hb hts hinX8 hown hK hP 0 rfl rfl 7 (by decide) (hts (.fieldLink RX8 22 "FurPostsModel" "wayB" "[I") (by decide +kernel)) (fun _ h9 => h9) rfl dX8_next_93 ?_
                    refine lv_iload hx hb dX8_next_96 (lv_at hl 0 rfl) ?_
                    refine va_iald hx hb hK hP 5 0 rfl rfl (i := (nI j65)) (vp_in_nI (show j65 < 12 by omega) (by decide)) dX8_next_98 ?_
                    refine va_iald hx hb hK hP 31 0 rfl rfl (i := (F65 7 (Int32.toNatClampNeg (nI j65)))) (hI65.2.1 _) dX8_next_99 ?_
                    refine lv_icmp_ge (tgt := 129) hx hb dX8_next_100 (by decide) (fun h_18 => ?_) (fun h_18 => ?_)
                    · skip
                      refine lv_aload_n hx hb dX8_next_129 rfl (lv_at hl 2 rfl) ?_
                      refine va_get (D := (dC, dI)) (ci := 7) (v := .ref (q 36)) (C := RX8) (T := TX8) (N := 37) hx hb hts hinX8 hown hK hP 0 rfl rfl 36 (by decide) (hts (.fieldLink RX8 101 "FurPostsModel" "far" "[I") (by decide +kernel)) (fun _ h9 => h9) rfl dX8_next_130 ?_
                      refine lv_aload_n hx hb dX8_next_133 rfl (lv_at hl 2 rfl) ?_
                      refine va_get (D := (dC, dI)) (ci := 7) (v := .ref (q 7)) (C := RX8) (T := TX8) (N := 37) hx hb hts hinX8 hown hK hP 0 rfl rfl 7 (by decide) (hts (.fieldLink RX8 22 "FurPostsModel" "wayB" "[I") (by decide +kernel)) (fun _ h9 => h9) rfl dX8_next_134 ?_
                      refine lv_iload hx hb dX8_next_137 (lv_at hl 0 rfl) ?_
                      refine va_iald hx hb hK hP 5 0 rfl rfl (i := (nI j65)) (vp_in_nI (show j65 < 12 by omega) (by decide)) dX8_next_139 ?_
                      refine va_iald hx hb hK hP 31 0 rfl rfl (i := (F65 7 (Int32.toNatClampNeg (nI j65)))) (hI65.2.1 _) dX8_next_140 ?_
                      refine lv_iconst (v := 1) hx hb dX8_next_141 (by decide) ?_
                      refine lv_iadd hx hb dX8_next_142 ?_
                      refine lv_aload_n hx hb dX8_next_143 rfl (lv_at hl 2 rfl) ?_
                      refine va_get (D := (dC, dI)) (ci := 7) (v := .ref (q 36)) (C := RX8) (T := TX8) (N := 37) hx hb hts hinX8 hown hK hP 0 rfl rfl 36 (by decide) (hts (.fieldLink RX8 101 "FurPostsModel" "far" "[I") (by decide +kernel)) (fun _ h9 => h9) rfl dX8_next_144 ?_
                      refine lv_aload_n hx hb dX8_next_147 rfl (lv_at hl 2 rfl) ?_
                      refine va_get (D := (dC, dI)) (ci := 7) (v := .ref (q 6)) (C := RX8) (T := TX8) (N := 37) hx hb hts hinX8 hown hK hP 0 rfl rfl 6 (by decide) (hts (.fieldLink RX8 19 "FurPostsModel" "wayA" "[I") (by decide +kernel)) (fun _ h9 => h9) rfl dX8_next_148 ?_
                      refine lv_iload hx hb dX8_next_151 (lv_at hl 0 rfl) ?_
                      refine va_iald hx hb hK hP 4 0 rfl rfl (i := (nI j65)) (vp_in_nI (show j65 < 12 by omega) (by decide)) dX8_next_153 ?_
                      refine va_iald hx hb hK hP 31 0 rfl rfl (i := (F65 6 (Int32.toNatClampNeg (nI j65)))) (hI65.1 _) dX8_next_154 ?_
                      refine lv_icmp_ge (tgt := 184) hx hb dX8_next_155 (by decide) (fun h_19 => ?_) (fun h_19 => ?_)
                      · skip
                        refine lv_iinc (v := (nI (j65 + 1))) (lv' := [(4, .int (nI (j65 + 1))), (3, .int (nI j56)), (0, .ref h0), (1, .int a1), (2, .int a2)]) hx hb dX8_next_184 hl (k := 0) rfl (show nI j65 + 1 = nI (j65 + 1) from nI_1 j65) (by decide) rfl (fun ls hl => ?_)
                        refine lv_goto (tgt := 65) hx hb dX8_next_187 (by decide) ?_
                        exact ih65 (j65 + 1) F65 dl H locs ls (by omega) hP hD hI65 hS (lv_sub hl [0, 1, 2, 3, 4] rfl)
                      · skip
                        refine lv_aload_n hx hb dX8_next_158 rfl (lv_at hl 2 rfl) ?_
                        refine va_get (D := (dC, dI)) (ci := 7) (v := .ref (q 36)) (C := RX8) (T := TX8) (N := 37) hx hb hts hinX8 hown hK hP 0 rfl rfl 36 (by decide) (hts (.fieldLink RX8 101 "FurPostsModel" "far" "[I") (by decide +kernel)) (fun _ h9 => h9) rfl dX8_next_159 ?_
                        refine lv_aload_n hx hb dX8_next_162 rfl (lv_at hl 2 rfl) ?_
                        refine va_get (D := (dC, dI)) (ci := 7) (v := .ref (q 6)) (C := RX8) (T := TX8) (N := 37) hx hb hts hinX8 hown hK hP 0 rfl rfl 6 (by decide) (hts (.fieldLink RX8 19 "FurPostsModel" "wayA" "[I") (by decide +kernel)) (fun _ h9 => h9) rfl dX8_next_163 ?_
                        refine lv_iload hx hb dX8_next_166 (lv_at hl 0 rfl) ?_
                        refine va_iald hx hb hK hP 4 0 rfl rfl (i := (nI j65)) (vp_in_nI (show j65 < 12 by omega) (by decide)) dX8_next_168 ?_
                        refine lv_aload_n hx hb dX8_next_169 rfl (lv_at hl 2 rfl) ?_
                        refine va_get (D := (dC, dI)) (ci := 7) (v := .ref (q 36)) (C := RX8) (T := TX8) (N := 37) hx hb hts hinX8 hown hK hP 0 rfl rfl 36 (by decide) (hts (.fieldLink RX8 101 "FurPostsModel" "far" "[I") (by decide +kernel)) (fun _ h9 => h9) rfl dX8_next_170 ?_
                        refine lv_aload_n hx hb dX8_next_173 rfl (lv_at hl 2 rfl) ?_
                        refine va_get (D := (dC, dI)) (ci := 7) (v := .ref (q 7)) (C := RX8) (T := TX8) (N := 37) hx hb hts hinX8 hown hK hP 0 rfl rfl 7 (by decide) (hts (.fieldLink RX8 22 "FurPostsModel" "wayB" "[I") (by decide +kernel)) (fun _ h9 => h9) rfl dX8_next_174 ?_
                        refine lv_iload hx hb dX8_next_177 (lv_at hl 0 rfl) ?_
                        refine va_iald hx hb hK hP 5 0 rfl rfl (i := (nI j65)) (vp_in_nI (show j65 < 12 by omega) (by decide)) dX8_next_179 ?_
                        refine va_iald hx hb hK hP 31 0 rfl rfl (i := (F65 7 (Int32.toNatClampNeg (nI j65)))) (hI65.2.1 _) dX8_next_180 ?_
                        refine lv_iconst (v := 1) hx hb dX8_next_181 (by decide) ?_
                        refine lv_iadd hx hb dX8_next_182 ?_
                        refine va_iast hx hb hK hP hD hS 31 0 rfl rfl (i := (F65 6 (Int32.toNatClampNeg (nI j65)))) (x := ((F65 36 (Int32.toNatClampNeg (F65 7 (Int32.toNatClampNeg (nI j65))))) + 1)) (hI65.1 _) dX8_next_183 (fun H locs hP2 hD2 hS => ?_)
                        obtain ⟨F20, hF20, hP, hD, hI20⟩ : ∃ F20 : Nat → Nat → Int32, F20 = va_up F65 36 (upd (F65 36) (Int32.toNatClampNeg (F65 6 (Int32.toNatClampNeg (nI j65)))) ((F65 36 (Int32.toNatClampNeg (F65 7 (Int32.toNatClampNeg (nI j65))))) + 1)) ∧ va_P (dC, dI) vwCl (mw_ h0 q n dl cI cZ F20) H ∧ va_D A (mw_ h0 q n dl cI cZ F20) ∧ mi_ n F20 := ⟨_, rfl, hP2, hD2, hI65⟩
                        refine lv_iinc (v := (nI (j65 + 1))) (lv' := [(4, .int (nI (j65 + 1))), (3, .int (nI j56)), (0, .ref h0), (1, .int a1), (2, .int a2)]) hx hb dX8_next_184 hl (k := 0) rfl (show nI j65 + 1 = nI (j65 + 1) from nI_1 j65) (by decide) rfl (fun ls hl => ?_)
                        refine lv_goto (tgt := 65) hx hb dX8_next_187 (by decide) ?_
                        exact ih65 (j65 + 1) F20 dl H locs ls (by omega) hP hD hI20 hS (lv_sub hl [0, 1, 2, 3, 4] rfl)
                    · skip
                      refine lv_aload_n hx hb dX8_next_103 rfl (lv_at hl 2 rfl) ?_
                      refine va_get (D := (dC, dI)) (ci := 7) (v := .ref (q 36)) (C := RX8) (T := TX8) (N := 37) hx hb hts hinX8 hown hK hP 0 rfl rfl 36 (by decide) (hts (.fieldLink RX8 101 "FurPostsModel" "far" "[I") (by decide +kernel)) (fun _ h9 => h9) rfl dX8_next_104 ?_
                      refine lv_aload_n hx hb dX8_next_107 rfl (lv_at hl 2 rfl) ?_
                      refine va_get (D := (dC, dI)) (ci := 7) (v := .ref (q 7)) (C := RX8) (T := TX8) (N := 37) hx hb hts hinX8 hown hK hP 0 rfl rfl 7 (by decide) (hts (.fieldLink RX8 22 "FurPostsModel" "wayB" "[I") (by decide +kernel)) (fun _ h9 => h9) rfl dX8_next_108 ?_
                      refine lv_iload hx hb dX8_next_111 (lv_at hl 0 rfl) ?_
                      refine va_iald hx hb hK hP 5 0 rfl rfl (i := (nI j65)) (vp_in_nI (show j65 < 12 by omega) (by decide)) dX8_next_113 ?_
                      refine lv_aload_n hx hb dX8_next_114 rfl (lv_at hl 2 rfl) ?_
                      refine va_get (D := (dC, dI)) (ci := 7) (v := .ref (q 36)) (C := RX8) (T := TX8) (N := 37) hx hb hts hinX8 hown hK hP 0 rfl rfl 36 (by decide) (hts (.fieldLink RX8 101 "FurPostsModel" "far" "[I") (by decide +kernel)) (fun _ h9 => h9) rfl dX8_next_115 ?_
                      refine lv_aload_n hx hb dX8_next_118 rfl (lv_at hl 2 rfl) ?_
                      refine va_get (D := (dC, dI)) (ci := 7) (v := .ref (q 6)) (C := RX8) (T := TX8) (N := 37) hx hb hts hinX8 hown hK hP 0 rfl rfl 6 (by decide) (hts (.fieldLink RX8 19 "FurPostsModel" "wayA" "[I") (by decide +kernel)) (fun _ h9 => h9) rfl dX8_next_119 ?_
                      refine lv_iload hx hb dX8_next_122 (lv_at hl 0 rfl) ?_
                      refine va_iald hx hb hK hP 4 0 rfl rfl (i := (nI j65)) (vp_in_nI (show j65 < 12 by omega) (by decide)) dX8_next_124 ?_
                      refine va_iald hx hb hK hP 31 0 rfl rfl (i := (F65 6 (Int32.toNatClampNeg (nI j65)))) (hI65.1 _) dX8_next_125 ?_
                      refine lv_iconst (v := 1) hx hb dX8_next_126 (by decide) ?_
                      refine lv_iadd hx hb dX8_next_127 ?_
                      refine va_iast hx hb hK hP hD hS 31 0 rfl rfl (i := (F65 7 (Int32.toNatClampNeg (nI j65)))) (x := ((F65 36 (Int32.toNatClampNeg (F65 6 (Int32.toNatClampNeg (nI j65))))) + 1)) (hI65.2.1 _) dX8_next_128 (fun H locs hP2 hD2 hS => ?_)
                      obtain ⟨F21, hF21, hP, hD, hI21⟩ : ∃ F21 : Nat → Nat → Int32, F21 = va_up F65 36 (upd (F65 36) (Int32.toNatClampNeg (F65 7 (Int32.toNatClampNeg (nI j65)))) ((F65 36 (Int32.toNatClampNeg (F65 6 (Int32.toNatClampNeg (nI j65))))) + 1)) ∧ va_P (dC, dI) vwCl (mw_ h0 q n dl cI cZ F21) H ∧ va_D A (mw_ h0 q n dl cI cZ F21) ∧ mi_ n F21 := ⟨_, rfl, hP2, hD2, hI65⟩
                      refine lv_aload_n hx hb dX8_next_129 rfl (lv_at hl 2 rfl) ?_
                      refine va_get (D := (dC, dI)) (ci := 7) (v := .ref (q 36)) (C := RX8) (T := TX8) (N := 37) hx hb hts hinX8 hown hK hP 0 rfl rfl 36 (by decide) (hts (.fieldLink RX8 101 "FurPostsModel" "far" "[I") (by decide +kernel)) (fun _ h9 => h9) rfl dX8_next_130 ?_
                      refine lv_aload_n hx hb dX8_next_133 rfl (lv_at hl 2 rfl) ?_
                      refine va_get (D := (dC, dI)) (ci := 7) (v := .ref (q 7)) (C := RX8) (T := TX8) (N := 37) hx hb hts hinX8 hown hK hP 0 rfl rfl 7 (by decide) (hts (.fieldLink RX8 22 "FurPostsModel" "wayB" "[I") (by decide +kernel)) (fun _ h9 => h9) rfl dX8_next_134 ?_
                      refine lv_iload hx hb dX8_next_137 (lv_at hl 0 rfl) ?_
                      refine va_iald hx hb hK hP 5 0 rfl rfl (i := (nI j65)) (vp_in_nI (show j65 < 12 by omega) (by decide)) dX8_next_139 ?_
                      refine va_iald hx hb hK hP 31 0 rfl rfl (i := (F21 7 (Int32.toNatClampNeg (nI j65)))) (hI21.2.1 _) dX8_next_140 ?_
                      refine lv_iconst (v := 1) hx hb dX8_next_141 (by decide) ?_
                      refine lv_iadd hx hb dX8_next_142 ?_
                      refine lv_aload_n hx hb dX8_next_143 rfl (lv_at hl 2 rfl) ?_
                      refine va_get (D := (dC, dI)) (ci := 7) (v := .ref (q 36)) (C := RX8) (T := TX8) (N := 37) hx hb hts hinX8 hown hK hP 0 rfl rfl 36 (by decide) (hts (.fieldLink RX8 101 "FurPostsModel" "far" "[I") (by decide +kernel)) (fun _ h9 => h9) rfl dX8_next_144 ?_
                      refine lv_aload_n hx hb dX8_next_147 rfl (lv_at hl 2 rfl) ?_
                      refine va_get (D := (dC, dI)) (ci := 7) (v := .ref (q 6)) (C := RX8) (T := TX8) (N := 37) hx hb hts hinX8 hown hK hP 0 rfl rfl 6 (by decide) (hts (.fieldLink RX8 19 "FurPostsModel" "wayA" "[I") (by decide +kernel)) (fun _ h9 => h9) rfl dX8_next_148 ?_
                      refine lv_iload hx hb dX8_next_151 (lv_at hl 0 rfl) ?_
                      refine va_iald hx hb hK hP 4 0 rfl rfl (i := (nI j65)) (vp_in_nI (show j65 < 12 by omega) (by decide)) dX8_next_153 ?_
                      refine va_iald hx hb hK hP 31 0 rfl rfl (i := (F21 6 (Int32.toNatClampNeg (nI j65)))) (hI21.1 _) dX8_next_154 ?_
                      refine lv_icmp_ge (tgt := 184) hx hb dX8_next_155 (by decide) (fun h_22 => ?_) (fun h_22 => ?_)
                      · skip
                        refine lv_iinc (v := (nI (j65 + 1))) (lv' := [(4, .int (nI (j65 + 1))), (3, .int (nI j56)), (0, .ref h0), (1, .int a1), (2, .int a2)]) hx hb dX8_next_184 hl (k := 0) rfl (show nI j65 + 1 = nI (j65 + 1) from nI_1 j65) (by decide) rfl (fun ls hl => ?_)
                        refine lv_goto (tgt := 65) hx hb dX8_next_187 (by decide) ?_
                        exact ih65 (j65 + 1) F21 dl H locs ls (by omega) hP hD hI21 hS (lv_sub hl [0, 1, 2, 3, 4] rfl)
                      · skip
                        refine lv_aload_n hx hb dX8_next_158 rfl (lv_at hl 2 rfl) ?_
                        refine va_get (D := (dC, dI)) (ci := 7) (v := .ref (q 36)) (C := RX8) (T := TX8) (N := 37) hx hb hts hinX8 hown hK hP 0 rfl rfl 36 (by decide) (hts (.fieldLink RX8 101 "FurPostsModel" "far" "[I") (by decide +kernel)) (fun _ h9 => h9) rfl dX8_next_159 ?_
                        refine lv_aload_n hx hb dX8_next_162 rfl (lv_at hl 2 rfl) ?_
                        refine va_get (D := (dC, dI)) (ci := 7) (v := .ref (q 6)) (C := RX8) (T := TX8) (N := 37) hx hb hts hinX8 hown hK hP 0 rfl rfl 6 (by decide) (hts (.fieldLink RX8 19 "FurPostsModel" "wayA" "[I") (by decide +kernel)) (fun _ h9 => h9) rfl dX8_next_163 ?_
                        refine lv_iload hx hb dX8_next_166 (lv_at hl 0 rfl) ?_
                        refine va_iald hx hb hK hP 4 0 rfl rfl (i := (nI j65)) (vp_in_nI (show j65 < 12 by omega) (by decide)) dX8_next_168 ?_
                        refine lv_aload_n hx hb dX8_next_169 rfl (lv_at hl 2 rfl) ?_
                        refine va_get (D := (dC, dI)) (ci := 7) (v := .ref (q 36)) (C := RX8) (T := TX8) (N := 37) hx hb hts hinX8 hown hK hP 0 rfl rfl 36 (by decide) (hts (.fieldLink RX8 101 "FurPostsModel" "far" "[I") (by decide +kernel)) (fun _ h9 => h9) rfl dX8_next_170 ?_
                        refine lv_aload_n hx hb dX8_next_173 rfl (lv_at hl 2 rfl) ?_
                        refine va_get (D := (dC, dI)) (ci := 7) (v := .ref (q 7)) (C := RX8) (T := TX8) (N := 37) hx hb hts hinX8 hown hK hP 0 rfl rfl 7 (by decide) (hts (.fieldLink RX8 22 "FurPostsModel" "wayB" "[I") (by decide +kernel)) (fun _ h9 => h9) rfl dX8_next_174 ?_
                        refine lv_iload hx hb dX8_next_177 (lv_at hl 0 rfl) ?_
                        refine va_iald hx hb hK hP 5 0 rfl rfl (i := (nI j65)) (vp_in_nI (show j65 < 12 by omega) (by decide)) dX8_next_179 ?_
                        refine va_iald hx hb hK hP 31 0 rfl rfl (i := (F21 7 (Int32.toNatClampNeg (nI j65)))) (hI21.2.1 _) dX8_next_180 ?_
                        refine lv_iconst (v := 1) hx hb dX8_next_181 (by decide) ?_
                        refine lv_iadd hx hb dX8_next_182 ?_
                        refine va_iast hx hb hK hP hD hS 31 0 rfl rfl (i := (F21 6 (Int32.toNatClampNeg (nI j65)))) (x := ((F21 36 (Int32.toNatClampNeg (F21 7 (Int32.toNatClampNeg (nI j65))))) + 1)) (hI21.1 _) dX8_next_183 (fun H locs hP2 hD2 hS => ?_)
                        obtain ⟨F23, hF23, hP, hD, hI23⟩ : ∃ F23 : Nat → Nat → Int32, F23 = va_up F21 36 (upd (F21 36) (Int32.toNatClampNeg (F21 6 (Int32.toNatClampNeg (nI j65)))) ((F21 36 (Int32.toNatClampNeg (F21 7 (Int32.toNatClampNeg (nI j65))))) + 1)) ∧ va_P (dC, dI) vwCl (mw_ h0 q n dl cI cZ F23) H ∧ va_D A (mw_ h0 q n dl cI cZ F23) ∧ mi_ n F23 := ⟨_, rfl, hP2, hD2, hI21⟩
                        refine lv_iinc (v := (nI (j65 + 1))) (lv' := [(4, .int (nI (j65 + 1))), (3, .int (nI j56)), (0, .ref h0), (1, .int a1), (2, .int a2)]) hx hb dX8_next_184 hl (k := 0) rfl (show nI j65 + 1 = nI (j65 + 1) from nI_1 j65) (by decide) rfl (fun ls hl => ?_)
                        refine lv_goto (tgt := 65) hx hb dX8_next_187 (by decide) ?_
                        exact ih65 (j65 + 1) F23 dl H locs ls (by omega) hP hD hI23 hS (lv_sub hl [0, 1, 2, 3, 4] rfl)
                exact key65 (n 2) 0 F56 dl H locs ls (by omega) hP hD hI56 hS (lv_sub hl [0, 1, 2, 3, 4] rfl)
            exact key56 8 0 F25 dl H locs ls (by omega) hP hD hI25 hS (lv_sub hl [0, 1, 2, 3] rfl)
          | succ k ih25 =>
            intro j25 F25 dl H locs ls hj hP hD hI25 hS hl
            have hj25 : j25 < 8 := by omega
            refine lv_iload_n hx hb dX8_next_25 rfl (lv_at hl 0 rfl) ?_
            refine lv_bipush (v := 8) hx hb dX8_next_26 (by decide) ?_
            refine lv_icmp_ge (tgt := 54) hx hb dX8_next_28 (by decide) (fun h_24 => absurd h_24 (lp_ge (B := 8) (by omega) (by omega) rfl)) (fun h_24 => ?_)
            refine lv_aload_n hx hb dX8_next_31 rfl (lv_at hl 1 rfl) ?_
            refine va_get (D := (dC, dI)) (ci := 7) (v := .ref (q 36)) (C := RX8) (T := TX8) (N := 37) hx hb hts hinX8 hown hK hP 0 rfl rfl 36 (by decide) (hts (.fieldLink RX8 101 "FurPostsModel" "far" "[I") (by decide +kernel)) (fun _ h9 => h9) rfl dX8_next_32 ?_
            refine lv_iload_n hx hb dX8_next_35 rfl (lv_at hl 0 rfl) ?_
            refine lv_iload_n hx hb dX8_next_36 rfl (lv_at hl 0 rfl) ?_
            refine lv_iload_n hx hb dX8_next_37 rfl (lv_at hl 3 rfl) ?_
            refine lv_icmp_ne (tgt := 45) hx hb dX8_next_38 (by decide) (fun h_25 => ?_) (fun h_25 => ?_)
            · skip
              refine lv_bipush (v := 100) hx hb dX8_next_45 (by decide) ?_
              refine va_iast hx hb hK hP hD hS 31 0 rfl rfl (i := (nI j25)) (x := 100) (vp_in_nI (show j25 < 8 by omega) (by decide)) dX8_next_47 (fun H locs hP2 hD2 hS => ?_)
              obtain ⟨F26, hF26, hP, hD, hI26⟩ : ∃ F26 : Nat → Nat → Int32, F26 = va_up F25 36 (upd (F25 36) (Int32.toNatClampNeg (nI j25)) 100) ∧ va_P (dC, dI) vwCl (mw_ h0 q n dl cI cZ F26) H ∧ va_D A (mw_ h0 q n dl cI cZ F26) ∧ mi_ n F26 := ⟨_, rfl, hP2, hD2, hI25⟩
              refine lv_iinc (v := (nI (j25 + 1))) (lv' := [(3, .int (nI (j25 + 1))), (0, .ref h0), (1, .int a1), (2, .int a2)]) hx hb dX8_next_48 hl (k := 0) rfl (show nI j25 + 1 = nI (j25 + 1) from nI_1 j25) (by decide) rfl (fun ls hl => ?_)
              refine lv_goto (tgt := 25) hx hb dX8_next_51 (by decide) ?_
              exact ih25 (j25 + 1) F26 dl H locs ls (by omega) hP hD hI26 hS (lv_sub hl [0, 1, 2, 3] rfl)
            · skip
              refine lv_iconst (v := 0) hx hb dX8_next_41 (by decide) ?_
              refine lv_goto (tgt := 47) hx hb dX8_next_42 (by decide) ?_
              refine va_iast hx hb hK hP hD hS 31 0 rfl rfl (i := (nI j25)) (x := 0) (vp_in_nI (show j25 < 8 by omega) (by decide)) dX8_next_47 (fun H locs hP2 hD2 hS => ?_)
              obtain ⟨F27, hF27, hP, hD, hI27⟩ : ∃ F27 : Nat → Nat → Int32, F27 = va_up F25 36 (upd (F25 36) (Int32.toNatClampNeg (nI j25)) 0) ∧ va_P (dC, dI) vwCl (mw_ h0 q n dl cI cZ F27) H ∧ va_D A (mw_ h0 q n dl cI cZ F27) ∧ mi_ n F27 := ⟨_, rfl, hP2, hD2, hI25⟩
              refine lv_iinc (v := (nI (j25 + 1))) (lv' := [(3, .int (nI (j25 + 1))), (0, .ref h0), (1, .int a1), (2, .int a2)]) hx hb dX8_next_48 hl (k := 0) rfl (show nI j25 + 1 = nI (j25 + 1) from nI_1 j25) (by decide) rfl (fun ls hl => ?_)
              refine lv_goto (tgt := 25) hx hb dX8_next_51 (by decide) ?_
              exact ih25 (j25 + 1) F27 dl H locs ls (by omega) hP hD hI27 hS (lv_sub hl [0, 1, 2, 3] rfl)
        exact key25 8 0 F dl H locs ls (by omega) hP hD hI hS (lv_sub hl [0, 1, 2, 3] rfl)
      · skip
        refine lv_iconst (v := (-1)) hx hb dX8_next_21 (by decide) ?_
        exact W.iret (v := (-1)) hx hb hr (fun t9 ht hW => ⟨⟨(-1), (F, n, dl), rfl, ⟨trivial, hD, hI, hN, rfl⟩, by show va_P (dC, dI) vwCl _ t9.heap; rw [ht]; exact hP⟩, hS.F ht⟩) hS.2.2 dX8_next_22

set_option maxHeartbeats 4000000 in
set_option maxRecDepth 100000 in
theorem m_X8_reads (l : Launch) (dC : Nat → ClassId) (dI : Nat → Nat → Nat) (h0 : Nat) (q n : Nat → Nat) (dl : Int32) (cI cZ : ClassId) (F : Nat → Nat → Int32) (hI : mi_ n F) (hN : nb_ n) (A : Nat → Prop) (hD : va_D A (mw_ h0 q n dl cI cZ F)) (a1 : Int32) (hb0 : vp_in a1 300) (hx4 : Int32.toNatClampNeg a1 < n 4) : Met l yX8_reads wsX8_reads ({ frames := 0, cells := 0, slots := 0, locals := 0 }) (va_Pc [.ref h0, .int a1] (pu_P (dC, dI) vwCl (mt_ cI cZ) (mw_ h0 q n dl cI cZ F))) (va_Qv (fun u : (Nat → Nat → Int32) × (Nat → Nat) × Int32 => va_D A (mw_ h0 q u.2.1 u.2.2 cI cZ u.1) ∧ mi_ u.2.1 u.1 ∧ nb_ u.2.1 ∧ u.2.1 = n) (fun u s' => va_P (dC, dI) vwCl (mw_ h0 q u.2.1 u.2.2 cI cZ u.1) s'.heap) A) 0 0 A := by
  refine Met.ofW (cc := cX8_reads) (maxL := 4) (ret := none) (by decide) rfl ?_
  intro p e s m args below meth c s₁ B hml hv
  obtain ⟨rfl, hP, hK⟩ := hv
  have hx := B.exec
  have hb := B.bytes
  have hr := B.returns
  have hts := atoms_spec (ws := wsX8_reads) B.pre
  have hown : s.vm.findClass RX8 = some m.cls := findClass_of_methodNamed B.named
  have hlocks := B.notSynchronized
  have hinX8 : ∀ w ∈ u_ws RX8 TX8 37, w ∈ wsX8_reads := by decide +kernel
  have hS : va_S A s.heap s.heap [] := va_S.rf
  have hl := lv_entry ([.ref h0, .int a1]) (n := 4) (Nat.le_of_ble_eq_true rfl)
  rw [lg_entry_eq]
  generalize (lg_sl ([.ref h0, .int a1]) ++ List.replicate (4 - (lg_sl ([.ref h0, .int a1])).length) Slot.unset).toArray = ls at hl ⊢
  have hl : lv_has ls 4 [(0, .ref h0), (1, .int a1)] := hl
  obtain ⟨H, hH, hP, hS⟩ : ∃ H, H = s.heap ∧ va_P (dC, dI) vwCl (mw_ h0 q n dl cI cZ F) H ∧ va_S A s.heap H [] := ⟨_, rfl, hP, hS⟩
  rw [← hH]
  generalize ([] : List Loc) = locs at hS ⊢
  refine lv_aload_n hx hb dX8_reads_0 rfl (lv_at hl 0 rfl) ?_
  refine va_get (D := (dC, dI)) (ci := 7) (v := .ref (q 27)) (C := RX8) (T := TX8) (N := 37) hx hb hts hinX8 hown hK hP 0 rfl rfl 27 (by decide) (hts (.fieldLink RX8 77 "FurPostsModel" "letterTo" "[I") (by decide +kernel)) (fun _ h9 => h9) rfl dX8_reads_1 ?_
  refine lv_iload_n hx hb dX8_reads_4 rfl (lv_at hl 1 rfl) ?_
  refine va_iald hx hb hK hP 23 0 rfl rfl (i := a1) hb0 dX8_reads_5 ?_
  refine lv_istore_n (lv' := [(2, .int (F 27 (Int32.toNatClampNeg a1))), (0, .ref h0), (1, .int a1)]) hx hb dX8_reads_6 rfl hl (by decide) rfl (fun ls hl => ?_)
  refine lv_aload_n hx hb dX8_reads_7 rfl (lv_at hl 1 rfl) ?_
  refine va_get (D := (dC, dI)) (ci := 7) (v := .ref (q 28)) (C := RX8) (T := TX8) (N := 37) hx hb hts hinX8 hown hK hP 0 rfl rfl 28 (by decide) (hts (.fieldLink RX8 80 "FurPostsModel" "letterAt" "[I") (by decide +kernel)) (fun _ h9 => h9) rfl dX8_reads_8 ?_
  refine lv_iload_n hx hb dX8_reads_11 rfl (lv_at hl 2 rfl) ?_
  refine lv_sipush (v := 1000) hx hb dX8_reads_12 (by decide) ?_
  refine va_iast hx hb hK hP hD hS 24 0 rfl rfl (i := a1) (x := 1000) hb0 dX8_reads_15 (fun H locs hP2 hD2 hS => ?_)
  obtain ⟨F1, hF1, hP, hD, hI1⟩ : ∃ F1 : Nat → Nat → Int32, F1 = va_up F 28 (upd (F 28) (Int32.toNatClampNeg a1) 1000) ∧ va_P (dC, dI) vwCl (mw_ h0 q n dl cI cZ F1) H ∧ va_D A (mw_ h0 q n dl cI cZ F1) ∧ mi_ n F1 := ⟨_, rfl, hP2, hD2, hI⟩
  refine lv_aload_n hx hb dX8_reads_16 rfl (lv_at hl 1 rfl) ?_
  refine va_get (D := (dC, dI)) (ci := 7) (v := .ref (q 26)) (C := RX8) (T := TX8) (N := 37) hx hb hts hinX8 hown hK hP 0 rfl rfl 26 (by decide) (hts (.fieldLink RX8 74 "FurPostsModel" "letterKind" "[I") (by decide +kernel)) (fun _ h9 => h9) rfl dX8_reads_17 ?_
  refine lv_iload_n hx hb dX8_reads_20 rfl (lv_at hl 2 rfl) ?_
  refine va_iald hx hb hK hP 22 0 rfl rfl (i := a1) hb0 dX8_reads_21 ?_
  refine lv_if_ne (tgt := 50) hx hb dX8_reads_22 (by decide) (fun h_2 => ?_) (fun h_2 => ?_)
  · skip
    refine lv_aload_n hx hb dX8_reads_50 rfl (lv_at hl 1 rfl) ?_
    refine va_get (D := (dC, dI)) (ci := 7) (v := .ref (q 26)) (C := RX8) (T := TX8) (N := 37) hx hb hts hinX8 hown hK hP 0 rfl rfl 26 (by decide) (hts (.fieldLink RX8 74 "FurPostsModel" "letterKind" "[I") (by decide +kernel)) (fun _ h9 => h9) rfl dX8_reads_51 ?_
    refine lv_iload_n hx hb dX8_reads_54 rfl (lv_at hl 2 rfl) ?_
    refine va_iald hx hb hK hP 22 0 rfl rfl (i := a1) hb0 dX8_reads_55 ?_
    refine lv_iconst (v := 1) hx hb dX8_reads_56 (by decide) ?_
    refine lv_icmp_ne (tgt := 88) hx hb dX8_reads_57 (by decide) (fun h_3 => ?_) (fun h_3 => ?_)
    · skip
      refine lv_bipush (v := 8) hx hb dX8_reads_88 (by decide) ?_
      refine lv_iload_n hx hb dX8_reads_90 rfl (lv_at hl 0 rfl) ?_
      refine lv_imul hx hb dX8_reads_91 ?_
      refine lv_aload_n hx hb dX8_reads_92 rfl (lv_at hl 1 rfl) ?_
      refine va_get (D := (dC, dI)) (ci := 7) (v := .ref (q 29)) (C := RX8) (T := TX8) (N := 37) hx hb hts hinX8 hown hK hP 0 rfl rfl 29 (by decide) (hts (.fieldLink RX8 83 "FurPostsModel" "letterOne" "[I") (by decide +kernel)) (fun _ h9 => h9) rfl dX8_reads_93 ?_
      refine lv_iload_n hx hb dX8_reads_96 rfl (lv_at hl 2 rfl) ?_
      refine va_iald hx hb hK hP 25 0 rfl rfl (i := a1) hb0 dX8_reads_97 ?_
      refine lv_iadd hx hb dX8_reads_98 ?_
      refine lv_istore_n (lv' := [(3, .int ((8 * (F 27 (Int32.toNatClampNeg a1))) + (F1 29 (Int32.toNatClampNeg a1)))), (2, .int (F 27 (Int32.toNatClampNeg a1))), (0, .ref h0), (1, .int a1)]) hx hb dX8_reads_99 rfl hl (by decide) rfl (fun ls hl => ?_)
      refine lv_aload_n hx hb dX8_reads_100 rfl (lv_at hl 2 rfl) ?_
      refine va_get (D := (dC, dI)) (ci := 7) (v := .ref (q 32)) (C := RX8) (T := TX8) (N := 37) hx hb hts hinX8 hown hK hP 0 rfl rfl 32 (by decide) (hts (.fieldLink RX8 92 "FurPostsModel" "reported" "[I") (by decide +kernel)) (fun _ h9 => h9) rfl dX8_reads_101 ?_
      refine lv_iload_n hx hb dX8_reads_104 rfl (lv_at hl 0 rfl) ?_
      refine va_iald hx hb hK hP 28 0 rfl rfl (i := ((8 * (F 27 (Int32.toNatClampNeg a1))) + (F1 29 (Int32.toNatClampNeg a1)))) (vp_lin (a := 8) (b := 8) (m := 8) (hI.2.2.2.2.1 _) ((hI1.2.2.2.2.2.2 _ hx4).2.2 h_2 h_3) rfl (by decide)) dX8_reads_105 ?_
      refine lv_iconst (v := (-1)) hx hb dX8_reads_106 (by decide) ?_
      refine lv_icmp_eq (tgt := 130) hx hb dX8_reads_107 (by decide) (fun h_4 => ?_) (fun h_4 => ?_)
      · skip
        refine lv_aload_n hx hb dX8_reads_130 rfl (lv_at hl 2 rfl) ?_
        refine va_get (D := (dC, dI)) (ci := 7) (v := .ref (q 32)) (C := RX8) (T := TX8) (N := 37) hx hb hts hinX8 hown hK hP 0 rfl rfl 32 (by decide) (hts (.fieldLink RX8 92 "FurPostsModel" "reported" "[I") (by decide +kernel)) (fun _ h9 => h9) rfl dX8_reads_131 ?_
        refine lv_iload_n hx hb dX8_reads_134 rfl (lv_at hl 0 rfl) ?_
        refine lv_iload_n hx hb dX8_reads_135 rfl (lv_at hl 3 rfl) ?_
        refine va_iast hx hb hK hP hD hS 28 0 rfl rfl (i := ((8 * (F 27 (Int32.toNatClampNeg a1))) + (F1 29 (Int32.toNatClampNeg a1)))) (x := a1) (vp_lin (a := 8) (b := 8) (m := 8) (hI.2.2.2.2.1 _) ((hI1.2.2.2.2.2.2 _ hx4).2.2 h_2 h_3) rfl (by decide)) dX8_reads_136 (fun H locs hP2 hD2 hS => ?_)
        obtain ⟨F5, hF5, hP, hD, hI5⟩ : ∃ F5 : Nat → Nat → Int32, F5 = va_up F1 32 (upd (F1 32) (Int32.toNatClampNeg ((8 * (F 27 (Int32.toNatClampNeg a1))) + (F1 29 (Int32.toNatClampNeg a1)))) a1) ∧ va_P (dC, dI) vwCl (mw_ h0 q n dl cI cZ F5) H ∧ va_D A (mw_ h0 q n dl cI cZ F5) ∧ mi_ n F5 := ⟨_, rfl, hP2, hD2, mi_up32 hI1 (Or.inr hb0)⟩
        exact W.vret hx hb hr (fun t9 ht hW => ⟨⟨(F5, n, dl), rfl, ⟨hD, hI5, hN, rfl⟩, by show va_P (dC, dI) vwCl _ t9.heap; rw [ht]; exact hP⟩, hS.F ht⟩) hS.2.2 dX8_reads_137
      · skip
        refine lv_aload_n hx hb dX8_reads_110 rfl (lv_at hl 2 rfl) ?_
        refine va_get (D := (dC, dI)) (ci := 7) (v := .ref (q 30)) (C := RX8) (T := TX8) (N := 37) hx hb hts hinX8 hown hK hP 0 rfl rfl 30 (by decide) (hts (.fieldLink RX8 86 "FurPostsModel" "letterTwo" "[I") (by decide +kernel)) (fun _ h9 => h9) rfl dX8_reads_111 ?_
        refine lv_iload_n hx hb dX8_reads_114 rfl (lv_at hl 3 rfl) ?_
        refine va_iald hx hb hK hP 26 0 rfl rfl (i := a1) hb0 dX8_reads_115 ?_
        refine lv_aload_n hx hb dX8_reads_116 rfl (lv_at hl 2 rfl) ?_
        refine va_get (D := (dC, dI)) (ci := 7) (v := .ref (q 30)) (C := RX8) (T := TX8) (N := 37) hx hb hts hinX8 hown hK hP 0 rfl rfl 30 (by decide) (hts (.fieldLink RX8 86 "FurPostsModel" "letterTwo" "[I") (by decide +kernel)) (fun _ h9 => h9) rfl dX8_reads_117 ?_
        refine lv_aload_n hx hb dX8_reads_120 rfl (lv_at hl 2 rfl) ?_
        refine va_get (D := (dC, dI)) (ci := 7) (v := .ref (q 32)) (C := RX8) (T := TX8) (N := 37) hx hb hts hinX8 hown hK hP 0 rfl rfl 32 (by decide) (hts (.fieldLink RX8 92 "FurPostsModel" "reported" "[I") (by decide +kernel)) (fun _ h9 => h9) rfl dX8_reads_121 ?_
        refine lv_iload_n hx hb dX8_reads_124 rfl (lv_at hl 0 rfl) ?_
        refine va_iald hx hb hK hP 28 0 rfl rfl (i := ((8 * (F 27 (Int32.toNatClampNeg a1))) + (F1 29 (Int32.toNatClampNeg a1)))) (vp_lin (a := 8) (b := 8) (m := 8) (hI.2.2.2.2.1 _) ((hI1.2.2.2.2.2.2 _ hx4).2.2 h_2 h_3) rfl (by decide)) dX8_reads_125 ?_
        refine va_iald hx hb hK hP 26 0 rfl rfl (i := (F1 32 (Int32.toNatClampNeg ((8 * (F 27 (Int32.toNatClampNeg a1))) + (F1 29 (Int32.toNatClampNeg a1)))))) ((hI1.2.2.2.2.2.1 _).resolve_left h_4) dX8_reads_126 ?_
        refine lv_icmp_lt (tgt := 137) hx hb dX8_reads_127 (by decide) (fun h_6 => ?_) (fun h_6 => ?_)
        · skip
          exact W.vret hx hb hr (fun t9 ht hW => ⟨⟨(F1, n, dl), rfl, ⟨hD, hI1, hN, rfl⟩, by show va_P (dC, dI) vwCl _ t9.heap; rw [ht]; exact hP⟩, hS.F ht⟩) hS.2.2 dX8_reads_137
        · skip
          refine lv_aload_n hx hb dX8_reads_130 rfl (lv_at hl 2 rfl) ?_
          refine va_get (D := (dC, dI)) (ci := 7) (v := .ref (q 32)) (C := RX8) (T := TX8) (N := 37) hx hb hts hinX8 hown hK hP 0 rfl rfl 32 (by decide) (hts (.fieldLink RX8 92 "FurPostsModel" "reported" "[I") (by decide +kernel)) (fun _ h9 => h9) rfl dX8_reads_131 ?_
          refine lv_iload_n hx hb dX8_reads_134 rfl (lv_at hl 0 rfl) ?_
          refine lv_iload_n hx hb dX8_reads_135 rfl (lv_at hl 3 rfl) ?_
          refine va_iast hx hb hK hP hD hS 28 0 rfl rfl (i := ((8 * (F 27 (Int32.toNatClampNeg a1))) + (F1 29 (Int32.toNatClampNeg a1)))) (x := a1) (vp_lin (a := 8) (b := 8) (m := 8) (hI.2.2.2.2.1 _) ((hI1.2.2.2.2.2.2 _ hx4).2.2 h_2 h_3) rfl (by decide)) dX8_reads_136 (fun H locs hP2 hD2 hS => ?_)
          obtain ⟨F7, hF7, hP, hD, hI7⟩ : ∃ F7 : Nat → Nat → Int32, F7 = va_up F1 32 (upd (F1 32) (Int32.toNatClampNeg ((8 * (F 27 (Int32.toNatClampNeg a1))) + (F1 29 (Int32.toNatClampNeg a1)))) a1) ∧ va_P (dC, dI) vwCl (mw_ h0 q n dl cI cZ F7) H ∧ va_D A (mw_ h0 q n dl cI cZ F7) ∧ mi_ n F7 := ⟨_, rfl, hP2, hD2, mi_up32 hI1 (Or.inr hb0)⟩
          exact W.vret hx hb hr (fun t9 ht hW => ⟨⟨(F7, n, dl), rfl, ⟨hD, hI7, hN, rfl⟩, by show va_P (dC, dI) vwCl _ t9.heap; rw [ht]; exact hP⟩, hS.F ht⟩) hS.2.2 dX8_reads_137
    · skip
      refine lv_aload_n hx hb dX8_reads_60 rfl (lv_at hl 1 rfl) ?_
      refine va_get (D := (dC, dI)) (ci := 7) (v := .ref (q 4)) (C := RX8) (T := TX8) (N := 37) hx hb hts hinX8 hown hK hP 0 rfl rfl 4 (by decide) (hts (.fieldLink RX8 16 "FurPostsModel" "owes" "[I") (by decide +kernel)) (fun _ h9 => h9) rfl dX8_reads_61 ?_
      refine lv_bipush (v := 12) hx hb dX8_reads_64 (by decide) ?_
      refine lv_iload_n hx hb dX8_reads_66 rfl (lv_at hl 0 rfl) ?_
      refine lv_imul hx hb dX8_reads_67 ?_
      refine lv_aload_n hx hb dX8_reads_68 rfl (lv_at hl 1 rfl) ?_
      refine va_get (D := (dC, dI)) (ci := 7) (v := .ref (q 29)) (C := RX8) (T := TX8) (N := 37) hx hb hts hinX8 hown hK hP 0 rfl rfl 29 (by decide) (hts (.fieldLink RX8 83 "FurPostsModel" "letterOne" "[I") (by decide +kernel)) (fun _ h9 => h9) rfl dX8_reads_69 ?_
      refine lv_iload_n hx hb dX8_reads_72 rfl (lv_at hl 2 rfl) ?_
      refine va_iald hx hb hK hP 25 0 rfl rfl (i := a1) hb0 dX8_reads_73 ?_
      refine lv_iadd hx hb dX8_reads_74 ?_
      refine lv_dup2_11 hx hb dX8_reads_75 rfl rfl ?_
      refine va_iald hx hb hK hP 3 0 rfl rfl (i := ((12 * (F 27 (Int32.toNatClampNeg a1))) + (F1 29 (Int32.toNatClampNeg a1)))) (vp_lin (a := 8) (b := 12) (m := 12) (hI.2.2.2.2.1 _) ((hI1.2.2.2.2.2.2 _ hx4).2.1 h_3) rfl (by decide)) dX8_reads_76 ?_
      refine lv_aload_n hx hb dX8_reads_77 rfl (lv_at hl 1 rfl) ?_
      refine va_get (D := (dC, dI)) (ci := 7) (v := .ref (q 30)) (C := RX8) (T := TX8) (N := 37) hx hb hts hinX8 hown hK hP 0 rfl rfl 30 (by decide) (hts (.fieldLink RX8 86 "FurPostsModel" "letterTwo" "[I") (by decide +kernel)) (fun _ h9 => h9) rfl dX8_reads_78 ?_
      refine lv_iload_n hx hb dX8_reads_81 rfl (lv_at hl 2 rfl) ?_
      refine va_iald hx hb hK hP 26 0 rfl rfl (i := a1) hb0 dX8_reads_82 ?_
      refine lv_iadd hx hb dX8_reads_83 ?_
      refine va_iast hx hb hK hP hD hS 3 0 rfl rfl (i := ((12 * (F 27 (Int32.toNatClampNeg a1))) + (F1 29 (Int32.toNatClampNeg a1)))) (x := ((F1 4 (Int32.toNatClampNeg ((12 * (F 27 (Int32.toNatClampNeg a1))) + (F1 29 (Int32.toNatClampNeg a1))))) + (F1 30 (Int32.toNatClampNeg a1)))) (vp_lin (a := 8) (b := 12) (m := 12) (hI.2.2.2.2.1 _) ((hI1.2.2.2.2.2.2 _ hx4).2.1 h_3) rfl (by decide)) dX8_reads_84 (fun H locs hP2 hD2 hS => ?_)
      obtain ⟨F8, hF8, hP, hD, hI8⟩ : ∃ F8 : Nat → Nat → Int32, F8 = va_up F1 4 (upd (F1 4) (Int32.toNatClampNeg ((12 * (F 27 (Int32.toNatClampNeg a1))) + (F1 29 (Int32.toNatClampNeg a1)))) ((F1 4 (Int32.toNatClampNeg ((12 * (F 27 (Int32.toNatClampNeg a1))) + (F1 29 (Int32.toNatClampNeg a1))))) + (F1 30 (Int32.toNatClampNeg a1)))) ∧ va_P (dC, dI) vwCl (mw_ h0 q n dl cI cZ F8) H ∧ va_D A (mw_ h0 q n dl cI cZ F8) ∧ mi_ n F8 := ⟨_, rfl, hP2, hD2, hI1⟩
      refine lv_goto (tgt := 137) hx hb dX8_reads_85 (by decide) ?_
      exact W.vret hx hb hr (fun t9 ht hW => ⟨⟨(F8, n, dl), rfl, ⟨hD, hI8, hN, rfl⟩, by show va_P (dC, dI) vwCl _ t9.heap; rw [ht]; exact hP⟩, hS.F ht⟩) hS.2.2 dX8_reads_137
  · skip
    refine lv_aload_n hx hb dX8_reads_25 rfl (lv_at hl 1 rfl) ?_
    refine va_get (D := (dC, dI)) (ci := 7) (v := .ref (q 3)) (C := RX8) (T := TX8) (N := 37) hx hb hts hinX8 hown hK hP 0 rfl rfl 3 (by decide) (hts (.fieldLink RX8 13 "FurPostsModel" "price" "[I") (by decide +kernel)) (fun _ h9 => h9) rfl dX8_reads_26 ?_
    refine lv_bipush (v := 6) hx hb dX8_reads_29 (by decide) ?_
    refine lv_iload_n hx hb dX8_reads_31 rfl (lv_at hl 0 rfl) ?_
    refine lv_imul hx hb dX8_reads_32 ?_
    refine lv_aload_n hx hb dX8_reads_33 rfl (lv_at hl 1 rfl) ?_
    refine va_get (D := (dC, dI)) (ci := 7) (v := .ref (q 29)) (C := RX8) (T := TX8) (N := 37) hx hb hts hinX8 hown hK hP 0 rfl rfl 29 (by decide) (hts (.fieldLink RX8 83 "FurPostsModel" "letterOne" "[I") (by decide +kernel)) (fun _ h9 => h9) rfl dX8_reads_34 ?_
    refine lv_iload_n hx hb dX8_reads_37 rfl (lv_at hl 2 rfl) ?_
    refine va_iald hx hb hK hP 25 0 rfl rfl (i := a1) hb0 dX8_reads_38 ?_
    refine lv_iadd hx hb dX8_reads_39 ?_
    refine lv_aload_n hx hb dX8_reads_40 rfl (lv_at hl 1 rfl) ?_
    refine va_get (D := (dC, dI)) (ci := 7) (v := .ref (q 30)) (C := RX8) (T := TX8) (N := 37) hx hb hts hinX8 hown hK hP 0 rfl rfl 30 (by decide) (hts (.fieldLink RX8 86 "FurPostsModel" "letterTwo" "[I") (by decide +kernel)) (fun _ h9 => h9) rfl dX8_reads_41 ?_
    refine lv_iload_n hx hb dX8_reads_44 rfl (lv_at hl 2 rfl) ?_
    refine va_iald hx hb hK hP 26 0 rfl rfl (i := a1) hb0 dX8_reads_45 ?_
    refine va_iast hx hb hK hP hD hS 2 0 rfl rfl (i := ((6 * (F 27 (Int32.toNatClampNeg a1))) + (F1 29 (Int32.toNatClampNeg a1)))) (x := (F1 30 (Int32.toNatClampNeg a1))) (vp_lin (a := 8) (b := 6) (m := 6) (hI.2.2.2.2.1 _) ((hI1.2.2.2.2.2.2 _ hx4).1 h_2) rfl (by decide)) dX8_reads_46 (fun H locs hP2 hD2 hS => ?_)
    obtain ⟨F9, hF9, hP, hD, hI9⟩ : ∃ F9 : Nat → Nat → Int32, F9 = va_up F1 3 (upd (F1 3) (Int32.toNatClampNeg ((6 * (F 27 (Int32.toNatClampNeg a1))) + (F1 29 (Int32.toNatClampNeg a1)))) (F1 30 (Int32.toNatClampNeg a1))) ∧ va_P (dC, dI) vwCl (mw_ h0 q n dl cI cZ F9) H ∧ va_D A (mw_ h0 q n dl cI cZ F9) ∧ mi_ n F9 := ⟨_, rfl, hP2, hD2, hI1⟩
    refine lv_goto (tgt := 137) hx hb dX8_reads_47 (by decide) ?_
    exact W.vret hx hb hr (fun t9 ht hW => ⟨⟨(F9, n, dl), rfl, ⟨hD, hI9, hN, rfl⟩, by show va_P (dC, dI) vwCl _ t9.heap; rw [ht]; exact hP⟩, hS.F ht⟩) hS.2.2 dX8_reads_137

set_option maxHeartbeats 4000000 in
set_option maxRecDepth 100000 in
theorem m_X8_comes (l : Launch) (dC : Nat → ClassId) (dI : Nat → Nat → Nat) (h0 : Nat) (q n : Nat → Nat) (dl : Int32) (cI cZ : ClassId) (F : Nat → Nat → Int32) (hI : mi_ n F) (hN : nb_ n) (A : Nat → Prop) (hD : va_D A (mw_ h0 q n dl cI cZ F)) (a1 : Int32) (hb0 : vp_in a1 120) : Met l yX8_comes wsX8_comes ({ frames := 1, cells := 0, slots := 0, locals := 23 }) (va_Pc [.ref h0, .int a1] (pu_P (dC, dI) vwCl (mt_ cI cZ) (mw_ h0 q n dl cI cZ F))) (va_Qv (fun u : (Nat → Nat → Int32) × (Nat → Nat) × Int32 => va_D A (mw_ h0 q u.2.1 u.2.2 cI cZ u.1) ∧ mi_ u.2.1 u.1 ∧ nb_ u.2.1 ∧ u.2.1 = n) (fun u s' => va_P (dC, dI) vwCl (mw_ h0 q u.2.1 u.2.2 cI cZ u.1) s'.heap) A) 0 0 A := by
  refine Met.ofW (cc := cX8_comes) (maxL := 4) (ret := none) (by decide) rfl ?_
  intro p e s m args below meth c s₁ B hml hv
  obtain ⟨rfl, hP, hK⟩ := hv
  have hx := B.exec
  have hb := B.bytes
  have hr := B.returns
  have hts := atoms_spec (ws := wsX8_comes) B.pre
  have hown : s.vm.findClass RX8 = some m.cls := findClass_of_methodNamed B.named
  have hlocks := B.notSynchronized
  have hinX8 : ∀ w ∈ u_ws RX8 TX8 37, w ∈ wsX8_comes := by decide +kernel
  have hS : va_S A s.heap s.heap [] := va_S.rf
  have hl := lv_entry ([.ref h0, .int a1]) (n := 4) (Nat.le_of_ble_eq_true rfl)
  rw [lg_entry_eq]
  generalize (lg_sl ([.ref h0, .int a1]) ++ List.replicate (4 - (lg_sl ([.ref h0, .int a1])).length) Slot.unset).toArray = ls at hl ⊢
  have hl : lv_has ls 4 [(0, .ref h0), (1, .int a1)] := hl
  obtain ⟨H, hH, hP, hS⟩ : ∃ H, H = s.heap ∧ va_P (dC, dI) vwCl (mw_ h0 q n dl cI cZ F) H ∧ va_S A s.heap H [] := ⟨_, rfl, hP, hS⟩
  rw [← hH]
  generalize ([] : List Loc) = locs at hS ⊢
  refine lv_aload_n hx hb dX8_comes_0 rfl (lv_at hl 0 rfl) ?_
  refine va_get (D := (dC, dI)) (ci := 7) (v := .ref (q 18)) (C := RX8) (T := TX8) (N := 37) hx hb hts hinX8 hown hK hP 0 rfl rfl 18 (by decide) (hts (.fieldLink RX8 52 "FurPostsModel" "state" "[I") (by decide +kernel)) (fun _ h9 => h9) rfl dX8_comes_1 ?_
  refine lv_iload_n hx hb dX8_comes_4 rfl (lv_at hl 1 rfl) ?_
  refine lv_iconst (v := 1) hx hb dX8_comes_5 (by decide) ?_
  refine va_iast hx hb hK hP hD hS 15 0 rfl rfl (i := a1) (x := 1) hb0 dX8_comes_6 (fun H locs hP2 hD2 hS => ?_)
  obtain ⟨F1, hF1, hP, hD, hI1⟩ : ∃ F1 : Nat → Nat → Int32, F1 = va_up F 18 (upd (F 18) (Int32.toNatClampNeg a1) 1) ∧ va_P (dC, dI) vwCl (mw_ h0 q n dl cI cZ F1) H ∧ va_D A (mw_ h0 q n dl cI cZ F1) ∧ mi_ n F1 := ⟨_, rfl, hP2, hD2, hI⟩
  refine lv_aload_n hx hb dX8_comes_7 rfl (lv_at hl 0 rfl) ?_
  refine va_get (D := (dC, dI)) (ci := 7) (v := .ref (q 20)) (C := RX8) (T := TX8) (N := 37) hx hb hts hinX8 hown hK hP 0 rfl rfl 20 (by decide) (hts (.fieldLink RX8 58 "FurPostsModel" "cameOn" "[I") (by decide +kernel)) (fun _ h9 => h9) rfl dX8_comes_8 ?_
  refine lv_iload_n hx hb dX8_comes_11 rfl (lv_at hl 1 rfl) ?_
  refine lv_aload_n hx hb dX8_comes_12 rfl (lv_at hl 0 rfl) ?_
  refine va_get (D := (dC, dI)) (ci := 7) (v := .int (nI (n 0))) (C := RX8) (T := TX8) (N := 37) hx hb hts hinX8 hown hK hP 0 rfl rfl 0 (by decide) (hts (.fieldLink RX8 137 "FurPostsModel" "now" "I") (by decide +kernel)) (fun _ h9 => h9) rfl dX8_comes_13 ?_
  refine va_iast hx hb hK hP hD hS 17 0 rfl rfl (i := a1) (x := (nI (n 0))) hb0 dX8_comes_16 (fun H locs hP2 hD2 hS => ?_)
  obtain ⟨F2, hF2, hP, hD, hI2⟩ : ∃ F2 : Nat → Nat → Int32, F2 = va_up F1 20 (upd (F1 20) (Int32.toNatClampNeg a1) (nI (n 0))) ∧ va_P (dC, dI) vwCl (mw_ h0 q n dl cI cZ F2) H ∧ va_D A (mw_ h0 q n dl cI cZ F2) ∧ mi_ n F2 := ⟨_, rfl, hP2, hD2, hI1⟩
  refine lv_iconst (v := 0) hx hb dX8_comes_17 (by decide) ?_
  refine lv_istore_n (lv' := [(2, .int 0), (0, .ref h0), (1, .int a1)]) hx hb dX8_comes_18 rfl hl (by decide) rfl (fun ls hl => ?_)
  have key19 : ∀ (k j19 : Nat) (F19 : Nat → Nat → Int32) (dl : Int32) (H : Heap) (locs : List Loc) (ls : Array Slot), j19 + k = 6 → va_P (dC, dI) vwCl (mw_ h0 q n dl cI cZ F19) H → va_D A (mw_ h0 q n dl cI cZ F19) → mi_ n F19 → va_S A s.heap H locs → lv_has ls 4 [(2, .int (nI j19)), (0, .ref h0), (1, .int a1)] →
      W p l e (headSpec wsX8_comes ({ frames := 1, cells := 0, slots := 0, locals := 23 })).room s m [.ref h0, .int a1].toArray below meth c H locs 0 0 (MQ below (va_Qv (fun u : (Nat → Nat → Int32) × (Nat → Nat) × Int32 => va_D A (mw_ h0 q u.2.1 u.2.2 cI cZ u.1) ∧ mi_ u.2.1 u.1 ∧ nb_ u.2.1 ∧ u.2.1 = n) (fun u s' => va_P (dC, dI) vwCl (mw_ h0 q u.2.1 u.2.2 cI cZ u.1) s'.heap) A) [.ref h0, .int a1].toArray s 0 0 A) (F0 m 19 ls []) := by
    intro k
    induction k with
    | zero =>
      intro j19 F19 dl H locs ls hj hP hD hI19 hS hl
      have hj : j19 = 6 := by omega
      subst j19
      refine lv_iload_n hx hb dX8_comes_19 rfl (lv_at hl 0 rfl) ?_
      refine lv_bipush (v := 6) hx hb dX8_comes_20 (by decide) ?_
      refine lv_icmp_ge (tgt := 92) hx hb dX8_comes_22 (by decide) (fun h_3 => ?_) (fun h_3 => absurd (lp_ge0 (B := 6) rfl) h_3)
      refine lv_iconst (v := 0) hx hb dX8_comes_92 (by decide) ?_
      refine lv_istore_n (lv' := [(2, .int 0), (0, .ref h0), (1, .int a1)]) hx hb dX8_comes_93 rfl hl (by decide) rfl (fun ls hl => ?_)
      have key94 : ∀ (k j94 : Nat) (F94 : Nat → Nat → Int32) (dl : Int32) (H : Heap) (locs : List Loc) (ls : Array Slot), j94 + k = (n 4) → va_P (dC, dI) vwCl (mw_ h0 q n dl cI cZ F94) H → va_D A (mw_ h0 q n dl cI cZ F94) → mi_ n F94 → va_S A s.heap H locs → lv_has ls 4 [(2, .int (nI j94)), (0, .ref h0), (1, .int a1)] →
          W p l e (headSpec wsX8_comes ({ frames := 1, cells := 0, slots := 0, locals := 23 })).room s m [.ref h0, .int a1].toArray below meth c H locs 0 0 (MQ below (va_Qv (fun u : (Nat → Nat → Int32) × (Nat → Nat) × Int32 => va_D A (mw_ h0 q u.2.1 u.2.2 cI cZ u.1) ∧ mi_ u.2.1 u.1 ∧ nb_ u.2.1 ∧ u.2.1 = n) (fun u s' => va_P (dC, dI) vwCl (mw_ h0 q u.2.1 u.2.2 cI cZ u.1) s'.heap) A) [.ref h0, .int a1].toArray s 0 0 A) (F0 m 94 ls []) := by
        intro k
        induction k with
        | zero =>
          intro j94 F94 dl H locs ls hj hP hD hI94 hS hl
          have hj : j94 = (n 4) := by omega
          subst j94
          refine lv_iload_n hx hb dX8_comes_94 rfl (lv_at hl 0 rfl) ?_
          refine lv_aload_n hx hb dX8_comes_95 rfl (lv_at hl 1 rfl) ?_
          refine va_get (D := (dC, dI)) (ci := 7) (v := .int (nI (n 4))) (C := RX8) (T := TX8) (N := 37) hx hb hts hinX8 hown hK hP 0 rfl rfl 25 (by decide) (hts (.fieldLink RX8 144 "FurPostsModel" "letters" "I") (by decide +kernel)) (fun _ h9 => h9) rfl dX8_comes_96 ?_
          refine lv_icmp_ge (tgt := 160) hx hb dX8_comes_99 (by decide) (fun h_4 => ?_) (fun h_4 => absurd (lp_ge0 (B := (n 4)) rfl) h_4)
          exact W.vret hx hb hr (fun t9 ht hW => ⟨⟨(F94, n, dl), rfl, ⟨hD, hI94, hN, rfl⟩, by show va_P (dC, dI) vwCl _ t9.heap; rw [ht]; exact hP⟩, hS.F ht⟩) hS.2.2 dX8_comes_160
        | succ k ih94 =>
          intro j94 F94 dl H locs ls hj hP hD hI94 hS hl
          have hj94 : j94 < (n 4) := by omega
          refine lv_iload_n hx hb dX8_comes_94 rfl (lv_at hl 0 rfl) ?_
          refine lv_aload_n hx hb dX8_comes_95 rfl (lv_at hl 1 rfl) ?_
          refine va_get (D := (dC, dI)) (ci := 7) (v := .int (nI (n 4))) (C := RX8) (T := TX8) (N := 37) hx hb hts hinX8 hown hK hP 0 rfl rfl 25 (by decide) (hts (.fieldLink RX8 144 "FurPostsModel" "letters" "I") (by decide +kernel)) (fun _ h9 => h9) rfl dX8_comes_96 ?_
          refine lv_icmp_ge (tgt := 160) hx hb dX8_comes_99 (by decide) (fun h_5 => absurd h_5 (lp_ge (B := (n 4)) (by omega) (by omega) rfl)) (fun h_5 => ?_)
          refine lv_aload_n hx hb dX8_comes_102 rfl (lv_at hl 1 rfl) ?_
          refine va_get (D := (dC, dI)) (ci := 7) (v := .ref (q 28)) (C := RX8) (T := TX8) (N := 37) hx hb hts hinX8 hown hK hP 0 rfl rfl 28 (by decide) (hts (.fieldLink RX8 80 "FurPostsModel" "letterAt" "[I") (by decide +kernel)) (fun _ h9 => h9) rfl dX8_comes_103 ?_
          refine lv_iload_n hx hb dX8_comes_106 rfl (lv_at hl 0 rfl) ?_
          refine va_iald hx hb hK hP 24 0 rfl rfl (i := (nI j94)) (vp_in_nI (show j94 < 300 by omega) (by decide)) dX8_comes_107 ?_
          refine lv_sipush (v := 2000) hx hb dX8_comes_108 (by decide) ?_
          refine lv_iload_n hx hb dX8_comes_111 rfl (lv_at hl 2 rfl) ?_
          refine lv_iadd hx hb dX8_comes_112 ?_
          refine lv_icmp_eq (tgt := 119) hx hb dX8_comes_113 (by decide) (fun h_6 => ?_) (fun h_6 => ?_)
          · skip
            refine lv_aload_n hx hb dX8_comes_119 rfl (lv_at hl 1 rfl) ?_
            refine va_get (D := (dC, dI)) (ci := 7) (v := .ref (q 27)) (C := RX8) (T := TX8) (N := 37) hx hb hts hinX8 hown hK hP 0 rfl rfl 27 (by decide) (hts (.fieldLink RX8 77 "FurPostsModel" "letterTo" "[I") (by decide +kernel)) (fun _ h9 => h9) rfl dX8_comes_120 ?_
            refine lv_iload_n hx hb dX8_comes_123 rfl (lv_at hl 0 rfl) ?_
            refine va_iald hx hb hK hP 23 0 rfl rfl (i := (nI j94)) (vp_in_nI (show j94 < 300 by omega) (by decide)) dX8_comes_124 ?_
            refine lv_aload_n hx hb dX8_comes_125 rfl (lv_at hl 1 rfl) ?_
            refine va_get (D := (dC, dI)) (ci := 7) (v := .ref (q 15)) (C := RX8) (T := TX8) (N := 37) hx hb hts hinX8 hown hK hP 0 rfl rfl 15 (by decide) (hts (.fieldLink RX8 43 "FurPostsModel" "to" "[I") (by decide +kernel)) (fun _ h9 => h9) rfl dX8_comes_126 ?_
            refine lv_iload_n hx hb dX8_comes_129 rfl (lv_at hl 2 rfl) ?_
            refine va_iald hx hb hK hP 12 0 rfl rfl (i := a1) hb0 dX8_comes_130 ?_
            refine lv_icmp_ne (tgt := 142) hx hb dX8_comes_131 (by decide) (fun h_7 => ?_) (fun h_7 => ?_)
            · skip
              refine lv_aload_n hx hb dX8_comes_142 rfl (lv_at hl 1 rfl) ?_
              refine va_get (D := (dC, dI)) (ci := 7) (v := .ref (q 28)) (C := RX8) (T := TX8) (N := 37) hx hb hts hinX8 hown hK hP 0 rfl rfl 28 (by decide) (hts (.fieldLink RX8 80 "FurPostsModel" "letterAt" "[I") (by decide +kernel)) (fun _ h9 => h9) rfl dX8_comes_143 ?_
              refine lv_iload_n hx hb dX8_comes_146 rfl (lv_at hl 0 rfl) ?_
              refine lv_aload_n hx hb dX8_comes_147 rfl (lv_at hl 1 rfl) ?_
              refine va_get (D := (dC, dI)) (ci := 7) (v := .ref (q 15)) (C := RX8) (T := TX8) (N := 37) hx hb hts hinX8 hown hK hP 0 rfl rfl 15 (by decide) (hts (.fieldLink RX8 43 "FurPostsModel" "to" "[I") (by decide +kernel)) (fun _ h9 => h9) rfl dX8_comes_148 ?_
              refine lv_iload_n hx hb dX8_comes_151 rfl (lv_at hl 2 rfl) ?_
              refine va_iald hx hb hK hP 12 0 rfl rfl (i := a1) hb0 dX8_comes_152 ?_
              refine va_iast hx hb hK hP hD hS 24 0 rfl rfl (i := (nI j94)) (x := (F94 15 (Int32.toNatClampNeg a1))) (vp_in_nI (show j94 < 300 by omega) (by decide)) dX8_comes_153 (fun H locs hP2 hD2 hS => ?_)
              obtain ⟨F8, hF8, hP, hD, hI8⟩ : ∃ F8 : Nat → Nat → Int32, F8 = va_up F94 28 (upd (F94 28) (Int32.toNatClampNeg (nI j94)) (F94 15 (Int32.toNatClampNeg a1))) ∧ va_P (dC, dI) vwCl (mw_ h0 q n dl cI cZ F8) H ∧ va_D A (mw_ h0 q n dl cI cZ F8) ∧ mi_ n F8 := ⟨_, rfl, hP2, hD2, hI94⟩
              refine lv_iinc (v := (nI (j94 + 1))) (lv' := [(2, .int (nI (j94 + 1))), (0, .ref h0), (1, .int a1)]) hx hb dX8_comes_154 hl (k := 0) rfl (show nI j94 + 1 = nI (j94 + 1) from nI_1 j94) (by decide) rfl (fun ls hl => ?_)
              refine lv_goto (tgt := 94) hx hb dX8_comes_157 (by decide) ?_
              exact ih94 (j94 + 1) F8 dl H locs ls (by omega) hP hD hI8 hS (lv_sub hl [0, 1, 2] rfl)
            · skip
              refine lv_aload_n hx hb dX8_comes_134 rfl (lv_at hl 1 rfl) ?_
              refine lv_iload_n hx hb dX8_comes_135 rfl (lv_at hl 0 rfl) ?_
              refine va_callv (va_runV (As := [.int (nI j94)]) (rest := []) ⟨hx, hb, hml, hown, hts⟩ (m_X8_reads l dC dI h0 q n dl cI cZ F94 hI94 hN A hD (nI j94) (vp_in_nI (show j94 < 300 by omega) (by decide)) (by rw [nI_clamp (by omega)]; omega)) (cwV 1 hts gX8_comes_X8_reads rfl rfl rfl (by decide +kernel) ⟨Nat.le_of_ble_eq_true rfl, Nat.le_of_ble_eq_true rfl⟩) (pu_pre hP hK (ci := 7) (q0 := 0) rfl rfl) rfl rfl hl.1 rfl (lv_room (Nat.le_of_ble_eq_true rfl)) dX8_comes_136 ⟨Nat.le_of_ble_eq_true rfl, Nat.le_of_ble_eq_true rfl⟩) hS (fun _ _ h => h) (fun _ h => h) (fun u9 st9 H locs ht9 hvm9 hw9 hB9 hz9 hk9 hS => ?_)
              obtain ⟨F9, n9, d9⟩ := u9
              obtain ⟨hD9, hI9, hN9, hn9⟩ := hw9
              have hn9 : n9 = n := hn9
              obtain ⟨dl, hP, hD, hI9⟩ : ∃ dl : Int32, va_P (dC, dI) vwCl (mw_ h0 q n dl cI cZ F9) H ∧ va_D A (mw_ h0 q n dl cI cZ F9) ∧ mi_ n F9 := ⟨d9, by rw [← hn9, ← ht9]; exact hB9, by rw [← hn9]; exact hD9, by rw [← hn9]; exact hI9⟩
              refine lv_goto (tgt := 154) hx hb dX8_comes_139 (by decide) ?_
              refine lv_iinc (v := (nI (j94 + 1))) (lv' := [(2, .int (nI (j94 + 1))), (0, .ref h0), (1, .int a1)]) hx hb dX8_comes_154 hl (k := 0) rfl (show nI j94 + 1 = nI (j94 + 1) from nI_1 j94) (by decide) rfl (fun ls hl => ?_)
              refine lv_goto (tgt := 94) hx hb dX8_comes_157 (by decide) ?_
              exact ih94 (j94 + 1) F9 dl H locs ls (by omega) hP hD hI9 hS (lv_sub hl [0, 1, 2] rfl)
          · skip
            refine lv_goto (tgt := 154) hx hb dX8_comes_116 (by decide) ?_
            refine lv_iinc (v := (nI (j94 + 1))) (lv' := [(2, .int (nI (j94 + 1))), (0, .ref h0), (1, .int a1)]) hx hb dX8_comes_154 hl (k := 0) rfl (show nI j94 + 1 = nI (j94 + 1) from nI_1 j94) (by decide) rfl (fun ls hl => ?_)
            refine lv_goto (tgt := 94) hx hb dX8_comes_157 (by decide) ?_
            exact ih94 (j94 + 1) F94 dl H locs ls (by omega) hP hD hI94 hS (lv_sub hl [0, 1, 2] rfl)
      exact key94 (n 4) 0 F19 dl H locs ls (by omega) hP hD hI19 hS (lv_sub hl [0, 1, 2] rfl)
    | succ k ih19 =>
      intro j19 F19 dl H locs ls hj hP hD hI19 hS hl
      have hj19 : j19 < 6 := by omega
      refine lv_iload_n hx hb dX8_comes_19 rfl (lv_at hl 0 rfl) ?_
      refine lv_bipush (v := 6) hx hb dX8_comes_20 (by decide) ?_
      refine lv_icmp_ge (tgt := 92) hx hb dX8_comes_22 (by decide) (fun h_10 => absurd h_10 (lp_ge (B := 6) (by omega) (by omega) rfl)) (fun h_10 => ?_)
      refine lv_bipush (v := 6) hx hb dX8_comes_25 (by decide) ?_
      refine lv_iload_n hx hb dX8_comes_27 rfl (lv_at hl 2 rfl) ?_
      refine lv_imul hx hb dX8_comes_28 ?_
      refine lv_iload_n hx hb dX8_comes_29 rfl (lv_at hl 0 rfl) ?_
      refine lv_iadd hx hb dX8_comes_30 ?_
      refine lv_istore_n (lv' := [(3, .int ((6 * a1) + (nI j19))), (2, .int (nI j19)), (0, .ref h0), (1, .int a1)]) hx hb dX8_comes_31 rfl hl (by decide) rfl (fun ls hl => ?_)
      refine lv_aload_n hx hb dX8_comes_32 rfl (lv_at hl 2 rfl) ?_
      refine va_get (D := (dC, dI)) (ci := 7) (v := .ref (q 22)) (C := RX8) (T := TX8) (N := 37) hx hb hts hinX8 hown hK hP 0 rfl rfl 22 (by decide) (hts (.fieldLink RX8 64 "FurPostsModel" "has" "[I") (by decide +kernel)) (fun _ h9 => h9) rfl dX8_comes_33 ?_
      refine lv_iload_n hx hb dX8_comes_36 rfl (lv_at hl 0 rfl) ?_
      refine va_iald hx hb hK hP 19 0 rfl rfl (i := ((6 * a1) + (nI j19))) (vp_lin (a := 120) (b := 6) (m := 6) hb0 (vp_in_nI (show j19 < 6 by omega) (by decide)) rfl (by decide)) dX8_comes_37 ?_
      refine lv_aload_n hx hb dX8_comes_38 rfl (lv_at hl 2 rfl) ?_
      refine va_get (D := (dC, dI)) (ci := 7) (v := .ref (q 23)) (C := RX8) (T := TX8) (N := 37) hx hb hts hinX8 hown hK hP 0 rfl rfl 23 (by decide) (hts (.fieldLink RX8 67 "FurPostsModel" "sent" "[I") (by decide +kernel)) (fun _ h9 => h9) rfl dX8_comes_39 ?_
      refine lv_iload_n hx hb dX8_comes_42 rfl (lv_at hl 0 rfl) ?_
      refine va_iald hx hb hK hP 20 0 rfl rfl (i := ((6 * a1) + (nI j19))) (vp_lin (a := 120) (b := 6) (m := 6) hb0 (vp_in_nI (show j19 < 6 by omega) (by decide)) rfl (by decide)) dX8_comes_43 ?_
      refine lv_icmp_eq (tgt := 54) hx hb dX8_comes_44 (by decide) (fun h_11 => ?_) (fun h_11 => ?_)
      · skip
        refine lv_aload_n hx hb dX8_comes_54 rfl (lv_at hl 2 rfl) ?_
        refine va_get (D := (dC, dI)) (ci := 7) (v := .ref (q 2)) (C := RX8) (T := TX8) (N := 37) hx hb hts hinX8 hown hK hP 0 rfl rfl 2 (by decide) (hts (.fieldLink RX8 9 "FurPostsModel" "store" "[I") (by decide +kernel)) (fun _ h9 => h9) rfl dX8_comes_55 ?_
        refine lv_bipush (v := 6) hx hb dX8_comes_58 (by decide) ?_
        refine lv_aload_n hx hb dX8_comes_60 rfl (lv_at hl 2 rfl) ?_
        refine va_get (D := (dC, dI)) (ci := 7) (v := .ref (q 15)) (C := RX8) (T := TX8) (N := 37) hx hb hts hinX8 hown hK hP 0 rfl rfl 15 (by decide) (hts (.fieldLink RX8 43 "FurPostsModel" "to" "[I") (by decide +kernel)) (fun _ h9 => h9) rfl dX8_comes_61 ?_
        refine lv_iload_n hx hb dX8_comes_64 rfl (lv_at hl 3 rfl) ?_
        refine va_iald hx hb hK hP 12 0 rfl rfl (i := a1) hb0 dX8_comes_65 ?_
        refine lv_imul hx hb dX8_comes_66 ?_
        refine lv_iload_n hx hb dX8_comes_67 rfl (lv_at hl 1 rfl) ?_
        refine lv_iadd hx hb dX8_comes_68 ?_
        refine lv_dup2_11 hx hb dX8_comes_69 rfl rfl ?_
        refine va_iald hx hb hK hP 1 0 rfl rfl (i := ((6 * (F19 15 (Int32.toNatClampNeg a1))) + (nI j19))) (vp_lin (a := 8) (b := 6) (m := 6) (hI19.2.2.1 _) (vp_in_nI (show j19 < 6 by omega) (by decide)) rfl (by decide)) dX8_comes_70 ?_
        refine lv_aload_n hx hb dX8_comes_71 rfl (lv_at hl 2 rfl) ?_
        refine va_get (D := (dC, dI)) (ci := 7) (v := .ref (q 22)) (C := RX8) (T := TX8) (N := 37) hx hb hts hinX8 hown hK hP 0 rfl rfl 22 (by decide) (hts (.fieldLink RX8 64 "FurPostsModel" "has" "[I") (by decide +kernel)) (fun _ h9 => h9) rfl dX8_comes_72 ?_
        refine lv_iload_n hx hb dX8_comes_75 rfl (lv_at hl 0 rfl) ?_
        refine va_iald hx hb hK hP 19 0 rfl rfl (i := ((6 * a1) + (nI j19))) (vp_lin (a := 120) (b := 6) (m := 6) hb0 (vp_in_nI (show j19 < 6 by omega) (by decide)) rfl (by decide)) dX8_comes_76 ?_
        refine lv_iadd hx hb dX8_comes_77 ?_
        refine va_iast hx hb hK hP hD hS 1 0 rfl rfl (i := ((6 * (F19 15 (Int32.toNatClampNeg a1))) + (nI j19))) (x := ((F19 2 (Int32.toNatClampNeg ((6 * (F19 15 (Int32.toNatClampNeg a1))) + (nI j19)))) + (F19 22 (Int32.toNatClampNeg ((6 * a1) + (nI j19)))))) (vp_lin (a := 8) (b := 6) (m := 6) (hI19.2.2.1 _) (vp_in_nI (show j19 < 6 by omega) (by decide)) rfl (by decide)) dX8_comes_78 (fun H locs hP2 hD2 hS => ?_)
        obtain ⟨F12, hF12, hP, hD, hI12⟩ : ∃ F12 : Nat → Nat → Int32, F12 = va_up F19 2 (upd (F19 2) (Int32.toNatClampNeg ((6 * (F19 15 (Int32.toNatClampNeg a1))) + (nI j19))) ((F19 2 (Int32.toNatClampNeg ((6 * (F19 15 (Int32.toNatClampNeg a1))) + (nI j19)))) + (F19 22 (Int32.toNatClampNeg ((6 * a1) + (nI j19)))))) ∧ va_P (dC, dI) vwCl (mw_ h0 q n dl cI cZ F12) H ∧ va_D A (mw_ h0 q n dl cI cZ F12) ∧ mi_ n F12 := ⟨_, rfl, hP2, hD2, hI19⟩
        refine lv_aload_n hx hb dX8_comes_79 rfl (lv_at hl 2 rfl) ?_
        refine va_get (D := (dC, dI)) (ci := 7) (v := .ref (q 22)) (C := RX8) (T := TX8) (N := 37) hx hb hts hinX8 hown hK hP 0 rfl rfl 22 (by decide) (hts (.fieldLink RX8 64 "FurPostsModel" "has" "[I") (by decide +kernel)) (fun _ h9 => h9) rfl dX8_comes_80 ?_
        refine lv_iload_n hx hb dX8_comes_83 rfl (lv_at hl 0 rfl) ?_
        refine lv_iconst (v := 0) hx hb dX8_comes_84 (by decide) ?_
        refine va_iast hx hb hK hP hD hS 19 0 rfl rfl (i := ((6 * a1) + (nI j19))) (x := 0) (vp_lin (a := 120) (b := 6) (m := 6) hb0 (vp_in_nI (show j19 < 6 by omega) (by decide)) rfl (by decide)) dX8_comes_85 (fun H locs hP2 hD2 hS => ?_)
        obtain ⟨F13, hF13, hP, hD, hI13⟩ : ∃ F13 : Nat → Nat → Int32, F13 = va_up F12 22 (upd (F12 22) (Int32.toNatClampNeg ((6 * a1) + (nI j19))) 0) ∧ va_P (dC, dI) vwCl (mw_ h0 q n dl cI cZ F13) H ∧ va_D A (mw_ h0 q n dl cI cZ F13) ∧ mi_ n F13 := ⟨_, rfl, hP2, hD2, hI12⟩
        refine lv_iinc (v := (nI (j19 + 1))) (lv' := [(2, .int (nI (j19 + 1))), (3, .int ((6 * a1) + (nI j19))), (0, .ref h0), (1, .int a1)]) hx hb dX8_comes_86 hl (k := 1) rfl (show nI j19 + 1 = nI (j19 + 1) from nI_1 j19) (by decide) rfl (fun ls hl => ?_)
        refine lv_goto (tgt := 19) hx hb dX8_comes_89 (by decide) ?_
        exact ih19 (j19 + 1) F13 dl H locs ls (by omega) hP hD hI13 hS (lv_sub hl [0, 2, 3] rfl)
      · skip
        refine lv_aload_n hx hb dX8_comes_47 rfl (lv_at hl 2 rfl) ?_
        refine va_get (D := (dC, dI)) (ci := 7) (v := .ref (q 24)) (C := RX8) (T := TX8) (N := 37) hx hb hts hinX8 hown hK hP 0 rfl rfl 24 (by decide) (hts (.fieldLink RX8 70 "FurPostsModel" "isOther" "[Z") (by decide +kernel)) (fun _ h9 => h9) rfl dX8_comes_48 ?_
        refine lv_iload_n hx hb dX8_comes_51 rfl (lv_at hl 3 rfl) ?_
        refine lv_iconst (v := 1) hx hb dX8_comes_52 (by decide) ?_
        refine va_zast hx hb hK hP hD hS 21 1 rfl rfl (i := a1) (x := 1) hb0 dX8_comes_53 (fun H locs hP2 hD2 hS => ?_)
        obtain ⟨F14, hF14, hP, hD, hI14⟩ : ∃ F14 : Nat → Nat → Int32, F14 = va_up F19 24 (upd (F19 24) (Int32.toNatClampNeg a1) (vp_nar .boolean 1)) ∧ va_P (dC, dI) vwCl (mw_ h0 q n dl cI cZ F14) H ∧ va_D A (mw_ h0 q n dl cI cZ F14) ∧ mi_ n F14 := ⟨_, rfl, hP2, hD2, hI19⟩
        refine lv_aload_n hx hb dX8_comes_54 rfl (lv_at hl 2 rfl) ?_
        refine va_get (D := (dC, dI)) (ci := 7) (v := .ref (q 2)) (C := RX8) (T := TX8) (N := 37) hx hb hts hinX8 hown hK hP 0 rfl rfl 2 (by decide) (hts (.fieldLink RX8 9 "FurPostsModel" "store" "[I") (by decide +kernel)) (fun _ h9 => h9) rfl dX8_comes_55 ?_
        refine lv_bipush (v := 6) hx hb dX8_comes_58 (by decide) ?_
        refine lv_aload_n hx hb dX8_comes_60 rfl (lv_at hl 2 rfl) ?_
        refine va_get (D := (dC, dI)) (ci := 7) (v := .ref (q 15)) (C := RX8) (T := TX8) (N := 37) hx hb hts hinX8 hown hK hP 0 rfl rfl 15 (by decide) (hts (.fieldLink RX8 43 "FurPostsModel" "to" "[I") (by decide +kernel)) (fun _ h9 => h9) rfl dX8_comes_61 ?_
        refine lv_iload_n hx hb dX8_comes_64 rfl (lv_at hl 3 rfl) ?_
        refine va_iald hx hb hK hP 12 0 rfl rfl (i := a1) hb0 dX8_comes_65 ?_
        refine lv_imul hx hb dX8_comes_66 ?_
        refine lv_iload_n hx hb dX8_comes_67 rfl (lv_at hl 1 rfl) ?_
        refine lv_iadd hx hb dX8_comes_68 ?_
        refine lv_dup2_11 hx hb dX8_comes_69 rfl rfl ?_
        refine va_iald hx hb hK hP 1 0 rfl rfl (i := ((6 * (F14 15 (Int32.toNatClampNeg a1))) + (nI j19))) (vp_lin (a := 8) (b := 6) (m := 6) (hI14.2.2.1 _) (vp_in_nI (show j19 < 6 by omega) (by decide)) rfl (by decide)) dX8_comes_70 ?_
        refine lv_aload_n hx hb dX8_comes_71 rfl (lv_at hl 2 rfl) ?_
        refine va_get (D := (dC, dI)) (ci := 7) (v := .ref (q 22)) (C := RX8) (T := TX8) (N := 37) hx hb hts hinX8 hown hK hP 0 rfl rfl 22 (by decide) (hts (.fieldLink RX8 64 "FurPostsModel" "has" "[I") (by decide +kernel)) (fun _ h9 => h9) rfl dX8_comes_72 ?_
        refine lv_iload_n hx hb dX8_comes_75 rfl (lv_at hl 0 rfl) ?_
        refine va_iald hx hb hK hP 19 0 rfl rfl (i := ((6 * a1) + (nI j19))) (vp_lin (a := 120) (b := 6) (m := 6) hb0 (vp_in_nI (show j19 < 6 by omega) (by decide)) rfl (by decide)) dX8_comes_76 ?_
        refine lv_iadd hx hb dX8_comes_77 ?_
        refine va_iast hx hb hK hP hD hS 1 0 rfl rfl (i := ((6 * (F14 15 (Int32.toNatClampNeg a1))) + (nI j19))) (x := ((F14 2 (Int32.toNatClampNeg ((6 * (F14 15 (Int32.toNatClampNeg a1))) + (nI j19)))) + (F14 22 (Int32.toNatClampNeg ((6 * a1) + (nI j19)))))) (vp_lin (a := 8) (b := 6) (m := 6) (hI14.2.2.1 _) (vp_in_nI (show j19 < 6 by omega) (by decide)) rfl (by decide)) dX8_comes_78 (fun H locs hP2 hD2 hS => ?_)
        obtain ⟨F15, hF15, hP, hD, hI15⟩ : ∃ F15 : Nat → Nat → Int32, F15 = va_up F14 2 (upd (F14 2) (Int32.toNatClampNeg ((6 * (F14 15 (Int32.toNatClampNeg a1))) + (nI j19))) ((F14 2 (Int32.toNatClampNeg ((6 * (F14 15 (Int32.toNatClampNeg a1))) + (nI j19)))) + (F14 22 (Int32.toNatClampNeg ((6 * a1) + (nI j19)))))) ∧ va_P (dC, dI) vwCl (mw_ h0 q n dl cI cZ F15) H ∧ va_D A (mw_ h0 q n dl cI cZ F15) ∧ mi_ n F15 := ⟨_, rfl, hP2, hD2, hI14⟩
        refine lv_aload_n hx hb dX8_comes_79 rfl (lv_at hl 2 rfl) ?_
        refine va_get (D := (dC, dI)) (ci := 7) (v := .ref (q 22)) (C := RX8) (T := TX8) (N := 37) hx hb hts hinX8 hown hK hP 0 rfl rfl 22 (by decide) (hts (.fieldLink RX8 64 "FurPostsModel" "has" "[I") (by decide +kernel)) (fun _ h9 => h9) rfl dX8_comes_80 ?_
        refine lv_iload_n hx hb dX8_comes_83 rfl (lv_at hl 0 rfl) ?_
        refine lv_iconst (v := 0) hx hb dX8_comes_84 (by decide) ?_
        refine va_iast hx hb hK hP hD hS 19 0 rfl rfl (i := ((6 * a1) + (nI j19))) (x := 0) (vp_lin (a := 120) (b := 6) (m := 6) hb0 (vp_in_nI (show j19 < 6 by omega) (by decide)) rfl (by decide)) dX8_comes_85 (fun H locs hP2 hD2 hS => ?_)
        obtain ⟨F16, hF16, hP, hD, hI16⟩ : ∃ F16 : Nat → Nat → Int32, F16 = va_up F15 22 (upd (F15 22) (Int32.toNatClampNeg ((6 * a1) + (nI j19))) 0) ∧ va_P (dC, dI) vwCl (mw_ h0 q n dl cI cZ F16) H ∧ va_D A (mw_ h0 q n dl cI cZ F16) ∧ mi_ n F16 := ⟨_, rfl, hP2, hD2, hI15⟩
        refine lv_iinc (v := (nI (j19 + 1))) (lv' := [(2, .int (nI (j19 + 1))), (3, .int ((6 * a1) + (nI j19))), (0, .ref h0), (1, .int a1)]) hx hb dX8_comes_86 hl (k := 1) rfl (show nI j19 + 1 = nI (j19 + 1) from nI_1 j19) (by decide) rfl (fun ls hl => ?_)
        refine lv_goto (tgt := 19) hx hb dX8_comes_89 (by decide) ?_
        exact ih19 (j19 + 1) F16 dl H locs ls (by omega) hP hD hI16 hS (lv_sub hl [0, 2, 3] rfl)
  exact key19 6 0 F2 dl H locs ls (by omega) hP hD hI2 hS (lv_sub hl [0, 1, 2] rfl)

set_option maxHeartbeats 4000000 in
set_option maxRecDepth 100000 in
theorem m_X8_go (l : Launch) (dC : Nat → ClassId) (dI : Nat → Nat → Nat) (h0 : Nat) (q n : Nat → Nat) (dl : Int32) (cI cZ : ClassId) (F : Nat → Nat → Int32) (hI : mi_ n F) (hN : nb_ n) (A : Nat → Prop) (hD : va_D A (mw_ h0 q n dl cI cZ F)) (a1 : Int32) : Met l yX8_go wsX8_go ({ frames := 2, cells := 0, slots := 0, locals := 46 }) (va_Pc [.ref h0, .int a1] (pu_P (dC, dI) vwCl (mt_ cI cZ) (mw_ h0 q n dl cI cZ F))) (va_Qi (fun r (u : (Nat → Nat → Int32) × (Nat → Nat) × Int32) => r = go_r (n 0) a1 ∧ va_D A (mw_ h0 q u.2.1 u.2.2 cI cZ u.1) ∧ mi_ u.2.1 u.1 ∧ nb_ u.2.1 ∧ u.2.1 = va_up n 0 (go_n (n 0) a1)) (fun u s' => va_P (dC, dI) vwCl (mw_ h0 q u.2.1 u.2.2 cI cZ u.1) s'.heap) A) 0 0 A := by
  refine Met.ofW (cc := cX8_go) (maxL := 4) (ret := (some .int)) (by decide) rfl ?_
  intro p e s m args below meth c s₁ B hml hv
  obtain ⟨rfl, hP, hK⟩ := hv
  have hx := B.exec
  have hb := B.bytes
  have hr := B.returns
  have hts := atoms_spec (ws := wsX8_go) B.pre
  have hown : s.vm.findClass RX8 = some m.cls := findClass_of_methodNamed B.named
  have hlocks := B.notSynchronized
  have hinX8 : ∀ w ∈ u_ws RX8 TX8 37, w ∈ wsX8_go := by decide +kernel
  have hS : va_S A s.heap s.heap [] := va_S.rf
  have hl := lv_entry ([.ref h0, .int a1]) (n := 4) (Nat.le_of_ble_eq_true rfl)
  rw [lg_entry_eq]
  generalize (lg_sl ([.ref h0, .int a1]) ++ List.replicate (4 - (lg_sl ([.ref h0, .int a1])).length) Slot.unset).toArray = ls at hl ⊢
  have hl : lv_has ls 4 [(0, .ref h0), (1, .int a1)] := hl
  obtain ⟨H, hH, hP, hS⟩ : ∃ H, H = s.heap ∧ va_P (dC, dI) vwCl (mw_ h0 q n dl cI cZ F) H ∧ va_S A s.heap H [] := ⟨_, rfl, hP, hS⟩
  rw [← hH]
  generalize ([] : List Loc) = locs at hS ⊢
  refine lv_iload_n hx hb dX8_go_0 rfl (lv_at hl 1 rfl) ?_
  refine lv_iconst (v := 0) hx hb dX8_go_1 (by decide) ?_
  refine lv_sipush (v := 400) hx hb dX8_go_2 (by decide) ?_
  refine pu_call (va_runS (As := [.int a1, .int 0, .int 400]) (rest := []) ⟨hx, hb, hml, hown, hts⟩ (c_X8_in l a1 0 400) (va_cwS 3 hts gX8_go_X8_in rfl rfl rfl (by decide +kernel) ⟨Nat.le_of_ble_eq_true rfl, Nat.le_of_ble_eq_true rfl⟩) pu_preS rfl rfl hl.1 rfl (lv_room (Nat.le_of_ble_eq_true rfl)) dX8_go_5 ⟨Nat.le_of_ble_eq_true rfl, Nat.le_of_ble_eq_true rfl⟩) ?_
  refine lv_if_ne (tgt := 13) hx hb dX8_go_8 (by decide) (fun h_1 => ?_) (fun h_1 => ?_)
  · skip
    obtain ⟨M, hM, rfl⟩ := sp_nI h_1 (n := 400) (by decide)
    refine lv_iconst (v := 0) hx hb dX8_go_13 (by decide) ?_
    refine lv_istore_n (lv' := [(2, .int 0), (0, .ref h0), (1, .int (nI M))]) hx hb dX8_go_14 rfl hl (by decide) rfl (fun ls hl => ?_)
    have key15 : ∀ (k j15 : Nat) (nz : Nat → Nat) (F15 : Nat → Nat → Int32) (dl : Int32) (H : Heap) (locs : List Loc) (ls : Array Slot), j15 + k = M → nz = va_up n 0 (n 0 + j15) → nb_ nz → va_P (dC, dI) vwCl (mw_ h0 q nz dl cI cZ F15) H → va_D A (mw_ h0 q nz dl cI cZ F15) → mi_ nz F15 → va_S A s.heap H locs → lv_has ls 4 [(2, .int (nI j15)), (0, .ref h0), (1, .int (nI M))] →
        W p l e (headSpec wsX8_go ({ frames := 2, cells := 0, slots := 0, locals := 46 })).room s m [.ref h0, .int (nI M)].toArray below meth c H locs 0 0 (MQ below (va_Qi (fun r (u : (Nat → Nat → Int32) × (Nat → Nat) × Int32) => r = go_r (n 0) (nI M) ∧ va_D A (mw_ h0 q u.2.1 u.2.2 cI cZ u.1) ∧ mi_ u.2.1 u.1 ∧ nb_ u.2.1 ∧ u.2.1 = va_up n 0 (go_n (n 0) (nI M))) (fun u s' => va_P (dC, dI) vwCl (mw_ h0 q u.2.1 u.2.2 cI cZ u.1) s'.heap) A) [.ref h0, .int (nI M)].toArray s 0 0 A) (F0 m 15 ls []) := by
      intro k
      induction k with
      | zero =>
        intro j15 nz F15 dl H locs ls hj hnz hN hP hD hI15 hS hl
        have hj : j15 = M := by omega
        subst j15
        refine lv_iload_n hx hb dX8_go_15 rfl (lv_at hl 0 rfl) ?_
        refine lv_iload_n hx hb dX8_go_16 rfl (lv_at hl 2 rfl) ?_
        refine lv_icmp_ge (tgt := 115) hx hb dX8_go_17 (by decide) (fun h_2 => ?_) (fun h_2 => absurd (lp_ge0 (B := M) rfl) h_2)
        refine lv_aload_n hx hb dX8_go_115 rfl (lv_at hl 1 rfl) ?_
        refine va_get (D := (dC, dI)) (ci := 7) (v := .int (nI (nz 0))) (C := RX8) (T := TX8) (N := 37) hx hb hts hinX8 hown hK hP 0 rfl rfl 0 (by decide) (hts (.fieldLink RX8 137 "FurPostsModel" "now" "I") (by decide +kernel)) (fun _ h9 => h9) rfl dX8_go_116 ?_
        exact W.iret (v := (nI (nz 0))) hx hb hr (fun t9 ht hW => ⟨⟨(nI (nz 0)), (F15, nz, dl), rfl, ⟨(go_end h_1 hM hnz hN (Nat.le_refl _) (Or.inl rfl)).1, hD, hI15, hN, (go_end h_1 hM hnz hN (Nat.le_refl _) (Or.inl rfl)).2⟩, by show va_P (dC, dI) vwCl _ t9.heap; rw [ht]; exact hP⟩, hS.F ht⟩) hS.2.2 dX8_go_119
      | succ k ih15 =>
        intro j15 nz F15 dl H locs ls hj hnz hN hP hD hI15 hS hl
        have hj15 : j15 < M := by omega
        refine lv_iload_n hx hb dX8_go_15 rfl (lv_at hl 0 rfl) ?_
        refine lv_iload_n hx hb dX8_go_16 rfl (lv_at hl 2 rfl) ?_
        refine lv_icmp_ge (tgt := 115) hx hb dX8_go_17 (by decide) (fun h_3 => absurd h_3 (lp_ge (B := M) (by omega) (by omega) rfl)) (fun h_3 => ?_)
        refine lv_aload_n hx hb dX8_go_20 rfl (lv_at hl 1 rfl) ?_
        refine va_get (D := (dC, dI)) (ci := 7) (v := .int (nI (nz 0))) (C := RX8) (T := TX8) (N := 37) hx hb hts hinX8 hown hK hP 0 rfl rfl 0 (by decide) (hts (.fieldLink RX8 137 "FurPostsModel" "now" "I") (by decide +kernel)) (fun _ h9 => h9) rfl dX8_go_21 ?_
        refine lv_sipush (v := 3000) hx hb dX8_go_24 (by decide) ?_
        refine lv_icmp_ge (tgt := 115) hx hb dX8_go_27 (by decide) (fun h_4 => ?_) (fun h_4 => ?_)
        · skip
          refine lv_aload_n hx hb dX8_go_115 rfl (lv_at hl 1 rfl) ?_
          refine va_get (D := (dC, dI)) (ci := 7) (v := .int (nI (nz 0))) (C := RX8) (T := TX8) (N := 37) hx hb hts hinX8 hown hK hP 0 rfl rfl 0 (by decide) (hts (.fieldLink RX8 137 "FurPostsModel" "now" "I") (by decide +kernel)) (fun _ h9 => h9) rfl dX8_go_116 ?_
          exact W.iret (v := (nI (nz 0))) hx hb hr (fun t9 ht hW => ⟨⟨(nI (nz 0)), (F15, nz, dl), rfl, ⟨(go_end h_1 hM hnz hN (by omega) (Or.inr (nI_linv3 h_4 hnz hN))).1, hD, hI15, hN, (go_end h_1 hM hnz hN (by omega) (Or.inr (nI_linv3 h_4 hnz hN))).2⟩, by show va_P (dC, dI) vwCl _ t9.heap; rw [ht]; exact hP⟩, hS.F ht⟩) hS.2.2 dX8_go_119
        · skip
          have h3000 := h_4
          refine lv_iconst (v := 0) hx hb dX8_go_30 (by decide) ?_
          refine lv_istore_n (lv' := [(3, .int 0), (2, .int (nI j15)), (0, .ref h0), (1, .int (nI M))]) hx hb dX8_go_31 rfl hl (by decide) rfl (fun ls hl => ?_)
          have key32 : ∀ (k j32 : Nat) (F32 : Nat → Nat → Int32) (dl : Int32) (H : Heap) (locs : List Loc) (ls : Array Slot), j32 + k = (nz 3) → va_P (dC, dI) vwCl (mw_ h0 q nz dl cI cZ F32) H → va_D A (mw_ h0 q nz dl cI cZ F32) → mi_ nz F32 → va_S A s.heap H locs → lv_has ls 4 [(3, .int (nI j32)), (2, .int (nI j15)), (0, .ref h0), (1, .int (nI M))] →
              W p l e (headSpec wsX8_go ({ frames := 2, cells := 0, slots := 0, locals := 46 })).room s m [.ref h0, .int (nI M)].toArray below meth c H locs 0 0 (MQ below (va_Qi (fun r (u : (Nat → Nat → Int32) × (Nat → Nat) × Int32) => r = go_r (n 0) (nI M) ∧ va_D A (mw_ h0 q u.2.1 u.2.2 cI cZ u.1) ∧ mi_ u.2.1 u.1 ∧ nb_ u.2.1 ∧ u.2.1 = va_up n 0 (go_n (n 0) (nI M))) (fun u s' => va_P (dC, dI) vwCl (mw_ h0 q u.2.1 u.2.2 cI cZ u.1) s'.heap) A) [.ref h0, .int (nI M)].toArray s 0 0 A) (F0 m 32 ls []) := by
            intro k
            induction k with
            | zero =>
              intro j32 F32 dl H locs ls hj hP hD hI32 hS hl
              have hj : j32 = (nz 3) := by omega
              subst j32
              refine lv_iload_n hx hb dX8_go_32 rfl (lv_at hl 0 rfl) ?_
              refine lv_aload_n hx hb dX8_go_33 rfl (lv_at hl 2 rfl) ?_
              refine va_get (D := (dC, dI)) (ci := 7) (v := .int (nI (nz 3))) (C := RX8) (T := TX8) (N := 37) hx hb hts hinX8 hown hK hP 0 rfl rfl 13 (by decide) (hts (.fieldLink RX8 112 "FurPostsModel" "canoes" "I") (by decide +kernel)) (fun _ h9 => h9) rfl dX8_go_34 ?_
              refine lv_icmp_ge (tgt := 99) hx hb dX8_go_37 (by decide) (fun h_5 => ?_) (fun h_5 => absurd (lp_ge0 (B := (nz 3)) rfl) h_5)
              refine lv_aload_n hx hb dX8_go_99 rfl (lv_at hl 2 rfl) ?_
              refine lv_dup hx hb dX8_go_100 rfl ?_
              refine va_get (D := (dC, dI)) (ci := 7) (v := .int (nI (nz 0))) (C := RX8) (T := TX8) (N := 37) hx hb hts hinX8 hown hK hP 0 rfl rfl 0 (by decide) (hts (.fieldLink RX8 137 "FurPostsModel" "now" "I") (by decide +kernel)) (fun _ h9 => h9) rfl dX8_go_101 ?_
              refine lv_iconst (v := 1) hx hb dX8_go_104 (by decide) ?_
              refine lv_iadd hx hb dX8_go_105 ?_
              rw [nI_1]
              refine va_put (D := (dC, dI)) (ci := 7) (v := .int (nI ((nz 0) + 1))) (ty := .int) (C := RX8) (T := TX8) (N := 37) hx hb hts hinX8 tyX8 tyX8_ok nmX8 hown hK hP hD hS 0 rfl rfl 0 (by decide) (hts (.fieldLink RX8 137 "FurPostsModel" "now" "I") (by decide +kernel)) (fun _ h9 => h9) rfl (by decide +kernel) rfl rfl (Nat.le_of_ble_eq_true rfl) dX8_go_106 (fun H locs hP2 hD2 hS => ?_)
              obtain ⟨n6, hn6, hP, hD⟩ : ∃ n6 : Nat → Nat, n6 = va_up nz 0 (((nz 0) + 1)) ∧ va_P (dC, dI) vwCl (mw_ h0 q n6 dl cI cZ F32) H ∧ va_D A (mw_ h0 q n6 dl cI cZ F32) := ⟨_, rfl, hP2, hD2⟩
              have hN : nb_ n6 := by rw [hn6]; exact ⟨(show ((nz 0) + 1) ≤ 3000 by have := nI_linv (B := 3000) h3000 rfl (by omega); omega), hN.2.1, hN.2.2.1, hN.2.2.2.1, hN.2.2.2.2⟩
              have hIn6 : mi_ n6 F32 := by rw [hn6]; exact hI32
              refine lv_iinc (v := (nI (j15 + 1))) (lv' := [(2, .int (nI (j15 + 1))), (3, .int (nI (nz 3))), (0, .ref h0), (1, .int (nI M))]) hx hb dX8_go_109 hl (k := 1) rfl (show nI j15 + 1 = nI (j15 + 1) from nI_1 j15) (by decide) rfl (fun ls hl => ?_)
              refine lv_goto (tgt := 15) hx hb dX8_go_112 (by decide) ?_
              exact ih15 (j15 + 1) n6 F32 dl H locs ls (by omega) (by rw [hn6, hnz, bx_uu]; rfl) hN hP hD hIn6 hS (lv_sub hl [0, 2, 3] rfl)
            | succ k ih32 =>
              intro j32 F32 dl H locs ls hj hP hD hI32 hS hl
              have hj32 : j32 < (nz 3) := by omega
              refine lv_iload_n hx hb dX8_go_32 rfl (lv_at hl 0 rfl) ?_
              refine lv_aload_n hx hb dX8_go_33 rfl (lv_at hl 2 rfl) ?_
              refine va_get (D := (dC, dI)) (ci := 7) (v := .int (nI (nz 3))) (C := RX8) (T := TX8) (N := 37) hx hb hts hinX8 hown hK hP 0 rfl rfl 13 (by decide) (hts (.fieldLink RX8 112 "FurPostsModel" "canoes" "I") (by decide +kernel)) (fun _ h9 => h9) rfl dX8_go_34 ?_
              refine lv_icmp_ge (tgt := 99) hx hb dX8_go_37 (by decide) (fun h_7 => absurd h_7 (lp_ge (B := (nz 3)) (by omega) (by omega) rfl)) (fun h_7 => ?_)
              refine lv_aload_n hx hb dX8_go_40 rfl (lv_at hl 2 rfl) ?_
              refine va_get (D := (dC, dI)) (ci := 7) (v := .ref (q 18)) (C := RX8) (T := TX8) (N := 37) hx hb hts hinX8 hown hK hP 0 rfl rfl 18 (by decide) (hts (.fieldLink RX8 52 "FurPostsModel" "state" "[I") (by decide +kernel)) (fun _ h9 => h9) rfl dX8_go_41 ?_
              refine lv_iload_n hx hb dX8_go_44 rfl (lv_at hl 0 rfl) ?_
              refine va_iald hx hb hK hP 15 0 rfl rfl (i := (nI j32)) (vp_in_nI (show j32 < 120 by omega) (by decide)) dX8_go_45 ?_
              refine lv_if_ne (tgt := 93) hx hb dX8_go_46 (by decide) (fun h_8 => ?_) (fun h_8 => ?_)
              · skip
                refine lv_iinc (v := (nI (j32 + 1))) (lv' := [(3, .int (nI (j32 + 1))), (2, .int (nI j15)), (0, .ref h0), (1, .int (nI M))]) hx hb dX8_go_93 hl (k := 0) rfl (show nI j32 + 1 = nI (j32 + 1) from nI_1 j32) (by decide) rfl (fun ls hl => ?_)
                refine lv_goto (tgt := 32) hx hb dX8_go_96 (by decide) ?_
                exact ih32 (j32 + 1) F32 dl H locs ls (by omega) hP hD hI32 hS (lv_sub hl [0, 1, 2, 3] rfl)
              · skip
                refine lv_aload_n hx hb dX8_go_49 rfl (lv_at hl 2 rfl) ?_
                refine lv_aload_n hx hb dX8_go_50 rfl (lv_at hl 2 rfl) ?_
                refine va_get (D := (dC, dI)) (ci := 7) (v := .ref (q 16)) (C := RX8) (T := TX8) (N := 37) hx hb hts hinX8 hown hK hP 0 rfl rfl 16 (by decide) (hts (.fieldLink RX8 46 "FurPostsModel" "wayOf" "[I") (by decide +kernel)) (fun _ h9 => h9) rfl dX8_go_51 ?_
                refine lv_iload_n hx hb dX8_go_54 rfl (lv_at hl 0 rfl) ?_
                refine va_iald hx hb hK hP 13 0 rfl rfl (i := (nI j32)) (vp_in_nI (show j32 < 120 by omega) (by decide)) dX8_go_55 ?_
                refine lv_aload_n hx hb dX8_go_56 rfl (lv_at hl 2 rfl) ?_
                refine va_get (D := (dC, dI)) (ci := 7) (v := .int (nI (nz 0))) (C := RX8) (T := TX8) (N := 37) hx hb hts hinX8 hown hK hP 0 rfl rfl 0 (by decide) (hts (.fieldLink RX8 137 "FurPostsModel" "now" "I") (by decide +kernel)) (fun _ h9 => h9) rfl dX8_go_57 ?_
                refine pg_call (va_runV (As := [.int (F32 16 (Int32.toNatClampNeg (nI j32))), .int (nI (nz 0))]) (rest := []) ⟨hx, hb, hml, hown, hts⟩ (k_X8_isOpen l dC dI h0 q nz dl cI cZ F32 hI32 hN (F32 16 (Int32.toNatClampNeg (nI j32))) (nI (nz 0)) (hI32.2.2.2.1 _)) (cwV 2 hts gX8_go_X8_isOpen rfl rfl rfl (by decide +kernel) ⟨Nat.le_of_ble_eq_true rfl, Nat.le_of_ble_eq_true rfl⟩) (pu_pre hP hK (ci := 7) (q0 := 0) rfl rfl) rfl rfl hl.1 rfl (lv_room (Nat.le_of_ble_eq_true rfl)) dX8_go_60 ⟨Nat.le_of_ble_eq_true rfl, Nat.le_of_ble_eq_true rfl⟩) (fun w9 hw9 => ?_)
                obtain ⟨r9, rfl, hg9⟩ := hw9
                refine lv_if_ne (tgt := 69) hx hb dX8_go_63 (by decide) (fun h_10 => ?_) (fun h_10 => ?_)
                · skip
                  refine lv_aload_n hx hb dX8_go_69 rfl (lv_at hl 2 rfl) ?_
                  refine va_get (D := (dC, dI)) (ci := 7) (v := .ref (q 17)) (C := RX8) (T := TX8) (N := 37) hx hb hts hinX8 hown hK hP 0 rfl rfl 17 (by decide) (hts (.fieldLink RX8 49 "FurPostsModel" "toGo" "[I") (by decide +kernel)) (fun _ h9 => h9) rfl dX8_go_70 ?_
                  refine lv_iload_n hx hb dX8_go_73 rfl (lv_at hl 0 rfl) ?_
                  refine lv_dup2_11 hx hb dX8_go_74 rfl rfl ?_
                  refine va_iald hx hb hK hP 14 0 rfl rfl (i := (nI j32)) (vp_in_nI (show j32 < 120 by omega) (by decide)) dX8_go_75 ?_
                  refine lv_iconst (v := 1) hx hb dX8_go_76 (by decide) ?_
                  refine lv_isub hx hb dX8_go_77 ?_
                  refine va_iast hx hb hK hP hD hS 14 0 rfl rfl (i := (nI j32)) (x := ((F32 17 (Int32.toNatClampNeg (nI j32))) - 1)) (vp_in_nI (show j32 < 120 by omega) (by decide)) dX8_go_78 (fun H locs hP2 hD2 hS => ?_)
                  obtain ⟨F11, hF11, hP, hD, hI11⟩ : ∃ F11 : Nat → Nat → Int32, F11 = va_up F32 17 (upd (F32 17) (Int32.toNatClampNeg (nI j32)) ((F32 17 (Int32.toNatClampNeg (nI j32))) - 1)) ∧ va_P (dC, dI) vwCl (mw_ h0 q nz dl cI cZ F11) H ∧ va_D A (mw_ h0 q nz dl cI cZ F11) ∧ mi_ nz F11 := ⟨_, rfl, hP2, hD2, hI32⟩
                  refine lv_aload_n hx hb dX8_go_79 rfl (lv_at hl 2 rfl) ?_
                  refine va_get (D := (dC, dI)) (ci := 7) (v := .ref (q 17)) (C := RX8) (T := TX8) (N := 37) hx hb hts hinX8 hown hK hP 0 rfl rfl 17 (by decide) (hts (.fieldLink RX8 49 "FurPostsModel" "toGo" "[I") (by decide +kernel)) (fun _ h9 => h9) rfl dX8_go_80 ?_
                  refine lv_iload_n hx hb dX8_go_83 rfl (lv_at hl 0 rfl) ?_
                  refine va_iald hx hb hK hP 14 0 rfl rfl (i := (nI j32)) (vp_in_nI (show j32 < 120 by omega) (by decide)) dX8_go_84 ?_
                  refine lv_if_ne (tgt := 93) hx hb dX8_go_85 (by decide) (fun h_12 => ?_) (fun h_12 => ?_)
                  · skip
                    refine lv_iinc (v := (nI (j32 + 1))) (lv' := [(3, .int (nI (j32 + 1))), (2, .int (nI j15)), (0, .ref h0), (1, .int (nI M))]) hx hb dX8_go_93 hl (k := 0) rfl (show nI j32 + 1 = nI (j32 + 1) from nI_1 j32) (by decide) rfl (fun ls hl => ?_)
                    refine lv_goto (tgt := 32) hx hb dX8_go_96 (by decide) ?_
                    exact ih32 (j32 + 1) F11 dl H locs ls (by omega) hP hD hI11 hS (lv_sub hl [0, 1, 2, 3] rfl)
                  · skip
                    refine lv_aload_n hx hb dX8_go_88 rfl (lv_at hl 2 rfl) ?_
                    refine lv_iload_n hx hb dX8_go_89 rfl (lv_at hl 0 rfl) ?_
                    refine va_callv (va_runV (As := [.int (nI j32)]) (rest := []) ⟨hx, hb, hml, hown, hts⟩ (m_X8_comes l dC dI h0 q nz dl cI cZ F11 hI11 hN A hD (nI j32) (vp_in_nI (show j32 < 120 by omega) (by decide))) (cwV 1 hts gX8_go_X8_comes rfl rfl rfl (by decide +kernel) ⟨Nat.le_of_ble_eq_true rfl, Nat.le_of_ble_eq_true rfl⟩) (pu_pre hP hK (ci := 7) (q0 := 0) rfl rfl) rfl rfl hl.1 rfl (lv_room (Nat.le_of_ble_eq_true rfl)) dX8_go_90 ⟨Nat.le_of_ble_eq_true rfl, Nat.le_of_ble_eq_true rfl⟩) hS (fun _ _ h => h) (fun _ h => h) (fun u13 st13 H locs ht13 hvm13 hw13 hB13 hz13 hk13 hS => ?_)
                    obtain ⟨F13, n13, d13⟩ := u13
                    obtain ⟨hD13, hI13, hN13, hn13⟩ := hw13
                    have hn13 : n13 = nz := hn13
                    obtain ⟨dl, hP, hD, hI13⟩ : ∃ dl : Int32, va_P (dC, dI) vwCl (mw_ h0 q nz dl cI cZ F13) H ∧ va_D A (mw_ h0 q nz dl cI cZ F13) ∧ mi_ nz F13 := ⟨d13, by rw [← hn13, ← ht13]; exact hB13, by rw [← hn13]; exact hD13, by rw [← hn13]; exact hI13⟩
                    refine lv_iinc (v := (nI (j32 + 1))) (lv' := [(3, .int (nI (j32 + 1))), (2, .int (nI j15)), (0, .ref h0), (1, .int (nI M))]) hx hb dX8_go_93 hl (k := 0) rfl (show nI j32 + 1 = nI (j32 + 1) from nI_1 j32) (by decide) rfl (fun ls hl => ?_)
                    refine lv_goto (tgt := 32) hx hb dX8_go_96 (by decide) ?_
                    exact ih32 (j32 + 1) F13 dl H locs ls (by omega) hP hD hI13 hS (lv_sub hl [0, 1, 2, 3] rfl)
                · skip
                  refine lv_goto (tgt := 93) hx hb dX8_go_66 (by decide) ?_
                  refine lv_iinc (v := (nI (j32 + 1))) (lv' := [(3, .int (nI (j32 + 1))), (2, .int (nI j15)), (0, .ref h0), (1, .int (nI M))]) hx hb dX8_go_93 hl (k := 0) rfl (show nI j32 + 1 = nI (j32 + 1) from nI_1 j32) (by decide) rfl (fun ls hl => ?_)
                  refine lv_goto (tgt := 32) hx hb dX8_go_96 (by decide) ?_
                  exact ih32 (j32 + 1) F32 dl H locs ls (by omega) hP hD hI32 hS (lv_sub hl [0, 1, 2, 3] rfl)
          exact key32 (nz 3) 0 F15 dl H locs ls (by omega) hP hD hI15 hS (lv_sub hl [0, 1, 2, 3] rfl)
    exact key15 M 0 n F dl H locs ls (by omega) (by funext x; by_cases h : x = 0 <;> simp [va_up, h]) hN hP hD hI hS (lv_sub hl [0, 1, 2] rfl)
  · skip
    refine lv_iconst (v := (-1)) hx hb dX8_go_11 (by decide) ?_
    exact W.iret (v := (-1)) hx hb hr (fun t9 ht hW => ⟨⟨(-1), (F, n, dl), rfl, ⟨(if_pos h_1).symm, hD, hI, hN, (go_no h_1)⟩, by show va_P (dC, dI) vwCl _ t9.heap; rw [ht]; exact hP⟩, hS.F ht⟩) hS.2.2 dX8_go_12

set_option maxHeartbeats 4000000 in
set_option maxRecDepth 100000 in
theorem m_X8_writes (l : Launch) (dC : Nat → ClassId) (dI : Nat → Nat → Nat) (h0 : Nat) (q n : Nat → Nat) (dl : Int32) (cI cZ : ClassId) (F : Nat → Nat → Int32) (hI : mi_ n F) (hN : nb_ n) (A : Nat → Prop) (hD : va_D A (mw_ h0 q n dl cI cZ F)) (a1 : Int32) (a2 : Int32) (a3 : Int32) (a4 : Int32) (a5 : Int32) (hb0 : vp_in a3 8) (hx4 : n 4 < 300) (hlk : lk_ a1 a4) : Met l yX8_writes wsX8_writes ({ frames := 0, cells := 0, slots := 0, locals := 0 }) (va_Pc [.ref h0, .int a1, .int a2, .int a3, .int a4, .int a5] (pu_P (dC, dI) vwCl (mt_ cI cZ) (mw_ h0 q n dl cI cZ F))) (va_Qi (fun r (u : (Nat → Nat → Int32) × (Nat → Nat) × Int32) => r = nI (n 4) ∧ va_D A (mw_ h0 q u.2.1 u.2.2 cI cZ u.1) ∧ mi_ u.2.1 u.1 ∧ nb_ u.2.1 ∧ u.2.1 = va_up n 4 (n 4 + 1)) (fun u s' => va_P (dC, dI) vwCl (mw_ h0 q u.2.1 u.2.2 cI cZ u.1) s'.heap) A) 0 0 A := by
  refine Met.ofW (cc := cX8_writes) (maxL := 6) (ret := (some .int)) (by decide) rfl ?_
  intro p e s m args below meth c s₁ B hml hv
  obtain ⟨rfl, hP, hK⟩ := hv
  have hx := B.exec
  have hb := B.bytes
  have hr := B.returns
  have hts := atoms_spec (ws := wsX8_writes) B.pre
  have hown : s.vm.findClass RX8 = some m.cls := findClass_of_methodNamed B.named
  have hlocks := B.notSynchronized
  have hinX8 : ∀ w ∈ u_ws RX8 TX8 37, w ∈ wsX8_writes := by decide +kernel
  have hS : va_S A s.heap s.heap [] := va_S.rf
  have hl := lv_entry ([.ref h0, .int a1, .int a2, .int a3, .int a4, .int a5]) (n := 6) (Nat.le_of_ble_eq_true rfl)
  rw [lg_entry_eq]
  generalize (lg_sl ([.ref h0, .int a1, .int a2, .int a3, .int a4, .int a5]) ++ List.replicate (6 - (lg_sl ([.ref h0, .int a1, .int a2, .int a3, .int a4, .int a5])).length) Slot.unset).toArray = ls at hl ⊢
  have hl : lv_has ls 6 [(0, .ref h0), (1, .int a1), (2, .int a2), (3, .int a3), (4, .int a4), (5, .int a5)] := hl
  obtain ⟨H, hH, hP, hS⟩ : ∃ H, H = s.heap ∧ va_P (dC, dI) vwCl (mw_ h0 q n dl cI cZ F) H ∧ va_S A s.heap H [] := ⟨_, rfl, hP, hS⟩
  rw [← hH]
  generalize ([] : List Loc) = locs at hS ⊢
  refine lv_aload_n hx hb dX8_writes_0 rfl (lv_at hl 0 rfl) ?_
  refine va_get (D := (dC, dI)) (ci := 7) (v := .ref (q 26)) (C := RX8) (T := TX8) (N := 37) hx hb hts hinX8 hown hK hP 0 rfl rfl 26 (by decide) (hts (.fieldLink RX8 74 "FurPostsModel" "letterKind" "[I") (by decide +kernel)) (fun _ h9 => h9) rfl dX8_writes_1 ?_
  refine lv_aload_n hx hb dX8_writes_4 rfl (lv_at hl 0 rfl) ?_
  refine va_get (D := (dC, dI)) (ci := 7) (v := .int (nI (n 4))) (C := RX8) (T := TX8) (N := 37) hx hb hts hinX8 hown hK hP 0 rfl rfl 25 (by decide) (hts (.fieldLink RX8 144 "FurPostsModel" "letters" "I") (by decide +kernel)) (fun _ h9 => h9) rfl dX8_writes_5 ?_
  refine lv_iload_n hx hb dX8_writes_8 rfl (lv_at hl 1 rfl) ?_
  refine va_iast hx hb hK hP hD hS 22 0 rfl rfl (i := (nI (n 4))) (x := a1) (vp_in_nI hx4 (by decide)) dX8_writes_9 (fun H locs hP2 hD2 hS => ?_)
  obtain ⟨F1, hF1, hP, hD, hI1⟩ : ∃ F1 : Nat → Nat → Int32, F1 = va_up F 26 (upd (F 26) (Int32.toNatClampNeg (nI (n 4))) a1) ∧ va_P (dC, dI) vwCl (mw_ h0 q n dl cI cZ F1) H ∧ va_D A (mw_ h0 q n dl cI cZ F1) ∧ mi_ n F1 := ⟨_, rfl, hP2, hD2, mi_up26 hI (show n 4 ≤ (Int32.toNatClampNeg (nI (n 4))) by rw [nI_clamp (by omega)]; omega)⟩
  refine lv_aload_n hx hb dX8_writes_10 rfl (lv_at hl 0 rfl) ?_
  refine va_get (D := (dC, dI)) (ci := 7) (v := .ref (q 28)) (C := RX8) (T := TX8) (N := 37) hx hb hts hinX8 hown hK hP 0 rfl rfl 28 (by decide) (hts (.fieldLink RX8 80 "FurPostsModel" "letterAt" "[I") (by decide +kernel)) (fun _ h9 => h9) rfl dX8_writes_11 ?_
  refine lv_aload_n hx hb dX8_writes_14 rfl (lv_at hl 0 rfl) ?_
  refine va_get (D := (dC, dI)) (ci := 7) (v := .int (nI (n 4))) (C := RX8) (T := TX8) (N := 37) hx hb hts hinX8 hown hK hP 0 rfl rfl 25 (by decide) (hts (.fieldLink RX8 144 "FurPostsModel" "letters" "I") (by decide +kernel)) (fun _ h9 => h9) rfl dX8_writes_15 ?_
  refine lv_iload_n hx hb dX8_writes_18 rfl (lv_at hl 2 rfl) ?_
  refine va_iast hx hb hK hP hD hS 24 0 rfl rfl (i := (nI (n 4))) (x := a2) (vp_in_nI hx4 (by decide)) dX8_writes_19 (fun H locs hP2 hD2 hS => ?_)
  obtain ⟨F2, hF2, hP, hD, hI2⟩ : ∃ F2 : Nat → Nat → Int32, F2 = va_up F1 28 (upd (F1 28) (Int32.toNatClampNeg (nI (n 4))) a2) ∧ va_P (dC, dI) vwCl (mw_ h0 q n dl cI cZ F2) H ∧ va_D A (mw_ h0 q n dl cI cZ F2) ∧ mi_ n F2 := ⟨_, rfl, hP2, hD2, hI1⟩
  refine lv_aload_n hx hb dX8_writes_20 rfl (lv_at hl 0 rfl) ?_
  refine va_get (D := (dC, dI)) (ci := 7) (v := .ref (q 27)) (C := RX8) (T := TX8) (N := 37) hx hb hts hinX8 hown hK hP 0 rfl rfl 27 (by decide) (hts (.fieldLink RX8 77 "FurPostsModel" "letterTo" "[I") (by decide +kernel)) (fun _ h9 => h9) rfl dX8_writes_21 ?_
  refine lv_aload_n hx hb dX8_writes_24 rfl (lv_at hl 0 rfl) ?_
  refine va_get (D := (dC, dI)) (ci := 7) (v := .int (nI (n 4))) (C := RX8) (T := TX8) (N := 37) hx hb hts hinX8 hown hK hP 0 rfl rfl 25 (by decide) (hts (.fieldLink RX8 144 "FurPostsModel" "letters" "I") (by decide +kernel)) (fun _ h9 => h9) rfl dX8_writes_25 ?_
  refine lv_iload_n hx hb dX8_writes_28 rfl (lv_at hl 3 rfl) ?_
  refine va_iast hx hb hK hP hD hS 23 0 rfl rfl (i := (nI (n 4))) (x := a3) (vp_in_nI hx4 (by decide)) dX8_writes_29 (fun H locs hP2 hD2 hS => ?_)
  obtain ⟨F3, hF3, hP, hD, hI3⟩ : ∃ F3 : Nat → Nat → Int32, F3 = va_up F2 27 (upd (F2 27) (Int32.toNatClampNeg (nI (n 4))) a3) ∧ va_P (dC, dI) vwCl (mw_ h0 q n dl cI cZ F3) H ∧ va_D A (mw_ h0 q n dl cI cZ F3) ∧ mi_ n F3 := ⟨_, rfl, hP2, hD2, mi_up27 hI2 hb0⟩
  refine lv_aload_n hx hb dX8_writes_30 rfl (lv_at hl 0 rfl) ?_
  refine va_get (D := (dC, dI)) (ci := 7) (v := .ref (q 29)) (C := RX8) (T := TX8) (N := 37) hx hb hts hinX8 hown hK hP 0 rfl rfl 29 (by decide) (hts (.fieldLink RX8 83 "FurPostsModel" "letterOne" "[I") (by decide +kernel)) (fun _ h9 => h9) rfl dX8_writes_31 ?_
  refine lv_aload_n hx hb dX8_writes_34 rfl (lv_at hl 0 rfl) ?_
  refine va_get (D := (dC, dI)) (ci := 7) (v := .int (nI (n 4))) (C := RX8) (T := TX8) (N := 37) hx hb hts hinX8 hown hK hP 0 rfl rfl 25 (by decide) (hts (.fieldLink RX8 144 "FurPostsModel" "letters" "I") (by decide +kernel)) (fun _ h9 => h9) rfl dX8_writes_35 ?_
  refine lv_iload hx hb dX8_writes_38 (lv_at hl 4 rfl) ?_
  refine va_iast hx hb hK hP hD hS 25 0 rfl rfl (i := (nI (n 4))) (x := a4) (vp_in_nI hx4 (by decide)) dX8_writes_40 (fun H locs hP2 hD2 hS => ?_)
  obtain ⟨F4, hF4, hP, hD, hI4⟩ : ∃ F4 : Nat → Nat → Int32, F4 = va_up F3 29 (upd (F3 29) (Int32.toNatClampNeg (nI (n 4))) a4) ∧ va_P (dC, dI) vwCl (mw_ h0 q n dl cI cZ F4) H ∧ va_D A (mw_ h0 q n dl cI cZ F4) ∧ mi_ n F4 := ⟨_, rfl, hP2, hD2, mi_up29 hI3 (show n 4 ≤ (Int32.toNatClampNeg (nI (n 4))) by rw [nI_clamp (by omega)]; omega)⟩
  refine lv_aload_n hx hb dX8_writes_41 rfl (lv_at hl 0 rfl) ?_
  refine va_get (D := (dC, dI)) (ci := 7) (v := .ref (q 30)) (C := RX8) (T := TX8) (N := 37) hx hb hts hinX8 hown hK hP 0 rfl rfl 30 (by decide) (hts (.fieldLink RX8 86 "FurPostsModel" "letterTwo" "[I") (by decide +kernel)) (fun _ h9 => h9) rfl dX8_writes_42 ?_
  refine lv_aload_n hx hb dX8_writes_45 rfl (lv_at hl 0 rfl) ?_
  refine va_get (D := (dC, dI)) (ci := 7) (v := .int (nI (n 4))) (C := RX8) (T := TX8) (N := 37) hx hb hts hinX8 hown hK hP 0 rfl rfl 25 (by decide) (hts (.fieldLink RX8 144 "FurPostsModel" "letters" "I") (by decide +kernel)) (fun _ h9 => h9) rfl dX8_writes_46 ?_
  refine lv_iload hx hb dX8_writes_49 (lv_at hl 5 rfl) ?_
  refine va_iast hx hb hK hP hD hS 26 0 rfl rfl (i := (nI (n 4))) (x := a5) (vp_in_nI hx4 (by decide)) dX8_writes_51 (fun H locs hP2 hD2 hS => ?_)
  obtain ⟨F5, hF5, hP, hD, hI5⟩ : ∃ F5 : Nat → Nat → Int32, F5 = va_up F4 30 (upd (F4 30) (Int32.toNatClampNeg (nI (n 4))) a5) ∧ va_P (dC, dI) vwCl (mw_ h0 q n dl cI cZ F5) H ∧ va_D A (mw_ h0 q n dl cI cZ F5) ∧ mi_ n F5 := ⟨_, rfl, hP2, hD2, hI4⟩
  refine lv_aload_n hx hb dX8_writes_52 rfl (lv_at hl 0 rfl) ?_
  refine lv_dup hx hb dX8_writes_53 rfl ?_
  refine va_get (D := (dC, dI)) (ci := 7) (v := .int (nI (n 4))) (C := RX8) (T := TX8) (N := 37) hx hb hts hinX8 hown hK hP 0 rfl rfl 25 (by decide) (hts (.fieldLink RX8 144 "FurPostsModel" "letters" "I") (by decide +kernel)) (fun _ h9 => h9) rfl dX8_writes_54 ?_
  refine lv_iconst (v := 1) hx hb dX8_writes_57 (by decide) ?_
  refine lv_iadd hx hb dX8_writes_58 ?_
  rw [nI_1]
  refine va_put (D := (dC, dI)) (ci := 7) (v := .int (nI ((n 4) + 1))) (ty := .int) (C := RX8) (T := TX8) (N := 37) hx hb hts hinX8 tyX8 tyX8_ok nmX8 hown hK hP hD hS 0 rfl rfl 25 (by decide) (hts (.fieldLink RX8 144 "FurPostsModel" "letters" "I") (by decide +kernel)) (fun _ h9 => h9) rfl (by decide +kernel) rfl rfl (Nat.le_of_ble_eq_true rfl) dX8_writes_59 (fun H locs hP2 hD2 hS => ?_)
  obtain ⟨n6, hn6, hP, hD⟩ : ∃ n6 : Nat → Nat, n6 = va_up n 4 (((n 4) + 1)) ∧ va_P (dC, dI) vwCl (mw_ h0 q n6 dl cI cZ F5) H ∧ va_D A (mw_ h0 q n6 dl cI cZ F5) := ⟨_, rfl, hP2, hD2⟩
  have hN : nb_ n6 := by rw [hn6]; exact ⟨hN.1, hN.2.1, hN.2.2.1, hN.2.2.2.1, (show ((n 4) + 1) ≤ 300 by omega)⟩
  have hIn6 : mi_ n6 F5 := by
      rw [hn6]
      refine ⟨hI5.1, hI5.2.1, hI5.2.2.1, hI5.2.2.2.1, hI5.2.2.2.2.1, hI5.2.2.2.2.2.1, fun l hl => ?_⟩
      by_cases e : l = n 4
      · have e26 : F5 26 (n 4) = a1 := by
          rw [hF5, hF4, hF3, hF2, hF1]
          show upd (F 26) (Int32.toNatClampNeg (nI (n 4))) a1 (n 4) = a1
          rw [nI_clamp (by omega)]; exact pk_us
        have e29 : F5 29 (n 4) = a4 := by
          rw [hF5, hF4, hF3, hF2, hF1]
          show upd (F 29) (Int32.toNatClampNeg (nI (n 4))) a4 (n 4) = a4
          rw [nI_clamp (by omega)]; exact pk_us
        rw [e, e26, e29]; exact hlk
      · have hl2 : l < n 4 + 1 := hl
        exact hI5.2.2.2.2.2.2 l (by omega)
  refine lv_aload_n hx hb dX8_writes_62 rfl (lv_at hl 0 rfl) ?_
  refine va_get (D := (dC, dI)) (ci := 7) (v := .int (nI (n6 4))) (C := RX8) (T := TX8) (N := 37) hx hb hts hinX8 hown hK hP 0 rfl rfl 25 (by decide) (hts (.fieldLink RX8 144 "FurPostsModel" "letters" "I") (by decide +kernel)) (fun _ h9 => h9) rfl dX8_writes_63 ?_
  refine lv_iconst (v := 1) hx hb dX8_writes_66 (by decide) ?_
  refine lv_isub hx hb dX8_writes_67 ?_
  exact W.iret (v := ((nI (n6 4)) - 1)) hx hb hr (fun t9 ht hW => ⟨⟨((nI (n6 4)) - 1), (F5, n6, dl), rfl, ⟨(by rw [hn6]; exact nI_pred (n 4)), hD, hIn6, hN, hn6⟩, by show va_P (dC, dI) vwCl _ t9.heap; rw [ht]; exact hP⟩, hS.F ht⟩) hS.2.2 dX8_writes_68

set_option maxHeartbeats 4000000 in
set_option maxRecDepth 100000 in
theorem m_X8_order (l : Launch) (dC : Nat → ClassId) (dI : Nat → Nat → Nat) (h0 : Nat) (q n : Nat → Nat) (dl : Int32) (cI cZ : ClassId) (F : Nat → Nat → Int32) (hI : mi_ n F) (hN : nb_ n) (A : Nat → Prop) (hD : va_D A (mw_ h0 q n dl cI cZ F)) (a1 : Int32) (a2 : Int32) (a3 : Int32) (a4 : Int32) : Met l yX8_order wsX8_order ({ frames := 3, cells := 0, slots := 0, locals := 65 }) (va_Pc [.ref h0, .int a1, .int a2, .int a3, .int a4] (pu_P (dC, dI) vwCl (mt_ cI cZ) (mw_ h0 q n dl cI cZ F))) (va_Qi (fun r (u : (Nat → Nat → Int32) × (Nat → Nat) × Int32) => True ∧ va_D A (mw_ h0 q u.2.1 u.2.2 cI cZ u.1) ∧ mi_ u.2.1 u.1 ∧ nb_ u.2.1 ∧ (u.2.1 0 = n 0 ∧ u.2.1 1 = n 1)) (fun u s' => va_P (dC, dI) vwCl (mw_ h0 q u.2.1 u.2.2 cI cZ u.1) s'.heap) A) 0 0 A := by
  refine Met.ofW (cc := cX8_order) (maxL := 5) (ret := (some .int)) (by decide) rfl ?_
  intro p e s m args below meth c s₁ B hml hv
  obtain ⟨rfl, hP, hK⟩ := hv
  have hx := B.exec
  have hb := B.bytes
  have hr := B.returns
  have hts := atoms_spec (ws := wsX8_order) B.pre
  have hown : s.vm.findClass RX8 = some m.cls := findClass_of_methodNamed B.named
  have hlocks := B.notSynchronized
  have hS : va_S A s.heap s.heap [] := va_S.rf
  have hl := lv_entry ([.ref h0, .int a1, .int a2, .int a3, .int a4]) (n := 5) (Nat.le_of_ble_eq_true rfl)
  rw [lg_entry_eq]
  generalize (lg_sl ([.ref h0, .int a1, .int a2, .int a3, .int a4]) ++ List.replicate (5 - (lg_sl ([.ref h0, .int a1, .int a2, .int a3, .int a4])).length) Slot.unset).toArray = ls at hl ⊢
  have hl : lv_has ls 5 [(0, .ref h0), (1, .int a1), (2, .int a2), (3, .int a3), (4, .int a4)] := hl
  obtain ⟨H, hH, hP, hS⟩ : ∃ H, H = s.heap ∧ va_P (dC, dI) vwCl (mw_ h0 q n dl cI cZ F) H ∧ va_S A s.heap H [] := ⟨_, rfl, hP, hS⟩
  rw [← hH]
  generalize ([] : List Loc) = locs at hS ⊢
  refine lv_aload_n hx hb dX8_order_0 rfl (lv_at hl 0 rfl) ?_
  refine lv_iload_n hx hb dX8_order_1 rfl (lv_at hl 1 rfl) ?_
  refine lv_iload_n hx hb dX8_order_2 rfl (lv_at hl 2 rfl) ?_
  refine pg_call (va_runV (As := [.int a1, .int a2]) (rest := []) ⟨hx, hb, hml, hown, hts⟩ (k_X8_canWrite l dC dI h0 q n dl cI cZ F hI hN a1 a2) (cwV 2 hts gX8_order_X8_canWrite rfl rfl rfl (by decide +kernel) ⟨Nat.le_of_ble_eq_true rfl, Nat.le_of_ble_eq_true rfl⟩) (pu_pre hP hK (ci := 7) (q0 := 0) rfl rfl) rfl rfl hl.1 rfl (lv_room (Nat.le_of_ble_eq_true rfl)) dX8_order_3 ⟨Nat.le_of_ble_eq_true rfl, Nat.le_of_ble_eq_true rfl⟩) (fun w1 hw1 => ?_)
  obtain ⟨r1, rfl, hg1⟩ := hw1
  refine lv_if_eq (tgt := 40) hx hb dX8_order_6 (by decide) (fun h_2 => ?_) (fun h_2 => ?_)
  · skip
    refine lv_iconst (v := (-1)) hx hb dX8_order_40 (by decide) ?_
    exact W.iret (v := (-1)) hx hb hr (fun t9 ht hW => ⟨⟨(-1), (F, n, dl), rfl, ⟨trivial, hD, hI, hN, ⟨rfl, rfl⟩⟩, by show va_P (dC, dI) vwCl _ t9.heap; rw [ht]; exact hP⟩, hS.F ht⟩) hS.2.2 dX8_order_41
  · skip
    refine lv_iload_n hx hb dX8_order_9 rfl (lv_at hl 3 rfl) ?_
    refine pu_call (va_runS (As := [.int a3]) (rest := []) ⟨hx, hb, hml, hown, hts⟩ (c_X8_isWare l a3) (va_cwS 1 hts gX8_order_X8_isWare rfl rfl rfl (by decide +kernel) ⟨Nat.le_of_ble_eq_true rfl, Nat.le_of_ble_eq_true rfl⟩) pu_preS rfl rfl hl.1 rfl (lv_room (Nat.le_of_ble_eq_true rfl)) dX8_order_10 ⟨Nat.le_of_ble_eq_true rfl, Nat.le_of_ble_eq_true rfl⟩) ?_
    refine lv_if_eq (tgt := 40) hx hb dX8_order_13 (by decide) (fun h_3 => ?_) (fun h_3 => ?_)
    · skip
      refine lv_iconst (v := (-1)) hx hb dX8_order_40 (by decide) ?_
      exact W.iret (v := (-1)) hx hb hr (fun t9 ht hW => ⟨⟨(-1), (F, n, dl), rfl, ⟨trivial, hD, hI, hN, ⟨rfl, rfl⟩⟩, by show va_P (dC, dI) vwCl _ t9.heap; rw [ht]; exact hP⟩, hS.F ht⟩) hS.2.2 dX8_order_41
    · skip
      refine lv_iload hx hb dX8_order_16 (lv_at hl 4 rfl) ?_
      refine lv_iconst (v := 1) hx hb dX8_order_18 (by decide) ?_
      refine lv_bipush (v := 100) hx hb dX8_order_19 (by decide) ?_
      refine pu_call (va_runS (As := [.int a4, .int 1, .int 100]) (rest := []) ⟨hx, hb, hml, hown, hts⟩ (c_X8_in l a4 1 100) (va_cwS 3 hts gX8_order_X8_in rfl rfl rfl (by decide +kernel) ⟨Nat.le_of_ble_eq_true rfl, Nat.le_of_ble_eq_true rfl⟩) pu_preS rfl rfl hl.1 rfl (lv_room (Nat.le_of_ble_eq_true rfl)) dX8_order_21 ⟨Nat.le_of_ble_eq_true rfl, Nat.le_of_ble_eq_true rfl⟩) ?_
      refine lv_if_eq (tgt := 40) hx hb dX8_order_24 (by decide) (fun h_4 => ?_) (fun h_4 => ?_)
      · skip
        refine lv_iconst (v := (-1)) hx hb dX8_order_40 (by decide) ?_
        exact W.iret (v := (-1)) hx hb hr (fun t9 ht hW => ⟨⟨(-1), (F, n, dl), rfl, ⟨trivial, hD, hI, hN, ⟨rfl, rfl⟩⟩, by show va_P (dC, dI) vwCl _ t9.heap; rw [ht]; exact hP⟩, hS.F ht⟩) hS.2.2 dX8_order_41
      · skip
        refine lv_aload_n hx hb dX8_order_27 rfl (lv_at hl 0 rfl) ?_
        refine lv_iconst (v := 0) hx hb dX8_order_28 (by decide) ?_
        refine lv_iload_n hx hb dX8_order_29 rfl (lv_at hl 1 rfl) ?_
        refine lv_iload_n hx hb dX8_order_30 rfl (lv_at hl 2 rfl) ?_
        refine lv_iload_n hx hb dX8_order_31 rfl (lv_at hl 3 rfl) ?_
        refine lv_iload hx hb dX8_order_32 (lv_at hl 4 rfl) ?_
        refine va_calli (va_runV (As := [.int 0, .int a1, .int a2, .int a3, .int a4]) (rest := []) ⟨hx, hb, hml, hown, hts⟩ (m_X8_writes l dC dI h0 q n dl cI cZ F hI hN A hD 0 a1 a2 a3 a4 ((hg1 h_2).2.1) ((hg1 h_2).2.2) ⟨fun _ => (sp_vp h_3 rfl), fun h => absurd h (by decide), fun h => absurd rfl h⟩) (cwV 5 hts gX8_order_X8_writes rfl rfl rfl (by decide +kernel) ⟨Nat.le_of_ble_eq_true rfl, Nat.le_of_ble_eq_true rfl⟩) (pu_pre hP hK (ci := 7) (q0 := 0) rfl rfl) rfl rfl hl.1 rfl (lv_room (Nat.le_of_ble_eq_true rfl)) dX8_order_34 ⟨Nat.le_of_ble_eq_true rfl, Nat.le_of_ble_eq_true rfl⟩) hS (fun _ _ h => h) (fun _ h => h) (fun r5 u5 st5 H locs ht5 hvm5 hw5 hB5 hz5 hk5 hS => ?_)
        obtain ⟨F5, n5, d5⟩ := u5
        obtain ⟨ha5, hD5, hI5, hN5, hn5⟩ := hw5
        obtain ⟨dl, hP, hD, hI5, hN⟩ : ∃ dl : Int32, va_P (dC, dI) vwCl (mw_ h0 q n5 dl cI cZ F5) H ∧ va_D A (mw_ h0 q n5 dl cI cZ F5) ∧ mi_ n5 F5 ∧ nb_ n5 := ⟨d5, by rw [← ht5]; exact hB5, hD5, hI5, hN5⟩
        have ha5 : r5 = nI (n 4) := ha5
        subst ha5
        refine lv_goto (tgt := 41) hx hb dX8_order_37 (by decide) ?_
        exact W.iret (v := (nI (n 4))) hx hb hr (fun t9 ht hW => ⟨⟨(nI (n 4)), (F5, n5, dl), rfl, ⟨trivial, hD, hI5, hN, ⟨by rw [hn5]; rfl, by rw [hn5]; rfl⟩⟩, by show va_P (dC, dI) vwCl _ t9.heap; rw [ht]; exact hP⟩, hS.F ht⟩) hS.2.2 dX8_order_41

set_option maxHeartbeats 4000000 in
set_option maxRecDepth 100000 in
theorem m_X8_debt (l : Launch) (dC : Nat → ClassId) (dI : Nat → Nat → Nat) (h0 : Nat) (q n : Nat → Nat) (dl : Int32) (cI cZ : ClassId) (F : Nat → Nat → Int32) (hI : mi_ n F) (hN : nb_ n) (A : Nat → Prop) (hD : va_D A (mw_ h0 q n dl cI cZ F)) (a1 : Int32) (a2 : Int32) (a3 : Int32) : Met l yX8_debt wsX8_debt ({ frames := 3, cells := 0, slots := 0, locals := 65 }) (va_Pc [.ref h0, .int a1, .int a2, .int a3] (pu_P (dC, dI) vwCl (mt_ cI cZ) (mw_ h0 q n dl cI cZ F))) (va_Qi (fun r (u : (Nat → Nat → Int32) × (Nat → Nat) × Int32) => True ∧ va_D A (mw_ h0 q u.2.1 u.2.2 cI cZ u.1) ∧ mi_ u.2.1 u.1 ∧ nb_ u.2.1 ∧ (u.2.1 0 = n 0 ∧ u.2.1 1 = n 1)) (fun u s' => va_P (dC, dI) vwCl (mw_ h0 q u.2.1 u.2.2 cI cZ u.1) s'.heap) A) 0 0 A := by
  refine Met.ofW (cc := cX8_debt) (maxL := 5) (ret := (some .int)) (by decide) rfl ?_
  intro p e s m args below meth c s₁ B hml hv
  obtain ⟨rfl, hP, hK⟩ := hv
  have hx := B.exec
  have hb := B.bytes
  have hr := B.returns
  have hts := atoms_spec (ws := wsX8_debt) B.pre
  have hown : s.vm.findClass RX8 = some m.cls := findClass_of_methodNamed B.named
  have hlocks := B.notSynchronized
  have hinX8 : ∀ w ∈ u_ws RX8 TX8 37, w ∈ wsX8_debt := by decide +kernel
  have hS : va_S A s.heap s.heap [] := va_S.rf
  have hl := lv_entry ([.ref h0, .int a1, .int a2, .int a3]) (n := 5) (Nat.le_of_ble_eq_true rfl)
  rw [lg_entry_eq]
  generalize (lg_sl ([.ref h0, .int a1, .int a2, .int a3]) ++ List.replicate (5 - (lg_sl ([.ref h0, .int a1, .int a2, .int a3])).length) Slot.unset).toArray = ls at hl ⊢
  have hl : lv_has ls 5 [(0, .ref h0), (1, .int a1), (2, .int a2), (3, .int a3)] := hl
  obtain ⟨H, hH, hP, hS⟩ : ∃ H, H = s.heap ∧ va_P (dC, dI) vwCl (mw_ h0 q n dl cI cZ F) H ∧ va_S A s.heap H [] := ⟨_, rfl, hP, hS⟩
  rw [← hH]
  generalize ([] : List Loc) = locs at hS ⊢
  refine lv_aload_n hx hb dX8_debt_0 rfl (lv_at hl 0 rfl) ?_
  refine lv_iload_n hx hb dX8_debt_1 rfl (lv_at hl 1 rfl) ?_
  refine lv_iload_n hx hb dX8_debt_2 rfl (lv_at hl 2 rfl) ?_
  refine pg_call (va_runV (As := [.int a1, .int a2]) (rest := []) ⟨hx, hb, hml, hown, hts⟩ (k_X8_canWrite l dC dI h0 q n dl cI cZ F hI hN a1 a2) (cwV 2 hts gX8_debt_X8_canWrite rfl rfl rfl (by decide +kernel) ⟨Nat.le_of_ble_eq_true rfl, Nat.le_of_ble_eq_true rfl⟩) (pu_pre hP hK (ci := 7) (q0 := 0) rfl rfl) rfl rfl hl.1 rfl (lv_room (Nat.le_of_ble_eq_true rfl)) dX8_debt_3 ⟨Nat.le_of_ble_eq_true rfl, Nat.le_of_ble_eq_true rfl⟩) (fun w1 hw1 => ?_)
  obtain ⟨r1, rfl, hg1⟩ := hw1
  refine lv_if_eq (tgt := 28) hx hb dX8_debt_6 (by decide) (fun h_2 => ?_) (fun h_2 => ?_)
  · skip
    refine lv_iconst (v := (-1)) hx hb dX8_debt_28 (by decide) ?_
    exact W.iret (v := (-1)) hx hb hr (fun t9 ht hW => ⟨⟨(-1), (F, n, dl), rfl, ⟨trivial, hD, hI, hN, ⟨rfl, rfl⟩⟩, by show va_P (dC, dI) vwCl _ t9.heap; rw [ht]; exact hP⟩, hS.F ht⟩) hS.2.2 dX8_debt_29
  · skip
    refine lv_iload_n hx hb dX8_debt_9 rfl (lv_at hl 3 rfl) ?_
    refine lv_iconst (v := 0) hx hb dX8_debt_10 (by decide) ?_
    refine lv_bipush (v := 11) hx hb dX8_debt_11 (by decide) ?_
    refine pu_call (va_runS (As := [.int a3, .int 0, .int 11]) (rest := []) ⟨hx, hb, hml, hown, hts⟩ (c_X8_in l a3 0 11) (va_cwS 3 hts gX8_debt_X8_in rfl rfl rfl (by decide +kernel) ⟨Nat.le_of_ble_eq_true rfl, Nat.le_of_ble_eq_true rfl⟩) pu_preS rfl rfl hl.1 rfl (lv_room (Nat.le_of_ble_eq_true rfl)) dX8_debt_13 ⟨Nat.le_of_ble_eq_true rfl, Nat.le_of_ble_eq_true rfl⟩) ?_
    refine lv_if_eq (tgt := 28) hx hb dX8_debt_16 (by decide) (fun h_3 => ?_) (fun h_3 => ?_)
    · skip
      refine lv_iconst (v := (-1)) hx hb dX8_debt_28 (by decide) ?_
      exact W.iret (v := (-1)) hx hb hr (fun t9 ht hW => ⟨⟨(-1), (F, n, dl), rfl, ⟨trivial, hD, hI, hN, ⟨rfl, rfl⟩⟩, by show va_P (dC, dI) vwCl _ t9.heap; rw [ht]; exact hP⟩, hS.F ht⟩) hS.2.2 dX8_debt_29
    · skip
      refine lv_aload_n hx hb dX8_debt_19 rfl (lv_at hl 0 rfl) ?_
      refine lv_iload_n hx hb dX8_debt_20 rfl (lv_at hl 1 rfl) ?_
      refine lv_iload_n hx hb dX8_debt_21 rfl (lv_at hl 3 rfl) ?_
      refine pg_call (va_runV (As := [.int a1, .int a3]) (rest := []) ⟨hx, hb, hml, hown, hts⟩ (k_X8_owes l dC dI h0 q n dl cI cZ F hI hN a1 a3) (cwV 2 hts gX8_debt_X8_owes rfl rfl rfl (by decide +kernel) ⟨Nat.le_of_ble_eq_true rfl, Nat.le_of_ble_eq_true rfl⟩) (pu_pre hP hK (ci := 7) (q0 := 0) rfl rfl) rfl rfl hl.1 rfl (lv_room (Nat.le_of_ble_eq_true rfl)) dX8_debt_22 ⟨Nat.le_of_ble_eq_true rfl, Nat.le_of_ble_eq_true rfl⟩) (fun w4 hw4 => ?_)
      obtain ⟨r4, rfl, hg4⟩ := hw4
      refine lv_if_ne (tgt := 30) hx hb dX8_debt_25 (by decide) (fun h_5 => ?_) (fun h_5 => ?_)
      · skip
        refine lv_aload_n hx hb dX8_debt_30 rfl (lv_at hl 0 rfl) ?_
        refine lv_iload_n hx hb dX8_debt_31 rfl (lv_at hl 1 rfl) ?_
        refine lv_iload_n hx hb dX8_debt_32 rfl (lv_at hl 3 rfl) ?_
        refine pg_call (va_runV (As := [.int a1, .int a3]) (rest := []) ⟨hx, hb, hml, hown, hts⟩ (k_X8_owes l dC dI h0 q n dl cI cZ F hI hN a1 a3) (cwV 2 hts gX8_debt_X8_owes rfl rfl rfl (by decide +kernel) ⟨Nat.le_of_ble_eq_true rfl, Nat.le_of_ble_eq_true rfl⟩) (pu_pre hP hK (ci := 7) (q0 := 0) rfl rfl) rfl rfl hl.1 rfl (lv_room (Nat.le_of_ble_eq_true rfl)) dX8_debt_33 ⟨Nat.le_of_ble_eq_true rfl, Nat.le_of_ble_eq_true rfl⟩) (fun w6 hw6 => ?_)
        obtain ⟨r6, rfl, hg6⟩ := hw6
        refine lv_istore (lv' := [(4, .int r6), (0, .ref h0), (1, .int a1), (2, .int a2), (3, .int a3)]) hx hb dX8_debt_36 hl (by decide) rfl (fun ls hl => ?_)
        refine lv_aload_n hx hb dX8_debt_38 rfl (lv_at hl 1 rfl) ?_
        refine lv_iconst (v := 1) hx hb dX8_debt_39 (by decide) ?_
        refine lv_iload_n hx hb dX8_debt_40 rfl (lv_at hl 2 rfl) ?_
        refine lv_iload_n hx hb dX8_debt_41 rfl (lv_at hl 3 rfl) ?_
        refine lv_iload_n hx hb dX8_debt_42 rfl (lv_at hl 4 rfl) ?_
        refine lv_iload hx hb dX8_debt_43 (lv_at hl 0 rfl) ?_
        refine va_calli (va_runV (As := [.int 1, .int a1, .int a2, .int a3, .int r6]) (rest := []) ⟨hx, hb, hml, hown, hts⟩ (m_X8_writes l dC dI h0 q n dl cI cZ F hI hN A hD 1 a1 a2 a3 r6 ((hg1 h_2).2.1) ((hg1 h_2).2.2) ⟨fun h => absurd h (by decide), fun _ => (sp_vp h_3 rfl), fun _ h => absurd rfl h⟩) (cwV 5 hts gX8_debt_X8_writes rfl rfl rfl (by decide +kernel) ⟨Nat.le_of_ble_eq_true rfl, Nat.le_of_ble_eq_true rfl⟩) (pu_pre hP hK (ci := 7) (q0 := 0) rfl rfl) rfl rfl hl.1 rfl (lv_room (Nat.le_of_ble_eq_true rfl)) dX8_debt_45 ⟨Nat.le_of_ble_eq_true rfl, Nat.le_of_ble_eq_true rfl⟩) hS (fun _ _ h => h) (fun _ h => h) (fun r7 u7 st7 H locs ht7 hvm7 hw7 hB7 hz7 hk7 hS => ?_)
        obtain ⟨F7, n7, d7⟩ := u7
        obtain ⟨ha7, hD7, hI7, hN7, hn7⟩ := hw7
        obtain ⟨dl, hP, hD, hI7, hN⟩ : ∃ dl : Int32, va_P (dC, dI) vwCl (mw_ h0 q n7 dl cI cZ F7) H ∧ va_D A (mw_ h0 q n7 dl cI cZ F7) ∧ mi_ n7 F7 ∧ nb_ n7 := ⟨d7, by rw [← ht7]; exact hB7, hD7, hI7, hN7⟩
        have ha7 : r7 = nI (n 4) := ha7
        subst ha7
        refine lv_pop hx hb dX8_debt_48 rfl ?_
        refine lv_aload_n hx hb dX8_debt_49 rfl (lv_at hl 1 rfl) ?_
        refine va_get (D := (dC, dI)) (ci := 7) (v := .ref (q 4)) (C := RX8) (T := TX8) (N := 37) hx hb hts hinX8 hown hK hP 0 rfl rfl 4 (by decide) (hts (.fieldLink RX8 16 "FurPostsModel" "owes" "[I") (by decide +kernel)) (fun _ h9 => h9) rfl dX8_debt_50 ?_
        refine lv_bipush (v := 12) hx hb dX8_debt_53 (by decide) ?_
        refine lv_iload_n hx hb dX8_debt_55 rfl (lv_at hl 2 rfl) ?_
        refine lv_imul hx hb dX8_debt_56 ?_
        refine lv_iload_n hx hb dX8_debt_57 rfl (lv_at hl 4 rfl) ?_
        refine lv_iadd hx hb dX8_debt_58 ?_
        refine lv_iconst (v := 0) hx hb dX8_debt_59 (by decide) ?_
        refine va_iast hx hb hK hP hD hS 3 0 rfl rfl (i := ((12 * a1) + a3)) (x := 0) (vp_lin (a := 8) (b := 12) (m := 12) ((hg1 h_2).1) (sp_vp h_3 rfl) rfl (by decide)) dX8_debt_60 (fun H locs hP2 hD2 hS => ?_)
        obtain ⟨F8, hF8, hP, hD, hI8⟩ : ∃ F8 : Nat → Nat → Int32, F8 = va_up F7 4 (upd (F7 4) (Int32.toNatClampNeg ((12 * a1) + a3)) 0) ∧ va_P (dC, dI) vwCl (mw_ h0 q n7 dl cI cZ F8) H ∧ va_D A (mw_ h0 q n7 dl cI cZ F8) ∧ mi_ n7 F8 := ⟨_, rfl, hP2, hD2, hI7⟩
        refine lv_iload hx hb dX8_debt_61 (lv_at hl 0 rfl) ?_
        exact W.iret (v := r6) hx hb hr (fun t9 ht hW => ⟨⟨r6, (F8, n7, dl), rfl, ⟨trivial, hD, hI8, hN, ⟨by rw [hn7]; rfl, by rw [hn7]; rfl⟩⟩, by show va_P (dC, dI) vwCl _ t9.heap; rw [ht]; exact hP⟩, hS.F ht⟩) hS.2.2 dX8_debt_63
      · skip
        refine lv_iconst (v := (-1)) hx hb dX8_debt_28 (by decide) ?_
        exact W.iret (v := (-1)) hx hb hr (fun t9 ht hW => ⟨⟨(-1), (F, n, dl), rfl, ⟨trivial, hD, hI, hN, ⟨rfl, rfl⟩⟩, by show va_P (dC, dI) vwCl _ t9.heap; rw [ht]; exact hP⟩, hS.F ht⟩) hS.2.2 dX8_debt_29

set_option maxHeartbeats 4000000 in
set_option maxRecDepth 100000 in
theorem m_X8_report (l : Launch) (dC : Nat → ClassId) (dI : Nat → Nat → Nat) (h0 : Nat) (q n : Nat → Nat) (dl : Int32) (cI cZ : ClassId) (F : Nat → Nat → Int32) (hI : mi_ n F) (hN : nb_ n) (A : Nat → Prop) (hD : va_D A (mw_ h0 q n dl cI cZ F)) (a1 : Int32) (a2 : Int32) : Met l yX8_report wsX8_report ({ frames := 3, cells := 0, slots := 0, locals := 65 }) (va_Pc [.ref h0, .int a1, .int a2] (pu_P (dC, dI) vwCl (mt_ cI cZ) (mw_ h0 q n dl cI cZ F))) (va_Qi (fun r (u : (Nat → Nat → Int32) × (Nat → Nat) × Int32) => True ∧ va_D A (mw_ h0 q u.2.1 u.2.2 cI cZ u.1) ∧ mi_ u.2.1 u.1 ∧ nb_ u.2.1 ∧ (u.2.1 0 = n 0 ∧ u.2.1 1 = n 1)) (fun u s' => va_P (dC, dI) vwCl (mw_ h0 q u.2.1 u.2.2 cI cZ u.1) s'.heap) A) 0 0 A := by
  refine Met.ofW (cc := cX8_report) (maxL := 5) (ret := (some .int)) (by decide) rfl ?_
  intro p e s m args below meth c s₁ B hml hv
  obtain ⟨rfl, hP, hK⟩ := hv
  have hx := B.exec
  have hb := B.bytes
  have hr := B.returns
  have hts := atoms_spec (ws := wsX8_report) B.pre
  have hown : s.vm.findClass RX8 = some m.cls := findClass_of_methodNamed B.named
  have hlocks := B.notSynchronized
  have hinX8 : ∀ w ∈ u_ws RX8 TX8 37, w ∈ wsX8_report := by decide +kernel
  have hS : va_S A s.heap s.heap [] := va_S.rf
  have hl := lv_entry ([.ref h0, .int a1, .int a2]) (n := 5) (Nat.le_of_ble_eq_true rfl)
  rw [lg_entry_eq]
  generalize (lg_sl ([.ref h0, .int a1, .int a2]) ++ List.replicate (5 - (lg_sl ([.ref h0, .int a1, .int a2])).length) Slot.unset).toArray = ls at hl ⊢
  have hl : lv_has ls 5 [(0, .ref h0), (1, .int a1), (2, .int a2)] := hl
  obtain ⟨H, hH, hP, hS⟩ : ∃ H, H = s.heap ∧ va_P (dC, dI) vwCl (mw_ h0 q n dl cI cZ F) H ∧ va_S A s.heap H [] := ⟨_, rfl, hP, hS⟩
  rw [← hH]
  generalize ([] : List Loc) = locs at hS ⊢
  refine lv_aload_n hx hb dX8_report_0 rfl (lv_at hl 0 rfl) ?_
  refine lv_iload_n hx hb dX8_report_1 rfl (lv_at hl 1 rfl) ?_
  refine lv_iload_n hx hb dX8_report_2 rfl (lv_at hl 2 rfl) ?_
  refine pg_call (va_runV (As := [.int a1, .int a2]) (rest := []) ⟨hx, hb, hml, hown, hts⟩ (k_X8_canWrite l dC dI h0 q n dl cI cZ F hI hN a1 a2) (cwV 2 hts gX8_report_X8_canWrite rfl rfl rfl (by decide +kernel) ⟨Nat.le_of_ble_eq_true rfl, Nat.le_of_ble_eq_true rfl⟩) (pu_pre hP hK (ci := 7) (q0 := 0) rfl rfl) rfl rfl hl.1 rfl (lv_room (Nat.le_of_ble_eq_true rfl)) dX8_report_3 ⟨Nat.le_of_ble_eq_true rfl, Nat.le_of_ble_eq_true rfl⟩) (fun w1 hw1 => ?_)
  obtain ⟨r1, rfl, hg1⟩ := hw1
  refine lv_if_ne (tgt := 11) hx hb dX8_report_6 (by decide) (fun h_2 => ?_) (fun h_2 => ?_)
  · skip
    refine lv_aload_n hx hb dX8_report_11 rfl (lv_at hl 0 rfl) ?_
    refine lv_iconst (v := 2) hx hb dX8_report_12 (by decide) ?_
    refine lv_iload_n hx hb dX8_report_13 rfl (lv_at hl 1 rfl) ?_
    refine lv_iload_n hx hb dX8_report_14 rfl (lv_at hl 2 rfl) ?_
    refine lv_iload_n hx hb dX8_report_15 rfl (lv_at hl 1 rfl) ?_
    refine lv_aload_n hx hb dX8_report_16 rfl (lv_at hl 0 rfl) ?_
    refine va_get (D := (dC, dI)) (ci := 7) (v := .int (nI (n 0))) (C := RX8) (T := TX8) (N := 37) hx hb hts hinX8 hown hK hP 0 rfl rfl 0 (by decide) (hts (.fieldLink RX8 137 "FurPostsModel" "now" "I") (by decide +kernel)) (fun _ h9 => h9) rfl dX8_report_17 ?_
    refine va_calli (va_runV (As := [.int 2, .int a1, .int a2, .int a1, .int (nI (n 0))]) (rest := []) ⟨hx, hb, hml, hown, hts⟩ (m_X8_writes l dC dI h0 q n dl cI cZ F hI hN A hD 2 a1 a2 a1 (nI (n 0)) ((hg1 h_2).2.1) ((hg1 h_2).2.2) ⟨fun h => absurd h (by decide), fun h => absurd h (by decide), fun _ _ => ((hg1 h_2).1)⟩) (cwV 5 hts gX8_report_X8_writes rfl rfl rfl (by decide +kernel) ⟨Nat.le_of_ble_eq_true rfl, Nat.le_of_ble_eq_true rfl⟩) (pu_pre hP hK (ci := 7) (q0 := 0) rfl rfl) rfl rfl hl.1 rfl (lv_room (Nat.le_of_ble_eq_true rfl)) dX8_report_20 ⟨Nat.le_of_ble_eq_true rfl, Nat.le_of_ble_eq_true rfl⟩) hS (fun _ _ h => h) (fun _ h => h) (fun r3 u3 st3 H locs ht3 hvm3 hw3 hB3 hz3 hk3 hS => ?_)
    obtain ⟨F3, n3, d3⟩ := u3
    obtain ⟨ha3, hD3, hI3, hN3, hn3⟩ := hw3
    obtain ⟨dl, hP, hD, hI3, hN⟩ : ∃ dl : Int32, va_P (dC, dI) vwCl (mw_ h0 q n3 dl cI cZ F3) H ∧ va_D A (mw_ h0 q n3 dl cI cZ F3) ∧ mi_ n3 F3 ∧ nb_ n3 := ⟨d3, by rw [← ht3]; exact hB3, hD3, hI3, hN3⟩
    have ha3 : r3 = nI (n 4) := ha3
    subst ha3
    refine lv_istore_n (lv' := [(3, .int (nI (n 4))), (0, .ref h0), (1, .int a1), (2, .int a2)]) hx hb dX8_report_23 rfl hl (by decide) rfl (fun ls hl => ?_)
    refine lv_iconst (v := 0) hx hb dX8_report_24 (by decide) ?_
    refine lv_istore (lv' := [(4, .int 0), (3, .int (nI (n 4))), (0, .ref h0), (1, .int a1), (2, .int a2)]) hx hb dX8_report_25 hl (by decide) rfl (fun ls hl => ?_)
    have key27 : ∀ (k j27 : Nat) (F27 : Nat → Nat → Int32) (dl : Int32) (H : Heap) (locs : List Loc) (ls : Array Slot), j27 + k = 6 → va_P (dC, dI) vwCl (mw_ h0 q n3 dl cI cZ F27) H → va_D A (mw_ h0 q n3 dl cI cZ F27) → mi_ n3 F27 → va_S A s.heap H locs → lv_has ls 5 [(4, .int (nI j27)), (3, .int (nI (n 4))), (0, .ref h0), (1, .int a1), (2, .int a2)] →
        W p l e (headSpec wsX8_report ({ frames := 3, cells := 0, slots := 0, locals := 65 })).room s m [.ref h0, .int a1, .int a2].toArray below meth c H locs 0 0 (MQ below (va_Qi (fun r (u : (Nat → Nat → Int32) × (Nat → Nat) × Int32) => True ∧ va_D A (mw_ h0 q u.2.1 u.2.2 cI cZ u.1) ∧ mi_ u.2.1 u.1 ∧ nb_ u.2.1 ∧ (u.2.1 0 = n 0 ∧ u.2.1 1 = n 1)) (fun u s' => va_P (dC, dI) vwCl (mw_ h0 q u.2.1 u.2.2 cI cZ u.1) s'.heap) A) [.ref h0, .int a1, .int a2].toArray s 0 0 A) (F0 m 27 ls []) := by
      intro k
      induction k with
      | zero =>
        intro j27 F27 dl H locs ls hj hP hD hI27 hS hl
        have hj : j27 = 6 := by omega
        subst j27
        refine lv_iload hx hb dX8_report_27 (lv_at hl 0 rfl) ?_
        refine lv_bipush (v := 6) hx hb dX8_report_29 (by decide) ?_
        refine lv_icmp_ge (tgt := 59) hx hb dX8_report_31 (by decide) (fun h_4 => ?_) (fun h_4 => absurd (lp_ge0 (B := 6) rfl) h_4)
        refine lv_iload_n hx hb dX8_report_59 rfl (lv_at hl 1 rfl) ?_
        exact W.iret (v := (nI (n 4))) hx hb hr (fun t9 ht hW => ⟨⟨(nI (n 4)), (F27, n3, dl), rfl, ⟨trivial, hD, hI27, hN, ⟨by rw [hn3]; rfl, by rw [hn3]; rfl⟩⟩, by show va_P (dC, dI) vwCl _ t9.heap; rw [ht]; exact hP⟩, hS.F ht⟩) hS.2.2 dX8_report_60
      | succ k ih27 =>
        intro j27 F27 dl H locs ls hj hP hD hI27 hS hl
        have hj27 : j27 < 6 := by omega
        refine lv_iload hx hb dX8_report_27 (lv_at hl 0 rfl) ?_
        refine lv_bipush (v := 6) hx hb dX8_report_29 (by decide) ?_
        refine lv_icmp_ge (tgt := 59) hx hb dX8_report_31 (by decide) (fun h_5 => absurd h_5 (lp_ge (B := 6) (by omega) (by omega) rfl)) (fun h_5 => ?_)
        refine lv_aload_n hx hb dX8_report_34 rfl (lv_at hl 2 rfl) ?_
        refine va_get (D := (dC, dI)) (ci := 7) (v := .ref (q 31)) (C := RX8) (T := TX8) (N := 37) hx hb hts hinX8 hown hK hP 0 rfl rfl 31 (by decide) (hts (.fieldLink RX8 89 "FurPostsModel" "letterStore" "[I") (by decide +kernel)) (fun _ h9 => h9) rfl dX8_report_35 ?_
        refine lv_bipush (v := 6) hx hb dX8_report_38 (by decide) ?_
        refine lv_iload_n hx hb dX8_report_40 rfl (lv_at hl 1 rfl) ?_
        refine lv_imul hx hb dX8_report_41 ?_
        refine lv_iload hx hb dX8_report_42 (lv_at hl 0 rfl) ?_
        refine lv_iadd hx hb dX8_report_44 ?_
        refine lv_aload_n hx hb dX8_report_45 rfl (lv_at hl 2 rfl) ?_
        refine lv_iload_n hx hb dX8_report_46 rfl (lv_at hl 3 rfl) ?_
        refine lv_iload hx hb dX8_report_47 (lv_at hl 0 rfl) ?_
        refine pg_call (va_runV (As := [.int a1, .int (nI j27)]) (rest := [.int ((6 * (nI (n 4))) + (nI j27)), .ref (q 31)]) ⟨hx, hb, hml, hown, hts⟩ (k_X8_stored l dC dI h0 q n3 dl cI cZ F27 hI27 hN a1 (nI j27) ((hg1 h_2).1) (vp_in_nI (show j27 < 6 by omega) (by decide))) (cwV 2 hts gX8_report_X8_stored rfl rfl rfl (by decide +kernel) ⟨Nat.le_of_ble_eq_true rfl, Nat.le_of_ble_eq_true rfl⟩) (pu_pre hP hK (ci := 7) (q0 := 0) rfl rfl) rfl rfl hl.1 rfl (lv_room (Nat.le_of_ble_eq_true rfl)) dX8_report_49 ⟨Nat.le_of_ble_eq_true rfl, Nat.le_of_ble_eq_true rfl⟩) (fun w6 hw6 => ?_)
        obtain ⟨r6, rfl, hg6⟩ := hw6
        refine va_iast hx hb hK hP hD hS 27 0 rfl rfl (i := ((6 * (nI (n 4))) + (nI j27))) (x := r6) (vp_lin (a := 300) (b := 6) (m := 6) (vp_in_nI ((hg1 h_2).2.2) (by decide)) (vp_in_nI (show j27 < 6 by omega) (by decide)) rfl (by decide)) dX8_report_52 (fun H locs hP2 hD2 hS => ?_)
        obtain ⟨F7, hF7, hP, hD, hI7⟩ : ∃ F7 : Nat → Nat → Int32, F7 = va_up F27 31 (upd (F27 31) (Int32.toNatClampNeg ((6 * (nI (n 4))) + (nI j27))) r6) ∧ va_P (dC, dI) vwCl (mw_ h0 q n3 dl cI cZ F7) H ∧ va_D A (mw_ h0 q n3 dl cI cZ F7) ∧ mi_ n3 F7 := ⟨_, rfl, hP2, hD2, hI27⟩
        refine lv_iinc (v := (nI (j27 + 1))) (lv' := [(4, .int (nI (j27 + 1))), (3, .int (nI (n 4))), (0, .ref h0), (1, .int a1), (2, .int a2)]) hx hb dX8_report_53 hl (k := 0) rfl (show nI j27 + 1 = nI (j27 + 1) from nI_1 j27) (by decide) rfl (fun ls hl => ?_)
        refine lv_goto (tgt := 27) hx hb dX8_report_56 (by decide) ?_
        exact ih27 (j27 + 1) F7 dl H locs ls (by omega) hP hD hI7 hS (lv_sub hl [0, 1, 2, 3, 4] rfl)
    exact key27 6 0 F3 dl H locs ls (by omega) hP hD hI3 hS (lv_sub hl [0, 1, 2, 3, 4] rfl)
  · skip
    refine lv_iconst (v := (-1)) hx hb dX8_report_9 (by decide) ?_
    exact W.iret (v := (-1)) hx hb hr (fun t9 ht hW => ⟨⟨(-1), (F, n, dl), rfl, ⟨trivial, hD, hI, hN, ⟨rfl, rfl⟩⟩, by show va_P (dC, dI) vwCl _ t9.heap; rw [ht]; exact hP⟩, hS.F ht⟩) hS.2.2 dX8_report_10

set_option maxHeartbeats 4000000 in
set_option maxRecDepth 100000 in
theorem m_X8_post (l : Launch) (dC : Nat → ClassId) (dI : Nat → Nat → Nat) (h0 : Nat) (q n : Nat → Nat) (dl : Int32) (cI cZ : ClassId) (F : Nat → Nat → Int32) (hI : mi_ n F) (hN : nb_ n) (A : Nat → Prop) (hD : va_D A (mw_ h0 q n dl cI cZ F)) : Met l yX8_post wsX8_post ({ frames := 0, cells := 0, slots := 0, locals := 0 }) (va_Pc [.ref h0] (pu_P (dC, dI) vwCl (mt_ cI cZ) (mw_ h0 q n dl cI cZ F))) (va_Qi (fun r (u : (Nat → Nat → Int32) × (Nat → Nat) × Int32) => r = post_r (n 1) ∧ va_D A (mw_ h0 q u.2.1 u.2.2 cI cZ u.1) ∧ mi_ u.2.1 u.1 ∧ nb_ u.2.1 ∧ (u.2.1 0 = n 0 ∧ u.2.1 1 = post_n (n 1))) (fun u s' => va_P (dC, dI) vwCl (mw_ h0 q u.2.1 u.2.2 cI cZ u.1) s'.heap) A) 0 0 A := by
  refine Met.ofW (cc := cX8_post) (maxL := 1) (ret := (some .int)) (by decide) rfl ?_
  intro p e s m args below meth c s₁ B hml hv
  obtain ⟨rfl, hP, hK⟩ := hv
  have hx := B.exec
  have hb := B.bytes
  have hr := B.returns
  have hts := atoms_spec (ws := wsX8_post) B.pre
  have hown : s.vm.findClass RX8 = some m.cls := findClass_of_methodNamed B.named
  have hlocks := B.notSynchronized
  have hinX8 : ∀ w ∈ u_ws RX8 TX8 37, w ∈ wsX8_post := by decide +kernel
  have hS : va_S A s.heap s.heap [] := va_S.rf
  have hl := lv_entry ([.ref h0]) (n := 1) (Nat.le_of_ble_eq_true rfl)
  rw [lg_entry_eq]
  generalize (lg_sl ([.ref h0]) ++ List.replicate (1 - (lg_sl ([.ref h0])).length) Slot.unset).toArray = ls at hl ⊢
  have hl : lv_has ls 1 [(0, .ref h0)] := hl
  obtain ⟨H, hH, hP, hS⟩ : ∃ H, H = s.heap ∧ va_P (dC, dI) vwCl (mw_ h0 q n dl cI cZ F) H ∧ va_S A s.heap H [] := ⟨_, rfl, hP, hS⟩
  rw [← hH]
  generalize ([] : List Loc) = locs at hS ⊢
  refine lv_aload_n hx hb dX8_post_0 rfl (lv_at hl 0 rfl) ?_
  refine va_get (D := (dC, dI)) (ci := 7) (v := .int (nI (n 1))) (C := RX8) (T := TX8) (N := 37) hx hb hts hinX8 hown hK hP 0 rfl rfl 1 (by decide) (hts (.fieldLink RX8 104 "FurPostsModel" "posts" "I") (by decide +kernel)) (fun _ h9 => h9) rfl dX8_post_1 ?_
  refine lv_bipush (v := 8) hx hb dX8_post_4 (by decide) ?_
  refine lv_icmp_ne (tgt := 11) hx hb dX8_post_6 (by decide) (fun h_1 => ?_) (fun h_1 => ?_)
  · skip
    refine lv_aload_n hx hb dX8_post_11 rfl (lv_at hl 0 rfl) ?_
    refine lv_dup hx hb dX8_post_12 rfl ?_
    refine va_get (D := (dC, dI)) (ci := 7) (v := .int (nI (n 1))) (C := RX8) (T := TX8) (N := 37) hx hb hts hinX8 hown hK hP 0 rfl rfl 1 (by decide) (hts (.fieldLink RX8 104 "FurPostsModel" "posts" "I") (by decide +kernel)) (fun _ h9 => h9) rfl dX8_post_13 ?_
    refine lv_iconst (v := 1) hx hb dX8_post_16 (by decide) ?_
    refine lv_iadd hx hb dX8_post_17 ?_
    rw [nI_1]
    refine va_put (D := (dC, dI)) (ci := 7) (v := .int (nI ((n 1) + 1))) (ty := .int) (C := RX8) (T := TX8) (N := 37) hx hb hts hinX8 tyX8 tyX8_ok nmX8 hown hK hP hD hS 0 rfl rfl 1 (by decide) (hts (.fieldLink RX8 104 "FurPostsModel" "posts" "I") (by decide +kernel)) (fun _ h9 => h9) rfl (by decide +kernel) rfl rfl (Nat.le_of_ble_eq_true rfl) dX8_post_18 (fun H locs hP2 hD2 hS => ?_)
    obtain ⟨n2, hn2, hP, hD⟩ : ∃ n2 : Nat → Nat, n2 = va_up n 1 (((n 1) + 1)) ∧ va_P (dC, dI) vwCl (mw_ h0 q n2 dl cI cZ F) H ∧ va_D A (mw_ h0 q n2 dl cI cZ F) := ⟨_, rfl, hP2, hD2⟩
    have hN : nb_ n2 := by rw [hn2]; exact ⟨hN.1, (show ((n 1) + 1) ≤ 8 by have := nI_nev (B := 8) h_1 rfl; omega), hN.2.2.1, hN.2.2.2.1, hN.2.2.2.2⟩
    have hIn2 : mi_ n2 F := by rw [hn2]; exact hI
    refine lv_aload_n hx hb dX8_post_21 rfl (lv_at hl 0 rfl) ?_
    refine va_get (D := (dC, dI)) (ci := 7) (v := .int (nI (n2 1))) (C := RX8) (T := TX8) (N := 37) hx hb hts hinX8 hown hK hP 0 rfl rfl 1 (by decide) (hts (.fieldLink RX8 104 "FurPostsModel" "posts" "I") (by decide +kernel)) (fun _ h9 => h9) rfl dX8_post_22 ?_
    refine lv_iconst (v := 1) hx hb dX8_post_25 (by decide) ?_
    refine lv_isub hx hb dX8_post_26 ?_
    exact W.iret (v := ((nI (n2 1)) - 1)) hx hb hr (fun t9 ht hW => ⟨⟨((nI (n2 1)) - 1), (F, n2, dl), rfl, ⟨(post_ans (show n 1 < 8 by have := nI_nev (B := 8) h_1 rfl; omega) hn2), hD, hIn2, hN, ⟨by rw [hn2]; rfl, by rw [hn2]; exact (if_pos (show n 1 < 8 by have := nI_nev (B := 8) h_1 rfl; omega)).symm⟩⟩, by show va_P (dC, dI) vwCl _ t9.heap; rw [ht]; exact hP⟩, hS.F ht⟩) hS.2.2 dX8_post_27
  · skip
    refine lv_iconst (v := (-1)) hx hb dX8_post_9 (by decide) ?_
    exact W.iret (v := (-1)) hx hb hr (fun t9 ht hW => ⟨⟨(-1), (F, n, dl), rfl, ⟨(post_nr h_1), hD, hI, hN, ⟨rfl, post_no h_1⟩⟩, by show va_P (dC, dI) vwCl _ t9.heap; rw [ht]; exact hP⟩, hS.F ht⟩) hS.2.2 dX8_post_10

set_option maxHeartbeats 4000000 in
set_option maxRecDepth 100000 in
theorem m_X8_way (l : Launch) (dC : Nat → ClassId) (dI : Nat → Nat → Nat) (h0 : Nat) (q n : Nat → Nat) (dl : Int32) (cI cZ : ClassId) (F : Nat → Nat → Int32) (hI : mi_ n F) (hN : nb_ n) (A : Nat → Prop) (hD : va_D A (mw_ h0 q n dl cI cZ F)) (a1 : Int32) (a2 : Int32) (a3 : Int32) (a4 : Int32) : Met l yX8_way wsX8_way ({ frames := 2, cells := 0, slots := 0, locals := 43 }) (va_Pc [.ref h0, .int a1, .int a2, .int a3, .int a4] (pu_P (dC, dI) vwCl (mt_ cI cZ) (mw_ h0 q n dl cI cZ F))) (va_Qi (fun r (u : (Nat → Nat → Int32) × (Nat → Nat) × Int32) => True ∧ va_D A (mw_ h0 q u.2.1 u.2.2 cI cZ u.1) ∧ mi_ u.2.1 u.1 ∧ nb_ u.2.1 ∧ (u.2.1 0 = n 0 ∧ u.2.1 1 = n 1)) (fun u s' => va_P (dC, dI) vwCl (mw_ h0 q u.2.1 u.2.2 cI cZ u.1) s'.heap) A) 0 0 A := by
  refine Met.ofW (cc := cX8_way) (maxL := 8) (ret := (some .int)) (by decide) rfl ?_
  intro p e s m args below meth c s₁ B hml hv
  obtain ⟨rfl, hP, hK⟩ := hv
  have hx := B.exec
  have hb := B.bytes
  have hr := B.returns
  have hts := atoms_spec (ws := wsX8_way) B.pre
  have hown : s.vm.findClass RX8 = some m.cls := findClass_of_methodNamed B.named
  have hlocks := B.notSynchronized
  have hinX8 : ∀ w ∈ u_ws RX8 TX8 37, w ∈ wsX8_way := by decide +kernel
  have hS : va_S A s.heap s.heap [] := va_S.rf
  have hl := lv_entry ([.ref h0, .int a1, .int a2, .int a3, .int a4]) (n := 8) (Nat.le_of_ble_eq_true rfl)
  rw [lg_entry_eq]
  generalize (lg_sl ([.ref h0, .int a1, .int a2, .int a3, .int a4]) ++ List.replicate (8 - (lg_sl ([.ref h0, .int a1, .int a2, .int a3, .int a4])).length) Slot.unset).toArray = ls at hl ⊢
  have hl : lv_has ls 8 [(0, .ref h0), (1, .int a1), (2, .int a2), (3, .int a3), (4, .int a4)] := hl
  obtain ⟨H, hH, hP, hS⟩ : ∃ H, H = s.heap ∧ va_P (dC, dI) vwCl (mw_ h0 q n dl cI cZ F) H ∧ va_S A s.heap H [] := ⟨_, rfl, hP, hS⟩
  rw [← hH]
  generalize ([] : List Loc) = locs at hS ⊢
  refine lv_iload_n hx hb dX8_way_0 rfl (lv_at hl 3 rfl) ?_
  refine lv_ldc (v := 1000000) hx hb hown (hts (.constant RX8 118 (1000000)) (by decide +kernel)) dX8_way_1 ?_
  refine lv_idiv hx hb dX8_way_3 (by decide) ?_
  refine lv_topi (fun v1 _ => ?_)
  refine lv_istore (lv' := [(5, .int v1), (0, .ref h0), (1, .int a1), (2, .int a2), (3, .int a3), (4, .int a4)]) hx hb dX8_way_4 hl (by decide) rfl (fun ls hl => ?_)
  refine lv_iload_n hx hb dX8_way_6 rfl (lv_at hl 4 rfl) ?_
  refine lv_sipush (v := 1000) hx hb dX8_way_7 (by decide) ?_
  refine lv_idiv hx hb dX8_way_10 (by decide) ?_
  refine lv_topi (fun v2 _ => ?_)
  refine lv_sipush (v := 1000) hx hb dX8_way_11 (by decide) ?_
  refine lv_irem hx hb dX8_way_14 (by decide) ?_
  refine lv_topi (fun v3 _ => ?_)
  refine lv_istore (lv' := [(6, .int v3), (5, .int v1), (0, .ref h0), (1, .int a1), (2, .int a2), (3, .int a3), (4, .int a4)]) hx hb dX8_way_15 hl (by decide) rfl (fun ls hl => ?_)
  refine lv_iload_n hx hb dX8_way_17 rfl (lv_at hl 5 rfl) ?_
  refine lv_sipush (v := 1000) hx hb dX8_way_18 (by decide) ?_
  refine lv_irem hx hb dX8_way_21 (by decide) ?_
  refine lv_topi (fun v4 _ => ?_)
  refine lv_istore (lv' := [(7, .int v4), (6, .int v3), (5, .int v1), (0, .ref h0), (1, .int a1), (2, .int a2), (3, .int a3), (4, .int a4)]) hx hb dX8_way_22 hl (by decide) rfl (fun ls hl => ?_)
  refine lv_iload_n hx hb dX8_way_24 rfl (lv_at hl 6 rfl) ?_
  refine lv_if_lt (tgt := 64) hx hb dX8_way_25 (by decide) (fun h_5 => ?_) (fun h_5 => ?_)
  · skip
    refine lv_iconst (v := (-1)) hx hb dX8_way_64 (by decide) ?_
    exact W.iret (v := (-1)) hx hb hr (fun t9 ht hW => ⟨⟨(-1), (F, n, dl), rfl, ⟨trivial, hD, hI, hN, ⟨rfl, rfl⟩⟩, by show va_P (dC, dI) vwCl _ t9.heap; rw [ht]; exact hP⟩, hS.F ht⟩) hS.2.2 dX8_way_65
  · skip
    refine lv_iload hx hb dX8_way_28 (lv_at hl 2 rfl) ?_
    refine lv_iconst (v := 1) hx hb dX8_way_30 (by decide) ?_
    refine lv_bipush (v := 40) hx hb dX8_way_31 (by decide) ?_
    refine pu_call (va_runS (As := [.int v1, .int 1, .int 40]) (rest := []) ⟨hx, hb, hml, hown, hts⟩ (c_X8_in l v1 1 40) (va_cwS 3 hts gX8_way_X8_in rfl rfl rfl (by decide +kernel) ⟨Nat.le_of_ble_eq_true rfl, Nat.le_of_ble_eq_true rfl⟩) pu_preS rfl rfl hl.1 rfl (lv_room (Nat.le_of_ble_eq_true rfl)) dX8_way_33 ⟨Nat.le_of_ble_eq_true rfl, Nat.le_of_ble_eq_true rfl⟩) ?_
    refine lv_if_eq (tgt := 64) hx hb dX8_way_36 (by decide) (fun h_6 => ?_) (fun h_6 => ?_)
    · skip
      refine lv_iconst (v := (-1)) hx hb dX8_way_64 (by decide) ?_
      exact W.iret (v := (-1)) hx hb hr (fun t9 ht hW => ⟨⟨(-1), (F, n, dl), rfl, ⟨trivial, hD, hI, hN, ⟨rfl, rfl⟩⟩, by show va_P (dC, dI) vwCl _ t9.heap; rw [ht]; exact hP⟩, hS.F ht⟩) hS.2.2 dX8_way_65
    · skip
      refine lv_iload hx hb dX8_way_39 (lv_at hl 1 rfl) ?_
      refine lv_iconst (v := 0) hx hb dX8_way_41 (by decide) ?_
      refine lv_sipush (v := 364) hx hb dX8_way_42 (by decide) ?_
      refine pu_call (va_runS (As := [.int v3, .int 0, .int 364]) (rest := []) ⟨hx, hb, hml, hown, hts⟩ (c_X8_in l v3 0 364) (va_cwS 3 hts gX8_way_X8_in rfl rfl rfl (by decide +kernel) ⟨Nat.le_of_ble_eq_true rfl, Nat.le_of_ble_eq_true rfl⟩) pu_preS rfl rfl hl.1 rfl (lv_room (Nat.le_of_ble_eq_true rfl)) dX8_way_45 ⟨Nat.le_of_ble_eq_true rfl, Nat.le_of_ble_eq_true rfl⟩) ?_
      refine lv_if_eq (tgt := 64) hx hb dX8_way_48 (by decide) (fun h_7 => ?_) (fun h_7 => ?_)
      · skip
        refine lv_iconst (v := (-1)) hx hb dX8_way_64 (by decide) ?_
        exact W.iret (v := (-1)) hx hb hr (fun t9 ht hW => ⟨⟨(-1), (F, n, dl), rfl, ⟨trivial, hD, hI, hN, ⟨rfl, rfl⟩⟩, by show va_P (dC, dI) vwCl _ t9.heap; rw [ht]; exact hP⟩, hS.F ht⟩) hS.2.2 dX8_way_65
      · skip
        refine lv_iload hx hb dX8_way_51 (lv_at hl 0 rfl) ?_
        refine lv_iload hx hb dX8_way_53 (lv_at hl 1 rfl) ?_
        refine lv_sipush (v := 364) hx hb dX8_way_55 (by decide) ?_
        refine pu_call (va_runS (As := [.int v4, .int v3, .int 364]) (rest := []) ⟨hx, hb, hml, hown, hts⟩ (c_X8_in l v4 v3 364) (va_cwS 3 hts gX8_way_X8_in rfl rfl rfl (by decide +kernel) ⟨Nat.le_of_ble_eq_true rfl, Nat.le_of_ble_eq_true rfl⟩) pu_preS rfl rfl hl.1 rfl (lv_room (Nat.le_of_ble_eq_true rfl)) dX8_way_58 ⟨Nat.le_of_ble_eq_true rfl, Nat.le_of_ble_eq_true rfl⟩) ?_
        refine lv_if_ne (tgt := 66) hx hb dX8_way_61 (by decide) (fun h_8 => ?_) (fun h_8 => ?_)
        · skip
          refine lv_aload_n hx hb dX8_way_66 rfl (lv_at hl 3 rfl) ?_
          refine lv_iload_n hx hb dX8_way_67 rfl (lv_at hl 4 rfl) ?_
          refine pg_call (va_runV (As := [.int a1]) (rest := []) ⟨hx, hb, hml, hown, hts⟩ (k_X8_isPost l dC dI h0 q n dl cI cZ F hI hN a1) (cwV 1 hts gX8_way_X8_isPost rfl rfl rfl (by decide +kernel) ⟨Nat.le_of_ble_eq_true rfl, Nat.le_of_ble_eq_true rfl⟩) (pu_pre hP hK (ci := 7) (q0 := 0) rfl rfl) rfl rfl hl.1 rfl (lv_room (Nat.le_of_ble_eq_true rfl)) dX8_way_68 ⟨Nat.le_of_ble_eq_true rfl, Nat.le_of_ble_eq_true rfl⟩) (fun w9 hw9 => ?_)
          obtain ⟨r9, rfl, hg9⟩ := hw9
          refine lv_if_eq (tgt := 118) hx hb dX8_way_71 (by decide) (fun h_10 => ?_) (fun h_10 => ?_)
          · skip
            refine lv_iconst (v := (-1)) hx hb dX8_way_118 (by decide) ?_
            exact W.iret (v := (-1)) hx hb hr (fun t9 ht hW => ⟨⟨(-1), (F, n, dl), rfl, ⟨trivial, hD, hI, hN, ⟨rfl, rfl⟩⟩, by show va_P (dC, dI) vwCl _ t9.heap; rw [ht]; exact hP⟩, hS.F ht⟩) hS.2.2 dX8_way_119
          · skip
            refine lv_aload_n hx hb dX8_way_74 rfl (lv_at hl 3 rfl) ?_
            refine lv_iload_n hx hb dX8_way_75 rfl (lv_at hl 5 rfl) ?_
            refine pg_call (va_runV (As := [.int a2]) (rest := []) ⟨hx, hb, hml, hown, hts⟩ (k_X8_isPost l dC dI h0 q n dl cI cZ F hI hN a2) (cwV 1 hts gX8_way_X8_isPost rfl rfl rfl (by decide +kernel) ⟨Nat.le_of_ble_eq_true rfl, Nat.le_of_ble_eq_true rfl⟩) (pu_pre hP hK (ci := 7) (q0 := 0) rfl rfl) rfl rfl hl.1 rfl (lv_room (Nat.le_of_ble_eq_true rfl)) dX8_way_76 ⟨Nat.le_of_ble_eq_true rfl, Nat.le_of_ble_eq_true rfl⟩) (fun w11 hw11 => ?_)
            obtain ⟨r11, rfl, hg11⟩ := hw11
            refine lv_if_eq (tgt := 118) hx hb dX8_way_79 (by decide) (fun h_12 => ?_) (fun h_12 => ?_)
            · skip
              refine lv_iconst (v := (-1)) hx hb dX8_way_118 (by decide) ?_
              exact W.iret (v := (-1)) hx hb hr (fun t9 ht hW => ⟨⟨(-1), (F, n, dl), rfl, ⟨trivial, hD, hI, hN, ⟨rfl, rfl⟩⟩, by show va_P (dC, dI) vwCl _ t9.heap; rw [ht]; exact hP⟩, hS.F ht⟩) hS.2.2 dX8_way_119
            · skip
              refine lv_iload_n hx hb dX8_way_82 rfl (lv_at hl 4 rfl) ?_
              refine lv_iload_n hx hb dX8_way_83 rfl (lv_at hl 5 rfl) ?_
              refine lv_icmp_eq (tgt := 118) hx hb dX8_way_84 (by decide) (fun h_13 => ?_) (fun h_13 => ?_)
              · skip
                refine lv_iconst (v := (-1)) hx hb dX8_way_118 (by decide) ?_
                exact W.iret (v := (-1)) hx hb hr (fun t9 ht hW => ⟨⟨(-1), (F, n, dl), rfl, ⟨trivial, hD, hI, hN, ⟨rfl, rfl⟩⟩, by show va_P (dC, dI) vwCl _ t9.heap; rw [ht]; exact hP⟩, hS.F ht⟩) hS.2.2 dX8_way_119
              · skip
                refine lv_aload_n hx hb dX8_way_87 rfl (lv_at hl 3 rfl) ?_
                refine lv_iload_n hx hb dX8_way_88 rfl (lv_at hl 4 rfl) ?_
                refine lv_iload_n hx hb dX8_way_89 rfl (lv_at hl 5 rfl) ?_
                refine pg_call (va_runV (As := [.int a1, .int a2]) (rest := []) ⟨hx, hb, hml, hown, hts⟩ (k_X8_between l dC dI h0 q n dl cI cZ F hI hN a1 a2) (cwV 2 hts gX8_way_X8_between rfl rfl rfl (by decide +kernel) ⟨Nat.le_of_ble_eq_true rfl, Nat.le_of_ble_eq_true rfl⟩) (pu_pre hP hK (ci := 7) (q0 := 0) rfl rfl) rfl rfl hl.1 rfl (lv_room (Nat.le_of_ble_eq_true rfl)) dX8_way_90 ⟨Nat.le_of_ble_eq_true rfl, Nat.le_of_ble_eq_true rfl⟩) (fun w14 hw14 => ?_)
                obtain ⟨r14, rfl, hg14⟩ := hw14
                refine lv_iconst (v := (-1)) hx hb dX8_way_93 (by decide) ?_
                refine lv_icmp_ne (tgt := 118) hx hb dX8_way_94 (by decide) (fun h_15 => ?_) (fun h_15 => ?_)
                · skip
                  refine lv_iconst (v := (-1)) hx hb dX8_way_118 (by decide) ?_
                  exact W.iret (v := (-1)) hx hb hr (fun t9 ht hW => ⟨⟨(-1), (F, n, dl), rfl, ⟨trivial, hD, hI, hN, ⟨rfl, rfl⟩⟩, by show va_P (dC, dI) vwCl _ t9.heap; rw [ht]; exact hP⟩, hS.F ht⟩) hS.2.2 dX8_way_119
                · skip
                  refine lv_iload hx hb dX8_way_97 (lv_at hl 7 rfl) ?_
                  refine lv_iconst (v := 1) hx hb dX8_way_99 (by decide) ?_
                  refine lv_sipush (v := 500) hx hb dX8_way_100 (by decide) ?_
                  refine pu_call (va_runS (As := [.int a4, .int 1, .int 500]) (rest := []) ⟨hx, hb, hml, hown, hts⟩ (c_X8_in l a4 1 500) (va_cwS 3 hts gX8_way_X8_in rfl rfl rfl (by decide +kernel) ⟨Nat.le_of_ble_eq_true rfl, Nat.le_of_ble_eq_true rfl⟩) pu_preS rfl rfl hl.1 rfl (lv_room (Nat.le_of_ble_eq_true rfl)) dX8_way_103 ⟨Nat.le_of_ble_eq_true rfl, Nat.le_of_ble_eq_true rfl⟩) ?_
                  refine lv_if_eq (tgt := 118) hx hb dX8_way_106 (by decide) (fun h_16 => ?_) (fun h_16 => ?_)
                  · skip
                    refine lv_iconst (v := (-1)) hx hb dX8_way_118 (by decide) ?_
                    exact W.iret (v := (-1)) hx hb hr (fun t9 ht hW => ⟨⟨(-1), (F, n, dl), rfl, ⟨trivial, hD, hI, hN, ⟨rfl, rfl⟩⟩, by show va_P (dC, dI) vwCl _ t9.heap; rw [ht]; exact hP⟩, hS.F ht⟩) hS.2.2 dX8_way_119
                  · skip
                    refine lv_aload_n hx hb dX8_way_109 rfl (lv_at hl 3 rfl) ?_
                    refine va_get (D := (dC, dI)) (ci := 7) (v := .int (nI (n 2))) (C := RX8) (T := TX8) (N := 37) hx hb hts hinX8 hown hK hP 0 rfl rfl 5 (by decide) (hts (.fieldLink RX8 115 "FurPostsModel" "ways" "I") (by decide +kernel)) (fun _ h9 => h9) rfl dX8_way_110 ?_
                    refine lv_bipush (v := 12) hx hb dX8_way_113 (by decide) ?_
                    refine lv_icmp_ne (tgt := 120) hx hb dX8_way_115 (by decide) (fun h_17 => ?_) (fun h_17 => ?_)
                    · skip
                      refine lv_aload_n hx hb dX8_way_120 rfl (lv_at hl 3 rfl) ?_
                      refine va_get (D := (dC, dI)) (ci := 7) (v := .ref (q 6)) (C := RX8) (T := TX8) (N := 37) hx hb hts hinX8 hown hK hP 0 rfl rfl 6 (by decide) (hts (.fieldLink RX8 19 "FurPostsModel" "wayA" "[I") (by decide +kernel)) (fun _ h9 => h9) rfl dX8_way_121 ?_
                      refine lv_aload_n hx hb dX8_way_124 rfl (lv_at hl 3 rfl) ?_
                      refine va_get (D := (dC, dI)) (ci := 7) (v := .int (nI (n 2))) (C := RX8) (T := TX8) (N := 37) hx hb hts hinX8 hown hK hP 0 rfl rfl 5 (by decide) (hts (.fieldLink RX8 115 "FurPostsModel" "ways" "I") (by decide +kernel)) (fun _ h9 => h9) rfl dX8_way_125 ?_
                      refine lv_iload_n hx hb dX8_way_128 rfl (lv_at hl 4 rfl) ?_
                      refine va_iast hx hb hK hP hD hS 4 0 rfl rfl (i := (nI (n 2))) (x := a1) (vp_in_nI (show n 2 < 12 by have := nI_nev (B := 12) h_17 rfl; omega) (by decide)) dX8_way_129 (fun H locs hP2 hD2 hS => ?_)
                      obtain ⟨F18, hF18, hP, hD, hI18⟩ : ∃ F18 : Nat → Nat → Int32, F18 = va_up F 6 (upd (F 6) (Int32.toNatClampNeg (nI (n 2))) a1) ∧ va_P (dC, dI) vwCl (mw_ h0 q n dl cI cZ F18) H ∧ va_D A (mw_ h0 q n dl cI cZ F18) ∧ mi_ n F18 := ⟨_, rfl, hP2, hD2, mi_up6 hI ((hg9 h_10))⟩
                      refine lv_aload_n hx hb dX8_way_130 rfl (lv_at hl 3 rfl) ?_
                      refine va_get (D := (dC, dI)) (ci := 7) (v := .ref (q 7)) (C := RX8) (T := TX8) (N := 37) hx hb hts hinX8 hown hK hP 0 rfl rfl 7 (by decide) (hts (.fieldLink RX8 22 "FurPostsModel" "wayB" "[I") (by decide +kernel)) (fun _ h9 => h9) rfl dX8_way_131 ?_
                      refine lv_aload_n hx hb dX8_way_134 rfl (lv_at hl 3 rfl) ?_
                      refine va_get (D := (dC, dI)) (ci := 7) (v := .int (nI (n 2))) (C := RX8) (T := TX8) (N := 37) hx hb hts hinX8 hown hK hP 0 rfl rfl 5 (by decide) (hts (.fieldLink RX8 115 "FurPostsModel" "ways" "I") (by decide +kernel)) (fun _ h9 => h9) rfl dX8_way_135 ?_
                      refine lv_iload_n hx hb dX8_way_138 rfl (lv_at hl 5 rfl) ?_
                      refine va_iast hx hb hK hP hD hS 5 0 rfl rfl (i := (nI (n 2))) (x := a2) (vp_in_nI (show n 2 < 12 by have := nI_nev (B := 12) h_17 rfl; omega) (by decide)) dX8_way_139 (fun H locs hP2 hD2 hS => ?_)
                      obtain ⟨F19, hF19, hP, hD, hI19⟩ : ∃ F19 : Nat → Nat → Int32, F19 = va_up F18 7 (upd (F18 7) (Int32.toNatClampNeg (nI (n 2))) a2) ∧ va_P (dC, dI) vwCl (mw_ h0 q n dl cI cZ F19) H ∧ va_D A (mw_ h0 q n dl cI cZ F19) ∧ mi_ n F19 := ⟨_, rfl, hP2, hD2, mi_up7 hI18 ((hg11 h_12))⟩
                      refine lv_aload_n hx hb dX8_way_140 rfl (lv_at hl 3 rfl) ?_
                      refine va_get (D := (dC, dI)) (ci := 7) (v := .ref (q 8)) (C := RX8) (T := TX8) (N := 37) hx hb hts hinX8 hown hK hP 0 rfl rfl 8 (by decide) (hts (.fieldLink RX8 25 "FurPostsModel" "wayLong" "[I") (by decide +kernel)) (fun _ h9 => h9) rfl dX8_way_141 ?_
                      refine lv_aload_n hx hb dX8_way_144 rfl (lv_at hl 3 rfl) ?_
                      refine va_get (D := (dC, dI)) (ci := 7) (v := .int (nI (n 2))) (C := RX8) (T := TX8) (N := 37) hx hb hts hinX8 hown hK hP 0 rfl rfl 5 (by decide) (hts (.fieldLink RX8 115 "FurPostsModel" "ways" "I") (by decide +kernel)) (fun _ h9 => h9) rfl dX8_way_145 ?_
                      refine lv_iload hx hb dX8_way_148 (lv_at hl 2 rfl) ?_
                      refine va_iast hx hb hK hP hD hS 6 0 rfl rfl (i := (nI (n 2))) (x := v1) (vp_in_nI (show n 2 < 12 by have := nI_nev (B := 12) h_17 rfl; omega) (by decide)) dX8_way_150 (fun H locs hP2 hD2 hS => ?_)
                      obtain ⟨F20, hF20, hP, hD, hI20⟩ : ∃ F20 : Nat → Nat → Int32, F20 = va_up F19 8 (upd (F19 8) (Int32.toNatClampNeg (nI (n 2))) v1) ∧ va_P (dC, dI) vwCl (mw_ h0 q n dl cI cZ F20) H ∧ va_D A (mw_ h0 q n dl cI cZ F20) ∧ mi_ n F20 := ⟨_, rfl, hP2, hD2, hI19⟩
                      refine lv_aload_n hx hb dX8_way_151 rfl (lv_at hl 3 rfl) ?_
                      refine va_get (D := (dC, dI)) (ci := 7) (v := .ref (q 9)) (C := RX8) (T := TX8) (N := 37) hx hb hts hinX8 hown hK hP 0 rfl rfl 9 (by decide) (hts (.fieldLink RX8 28 "FurPostsModel" "opens" "[I") (by decide +kernel)) (fun _ h9 => h9) rfl dX8_way_152 ?_
                      refine lv_aload_n hx hb dX8_way_155 rfl (lv_at hl 3 rfl) ?_
                      refine va_get (D := (dC, dI)) (ci := 7) (v := .int (nI (n 2))) (C := RX8) (T := TX8) (N := 37) hx hb hts hinX8 hown hK hP 0 rfl rfl 5 (by decide) (hts (.fieldLink RX8 115 "FurPostsModel" "ways" "I") (by decide +kernel)) (fun _ h9 => h9) rfl dX8_way_156 ?_
                      refine lv_iload hx hb dX8_way_159 (lv_at hl 1 rfl) ?_
                      refine va_iast hx hb hK hP hD hS 7 0 rfl rfl (i := (nI (n 2))) (x := v3) (vp_in_nI (show n 2 < 12 by have := nI_nev (B := 12) h_17 rfl; omega) (by decide)) dX8_way_161 (fun H locs hP2 hD2 hS => ?_)
                      obtain ⟨F21, hF21, hP, hD, hI21⟩ : ∃ F21 : Nat → Nat → Int32, F21 = va_up F20 9 (upd (F20 9) (Int32.toNatClampNeg (nI (n 2))) v3) ∧ va_P (dC, dI) vwCl (mw_ h0 q n dl cI cZ F21) H ∧ va_D A (mw_ h0 q n dl cI cZ F21) ∧ mi_ n F21 := ⟨_, rfl, hP2, hD2, hI20⟩
                      refine lv_aload_n hx hb dX8_way_162 rfl (lv_at hl 3 rfl) ?_
                      refine va_get (D := (dC, dI)) (ci := 7) (v := .ref (q 10)) (C := RX8) (T := TX8) (N := 37) hx hb hts hinX8 hown hK hP 0 rfl rfl 10 (by decide) (hts (.fieldLink RX8 31 "FurPostsModel" "shuts" "[I") (by decide +kernel)) (fun _ h9 => h9) rfl dX8_way_163 ?_
                      refine lv_aload_n hx hb dX8_way_166 rfl (lv_at hl 3 rfl) ?_
                      refine va_get (D := (dC, dI)) (ci := 7) (v := .int (nI (n 2))) (C := RX8) (T := TX8) (N := 37) hx hb hts hinX8 hown hK hP 0 rfl rfl 5 (by decide) (hts (.fieldLink RX8 115 "FurPostsModel" "ways" "I") (by decide +kernel)) (fun _ h9 => h9) rfl dX8_way_167 ?_
                      refine lv_iload hx hb dX8_way_170 (lv_at hl 0 rfl) ?_
                      refine va_iast hx hb hK hP hD hS 8 0 rfl rfl (i := (nI (n 2))) (x := v4) (vp_in_nI (show n 2 < 12 by have := nI_nev (B := 12) h_17 rfl; omega) (by decide)) dX8_way_172 (fun H locs hP2 hD2 hS => ?_)
                      obtain ⟨F22, hF22, hP, hD, hI22⟩ : ∃ F22 : Nat → Nat → Int32, F22 = va_up F21 10 (upd (F21 10) (Int32.toNatClampNeg (nI (n 2))) v4) ∧ va_P (dC, dI) vwCl (mw_ h0 q n dl cI cZ F22) H ∧ va_D A (mw_ h0 q n dl cI cZ F22) ∧ mi_ n F22 := ⟨_, rfl, hP2, hD2, hI21⟩
                      refine lv_aload_n hx hb dX8_way_173 rfl (lv_at hl 3 rfl) ?_
                      refine va_get (D := (dC, dI)) (ci := 7) (v := .ref (q 11)) (C := RX8) (T := TX8) (N := 37) hx hb hts hinX8 hown hK hP 0 rfl rfl 11 (by decide) (hts (.fieldLink RX8 34 "FurPostsModel" "bears" "[I") (by decide +kernel)) (fun _ h9 => h9) rfl dX8_way_174 ?_
                      refine lv_aload_n hx hb dX8_way_177 rfl (lv_at hl 3 rfl) ?_
                      refine va_get (D := (dC, dI)) (ci := 7) (v := .int (nI (n 2))) (C := RX8) (T := TX8) (N := 37) hx hb hts hinX8 hown hK hP 0 rfl rfl 5 (by decide) (hts (.fieldLink RX8 115 "FurPostsModel" "ways" "I") (by decide +kernel)) (fun _ h9 => h9) rfl dX8_way_178 ?_
                      refine lv_iload hx hb dX8_way_181 (lv_at hl 7 rfl) ?_
                      refine va_iast hx hb hK hP hD hS 9 0 rfl rfl (i := (nI (n 2))) (x := a4) (vp_in_nI (show n 2 < 12 by have := nI_nev (B := 12) h_17 rfl; omega) (by decide)) dX8_way_183 (fun H locs hP2 hD2 hS => ?_)
                      obtain ⟨F23, hF23, hP, hD, hI23⟩ : ∃ F23 : Nat → Nat → Int32, F23 = va_up F22 11 (upd (F22 11) (Int32.toNatClampNeg (nI (n 2))) a4) ∧ va_P (dC, dI) vwCl (mw_ h0 q n dl cI cZ F23) H ∧ va_D A (mw_ h0 q n dl cI cZ F23) ∧ mi_ n F23 := ⟨_, rfl, hP2, hD2, hI22⟩
                      refine lv_aload_n hx hb dX8_way_184 rfl (lv_at hl 3 rfl) ?_
                      refine lv_dup hx hb dX8_way_185 rfl ?_
                      refine va_get (D := (dC, dI)) (ci := 7) (v := .int (nI (n 2))) (C := RX8) (T := TX8) (N := 37) hx hb hts hinX8 hown hK hP 0 rfl rfl 5 (by decide) (hts (.fieldLink RX8 115 "FurPostsModel" "ways" "I") (by decide +kernel)) (fun _ h9 => h9) rfl dX8_way_186 ?_
                      refine lv_iconst (v := 1) hx hb dX8_way_189 (by decide) ?_
                      refine lv_iadd hx hb dX8_way_190 ?_
                      rw [nI_1]
                      refine va_put (D := (dC, dI)) (ci := 7) (v := .int (nI ((n 2) + 1))) (ty := .int) (C := RX8) (T := TX8) (N := 37) hx hb hts hinX8 tyX8 tyX8_ok nmX8 hown hK hP hD hS 0 rfl rfl 5 (by decide) (hts (.fieldLink RX8 115 "FurPostsModel" "ways" "I") (by decide +kernel)) (fun _ h9 => h9) rfl (by decide +kernel) rfl rfl (Nat.le_of_ble_eq_true rfl) dX8_way_191 (fun H locs hP2 hD2 hS => ?_)
                      obtain ⟨n24, hn24, hP, hD⟩ : ∃ n24 : Nat → Nat, n24 = va_up n 2 (((n 2) + 1)) ∧ va_P (dC, dI) vwCl (mw_ h0 q n24 dl cI cZ F23) H ∧ va_D A (mw_ h0 q n24 dl cI cZ F23) := ⟨_, rfl, hP2, hD2⟩
                      have hN : nb_ n24 := by rw [hn24]; exact ⟨hN.1, hN.2.1, (show ((n 2) + 1) ≤ 12 by have := nI_nev (B := 12) h_17 rfl; omega), hN.2.2.2.1, hN.2.2.2.2⟩
                      have hIn24 : mi_ n24 F23 := by rw [hn24]; exact hI23
                      refine lv_aload_n hx hb dX8_way_194 rfl (lv_at hl 3 rfl) ?_
                      refine va_get (D := (dC, dI)) (ci := 7) (v := .int (nI (n24 2))) (C := RX8) (T := TX8) (N := 37) hx hb hts hinX8 hown hK hP 0 rfl rfl 5 (by decide) (hts (.fieldLink RX8 115 "FurPostsModel" "ways" "I") (by decide +kernel)) (fun _ h9 => h9) rfl dX8_way_195 ?_
                      refine lv_iconst (v := 1) hx hb dX8_way_198 (by decide) ?_
                      refine lv_isub hx hb dX8_way_199 ?_
                      exact W.iret (v := ((nI (n24 2)) - 1)) hx hb hr (fun t9 ht hW => ⟨⟨((nI (n24 2)) - 1), (F23, n24, dl), rfl, ⟨trivial, hD, hIn24, hN, ⟨by rw [hn24]; rfl, by rw [hn24]; rfl⟩⟩, by show va_P (dC, dI) vwCl _ t9.heap; rw [ht]; exact hP⟩, hS.F ht⟩) hS.2.2 dX8_way_200
                    · skip
                      refine lv_iconst (v := (-1)) hx hb dX8_way_118 (by decide) ?_
                      exact W.iret (v := (-1)) hx hb hr (fun t9 ht hW => ⟨⟨(-1), (F, n, dl), rfl, ⟨trivial, hD, hI, hN, ⟨rfl, rfl⟩⟩, by show va_P (dC, dI) vwCl _ t9.heap; rw [ht]; exact hP⟩, hS.F ht⟩) hS.2.2 dX8_way_119
        · skip
          refine lv_iconst (v := (-1)) hx hb dX8_way_64 (by decide) ?_
          exact W.iret (v := (-1)) hx hb hr (fun t9 ht hW => ⟨⟨(-1), (F, n, dl), rfl, ⟨trivial, hD, hI, hN, ⟨rfl, rfl⟩⟩, by show va_P (dC, dI) vwCl _ t9.heap; rw [ht]; exact hP⟩, hS.F ht⟩) hS.2.2 dX8_way_65

set_option maxHeartbeats 4000000 in
set_option maxRecDepth 100000 in
theorem m_X8_send (l : Launch) (dC : Nat → ClassId) (dI : Nat → Nat → Nat) (h0 : Nat) (q n : Nat → Nat) (dl : Int32) (cI cZ : ClassId) (F : Nat → Nat → Int32) (hI : mi_ n F) (hN : nb_ n) (A : Nat → Prop) (hD : va_D A (mw_ h0 q n dl cI cZ F)) (a1 : Int32) (a2 : Int32) : Met l yX8_send wsX8_send ({ frames := 3, cells := 0, slots := 0, locals := 67 }) (va_Pc [.ref h0, .int a1, .int a2] (pu_P (dC, dI) vwCl (mt_ cI cZ) (mw_ h0 q n dl cI cZ F))) (va_Qi (fun r (u : (Nat → Nat → Int32) × (Nat → Nat) × Int32) => True ∧ va_D A (mw_ h0 q u.2.1 u.2.2 cI cZ u.1) ∧ mi_ u.2.1 u.1 ∧ nb_ u.2.1 ∧ (u.2.1 0 = n 0 ∧ u.2.1 1 = n 1)) (fun u s' => va_P (dC, dI) vwCl (mw_ h0 q u.2.1 u.2.2 cI cZ u.1) s'.heap) A) 0 0 A := by
  refine Met.ofW (cc := cX8_send) (maxL := 6) (ret := (some .int)) (by decide) rfl ?_
  intro p e s m args below meth c s₁ B hml hv
  obtain ⟨rfl, hP, hK⟩ := hv
  have hx := B.exec
  have hb := B.bytes
  have hr := B.returns
  have hts := atoms_spec (ws := wsX8_send) B.pre
  have hown : s.vm.findClass RX8 = some m.cls := findClass_of_methodNamed B.named
  have hlocks := B.notSynchronized
  have hinX8 : ∀ w ∈ u_ws RX8 TX8 37, w ∈ wsX8_send := by decide +kernel
  have hS : va_S A s.heap s.heap [] := va_S.rf
  have hl := lv_entry ([.ref h0, .int a1, .int a2]) (n := 6) (Nat.le_of_ble_eq_true rfl)
  rw [lg_entry_eq]
  generalize (lg_sl ([.ref h0, .int a1, .int a2]) ++ List.replicate (6 - (lg_sl ([.ref h0, .int a1, .int a2])).length) Slot.unset).toArray = ls at hl ⊢
  have hl : lv_has ls 6 [(0, .ref h0), (1, .int a1), (2, .int a2)] := hl
  obtain ⟨H, hH, hP, hS⟩ : ∃ H, H = s.heap ∧ va_P (dC, dI) vwCl (mw_ h0 q n dl cI cZ F) H ∧ va_S A s.heap H [] := ⟨_, rfl, hP, hS⟩
  rw [← hH]
  generalize ([] : List Loc) = locs at hS ⊢
  refine lv_aload_n hx hb dX8_send_0 rfl (lv_at hl 0 rfl) ?_
  refine lv_iload_n hx hb dX8_send_1 rfl (lv_at hl 1 rfl) ?_
  refine pg_call (va_runV (As := [.int a1]) (rest := []) ⟨hx, hb, hml, hown, hts⟩ (k_X8_isPost l dC dI h0 q n dl cI cZ F hI hN a1) (cwV 1 hts gX8_send_X8_isPost rfl rfl rfl (by decide +kernel) ⟨Nat.le_of_ble_eq_true rfl, Nat.le_of_ble_eq_true rfl⟩) (pu_pre hP hK (ci := 7) (q0 := 0) rfl rfl) rfl rfl hl.1 rfl (lv_room (Nat.le_of_ble_eq_true rfl)) dX8_send_2 ⟨Nat.le_of_ble_eq_true rfl, Nat.le_of_ble_eq_true rfl⟩) (fun w1 hw1 => ?_)
  obtain ⟨r1, rfl, hg1⟩ := hw1
  refine lv_if_eq (tgt := 42) hx hb dX8_send_5 (by decide) (fun h_2 => ?_) (fun h_2 => ?_)
  · skip
    refine lv_iconst (v := (-1)) hx hb dX8_send_42 (by decide) ?_
    exact W.iret (v := (-1)) hx hb hr (fun t9 ht hW => ⟨⟨(-1), (F, n, dl), rfl, ⟨trivial, hD, hI, hN, ⟨rfl, rfl⟩⟩, by show va_P (dC, dI) vwCl _ t9.heap; rw [ht]; exact hP⟩, hS.F ht⟩) hS.2.2 dX8_send_43
  · skip
    refine lv_iload_n hx hb dX8_send_8 rfl (lv_at hl 2 rfl) ?_
    refine lv_iconst (v := 0) hx hb dX8_send_9 (by decide) ?_
    refine lv_aload_n hx hb dX8_send_10 rfl (lv_at hl 0 rfl) ?_
    refine va_get (D := (dC, dI)) (ci := 7) (v := .int (nI (n 2))) (C := RX8) (T := TX8) (N := 37) hx hb hts hinX8 hown hK hP 0 rfl rfl 5 (by decide) (hts (.fieldLink RX8 115 "FurPostsModel" "ways" "I") (by decide +kernel)) (fun _ h9 => h9) rfl dX8_send_11 ?_
    refine lv_iconst (v := 1) hx hb dX8_send_14 (by decide) ?_
    refine lv_isub hx hb dX8_send_15 ?_
    refine pu_call (va_runS (As := [.int a2, .int 0, .int ((nI (n 2)) - 1)]) (rest := []) ⟨hx, hb, hml, hown, hts⟩ (c_X8_in l a2 0 ((nI (n 2)) - 1)) (va_cwS 3 hts gX8_send_X8_in rfl rfl rfl (by decide +kernel) ⟨Nat.le_of_ble_eq_true rfl, Nat.le_of_ble_eq_true rfl⟩) pu_preS rfl rfl hl.1 rfl (lv_room (Nat.le_of_ble_eq_true rfl)) dX8_send_16 ⟨Nat.le_of_ble_eq_true rfl, Nat.le_of_ble_eq_true rfl⟩) ?_
    refine lv_if_eq (tgt := 42) hx hb dX8_send_19 (by decide) (fun h_3 => ?_) (fun h_3 => ?_)
    · skip
      refine lv_iconst (v := (-1)) hx hb dX8_send_42 (by decide) ?_
      exact W.iret (v := (-1)) hx hb hr (fun t9 ht hW => ⟨⟨(-1), (F, n, dl), rfl, ⟨trivial, hD, hI, hN, ⟨rfl, rfl⟩⟩, by show va_P (dC, dI) vwCl _ t9.heap; rw [ht]; exact hP⟩, hS.F ht⟩) hS.2.2 dX8_send_43
    · skip
      refine lv_aload_n hx hb dX8_send_22 rfl (lv_at hl 0 rfl) ?_
      refine va_get (D := (dC, dI)) (ci := 7) (v := .ref (q 6)) (C := RX8) (T := TX8) (N := 37) hx hb hts hinX8 hown hK hP 0 rfl rfl 6 (by decide) (hts (.fieldLink RX8 19 "FurPostsModel" "wayA" "[I") (by decide +kernel)) (fun _ h9 => h9) rfl dX8_send_23 ?_
      refine lv_iload_n hx hb dX8_send_26 rfl (lv_at hl 2 rfl) ?_
      refine va_iald hx hb hK hP 4 0 rfl rfl (i := a2) (sp_vpn h_3 (show n 2 ≤ 12 by omega) (by decide)) dX8_send_27 ?_
      refine lv_iload_n hx hb dX8_send_28 rfl (lv_at hl 1 rfl) ?_
      refine lv_icmp_eq (tgt := 44) hx hb dX8_send_29 (by decide) (fun h_4 => ?_) (fun h_4 => ?_)
      · skip
        refine lv_iconst (v := 0) hx hb dX8_send_44 (by decide) ?_
        refine lv_istore_n (lv' := [(3, .int 0), (0, .ref h0), (1, .int a1), (2, .int a2)]) hx hb dX8_send_45 rfl hl (by decide) rfl (fun ls hl => ?_)
        refine lv_iconst (v := 0) hx hb dX8_send_46 (by decide) ?_
        refine lv_istore (lv' := [(4, .int 0), (3, .int 0), (0, .ref h0), (1, .int a1), (2, .int a2)]) hx hb dX8_send_47 hl (by decide) rfl (fun ls hl => ?_)
        have key49 : ∀ (k j49 : Nat) (x49_3 : Int32) (F49 : Nat → Nat → Int32) (dl : Int32) (H : Heap) (locs : List Loc) (ls : Array Slot), j49 + k = 6 → va_P (dC, dI) vwCl (mw_ h0 q n dl cI cZ F49) H → va_D A (mw_ h0 q n dl cI cZ F49) → mi_ n F49 → va_S A s.heap H locs → lv_has ls 6 [(4, .int (nI j49)), (3, .int x49_3), (0, .ref h0), (1, .int a1), (2, .int a2)] →
            W p l e (headSpec wsX8_send ({ frames := 3, cells := 0, slots := 0, locals := 67 })).room s m [.ref h0, .int a1, .int a2].toArray below meth c H locs 0 0 (MQ below (va_Qi (fun r (u : (Nat → Nat → Int32) × (Nat → Nat) × Int32) => True ∧ va_D A (mw_ h0 q u.2.1 u.2.2 cI cZ u.1) ∧ mi_ u.2.1 u.1 ∧ nb_ u.2.1 ∧ (u.2.1 0 = n 0 ∧ u.2.1 1 = n 1)) (fun u s' => va_P (dC, dI) vwCl (mw_ h0 q u.2.1 u.2.2 cI cZ u.1) s'.heap) A) [.ref h0, .int a1, .int a2].toArray s 0 0 A) (F0 m 49 ls []) := by
          intro k
          induction k with
          | zero =>
            intro j49 x49_3 F49 dl H locs ls hj hP hD hI49 hS hl
            have hj : j49 = 6 := by omega
            subst j49
            refine lv_iload hx hb dX8_send_49 (lv_at hl 0 rfl) ?_
            refine lv_bipush (v := 6) hx hb dX8_send_51 (by decide) ?_
            refine lv_icmp_ge (tgt := 91) hx hb dX8_send_53 (by decide) (fun h_5 => ?_) (fun h_5 => absurd (lp_ge0 (B := 6) rfl) h_5)
            refine lv_aload_n hx hb dX8_send_91 rfl (lv_at hl 2 rfl) ?_
            refine lv_iload_n hx hb dX8_send_92 rfl (lv_at hl 4 rfl) ?_
            refine lv_aload_n hx hb dX8_send_93 rfl (lv_at hl 2 rfl) ?_
            refine va_get (D := (dC, dI)) (ci := 7) (v := .int (nI (n 0))) (C := RX8) (T := TX8) (N := 37) hx hb hts hinX8 hown hK hP 0 rfl rfl 0 (by decide) (hts (.fieldLink RX8 137 "FurPostsModel" "now" "I") (by decide +kernel)) (fun _ h9 => h9) rfl dX8_send_94 ?_
            refine pg_call (va_runV (As := [.int a2, .int (nI (n 0))]) (rest := []) ⟨hx, hb, hml, hown, hts⟩ (k_X8_isOpen l dC dI h0 q n dl cI cZ F49 hI49 hN a2 (nI (n 0)) (sp_vpn h_3 (show n 2 ≤ 12 by omega) (by decide))) (cwV 2 hts gX8_send_X8_isOpen rfl rfl rfl (by decide +kernel) ⟨Nat.le_of_ble_eq_true rfl, Nat.le_of_ble_eq_true rfl⟩) (pu_pre hP hK (ci := 7) (q0 := 0) rfl rfl) rfl rfl hl.1 rfl (lv_room (Nat.le_of_ble_eq_true rfl)) dX8_send_97 ⟨Nat.le_of_ble_eq_true rfl, Nat.le_of_ble_eq_true rfl⟩) (fun w6 hw6 => ?_)
            obtain ⟨r6, rfl, hg6⟩ := hw6
            refine lv_if_eq (tgt := 132) hx hb dX8_send_100 (by decide) (fun h_7 => ?_) (fun h_7 => ?_)
            · skip
              refine lv_iconst (v := (-1)) hx hb dX8_send_132 (by decide) ?_
              exact W.iret (v := (-1)) hx hb hr (fun t9 ht hW => ⟨⟨(-1), (F49, n, dl), rfl, ⟨trivial, hD, hI49, hN, ⟨rfl, rfl⟩⟩, by show va_P (dC, dI) vwCl _ t9.heap; rw [ht]; exact hP⟩, hS.F ht⟩) hS.2.2 dX8_send_133
            · skip
              refine lv_iload_n hx hb dX8_send_103 rfl (lv_at hl 1 rfl) ?_
              refine lv_aload_n hx hb dX8_send_104 rfl (lv_at hl 2 rfl) ?_
              refine va_get (D := (dC, dI)) (ci := 7) (v := .ref (q 11)) (C := RX8) (T := TX8) (N := 37) hx hb hts hinX8 hown hK hP 0 rfl rfl 11 (by decide) (hts (.fieldLink RX8 34 "FurPostsModel" "bears" "[I") (by decide +kernel)) (fun _ h9 => h9) rfl dX8_send_105 ?_
              refine lv_iload_n hx hb dX8_send_108 rfl (lv_at hl 4 rfl) ?_
              refine va_iald hx hb hK hP 9 0 rfl rfl (i := a2) (sp_vpn h_3 (show n 2 ≤ 12 by omega) (by decide)) dX8_send_109 ?_
              refine lv_icmp_gt (tgt := 132) hx hb dX8_send_110 (by decide) (fun h_8 => ?_) (fun h_8 => ?_)
              · skip
                refine lv_iconst (v := (-1)) hx hb dX8_send_132 (by decide) ?_
                exact W.iret (v := (-1)) hx hb hr (fun t9 ht hW => ⟨⟨(-1), (F49, n, dl), rfl, ⟨trivial, hD, hI49, hN, ⟨rfl, rfl⟩⟩, by show va_P (dC, dI) vwCl _ t9.heap; rw [ht]; exact hP⟩, hS.F ht⟩) hS.2.2 dX8_send_133
              · skip
                refine lv_aload_n hx hb dX8_send_113 rfl (lv_at hl 2 rfl) ?_
                refine va_get (D := (dC, dI)) (ci := 7) (v := .int (nI (n 3))) (C := RX8) (T := TX8) (N := 37) hx hb hts hinX8 hown hK hP 0 rfl rfl 13 (by decide) (hts (.fieldLink RX8 112 "FurPostsModel" "canoes" "I") (by decide +kernel)) (fun _ h9 => h9) rfl dX8_send_114 ?_
                refine lv_bipush (v := 120) hx hb dX8_send_117 (by decide) ?_
                refine lv_icmp_eq (tgt := 132) hx hb dX8_send_119 (by decide) (fun h_9 => ?_) (fun h_9 => ?_)
                · skip
                  refine lv_iconst (v := (-1)) hx hb dX8_send_132 (by decide) ?_
                  exact W.iret (v := (-1)) hx hb hr (fun t9 ht hW => ⟨⟨(-1), (F49, n, dl), rfl, ⟨trivial, hD, hI49, hN, ⟨rfl, rfl⟩⟩, by show va_P (dC, dI) vwCl _ t9.heap; rw [ht]; exact hP⟩, hS.F ht⟩) hS.2.2 dX8_send_133
                · skip
                  refine lv_aload_n hx hb dX8_send_122 rfl (lv_at hl 2 rfl) ?_
                  refine va_get (D := (dC, dI)) (ci := 7) (v := .int (nI (n 0))) (C := RX8) (T := TX8) (N := 37) hx hb hts hinX8 hown hK hP 0 rfl rfl 0 (by decide) (hts (.fieldLink RX8 137 "FurPostsModel" "now" "I") (by decide +kernel)) (fun _ h9 => h9) rfl dX8_send_123 ?_
                  refine lv_sipush (v := 3000) hx hb dX8_send_126 (by decide) ?_
                  refine lv_icmp_ne (tgt := 134) hx hb dX8_send_129 (by decide) (fun h_10 => ?_) (fun h_10 => ?_)
                  · skip
                    refine lv_aload_n hx hb dX8_send_134 rfl (lv_at hl 2 rfl) ?_
                    refine va_get (D := (dC, dI)) (ci := 7) (v := .int (nI (n 3))) (C := RX8) (T := TX8) (N := 37) hx hb hts hinX8 hown hK hP 0 rfl rfl 13 (by decide) (hts (.fieldLink RX8 112 "FurPostsModel" "canoes" "I") (by decide +kernel)) (fun _ h9 => h9) rfl dX8_send_135 ?_
                    refine lv_istore (lv' := [(4, .int (nI (n 3))), (3, .int x49_3), (0, .ref h0), (1, .int a1), (2, .int a2)]) hx hb dX8_send_138 hl (by decide) rfl (fun ls hl => ?_)
                    refine lv_aload_n hx hb dX8_send_140 rfl (lv_at hl 2 rfl) ?_
                    refine va_get (D := (dC, dI)) (ci := 7) (v := .ref (q 14)) (C := RX8) (T := TX8) (N := 37) hx hb hts hinX8 hown hK hP 0 rfl rfl 14 (by decide) (hts (.fieldLink RX8 40 "FurPostsModel" "from" "[I") (by decide +kernel)) (fun _ h9 => h9) rfl dX8_send_141 ?_
                    refine lv_iload hx hb dX8_send_144 (lv_at hl 0 rfl) ?_
                    refine lv_iload_n hx hb dX8_send_146 rfl (lv_at hl 3 rfl) ?_
                    refine va_iast hx hb hK hP hD hS 11 0 rfl rfl (i := (nI (n 3))) (x := a1) (vp_in_nI (show n 3 < 120 by have := nI_nev (B := 120) h_9 rfl; omega) (by decide)) dX8_send_147 (fun H locs hP2 hD2 hS => ?_)
                    obtain ⟨F11, hF11, hP, hD, hI11⟩ : ∃ F11 : Nat → Nat → Int32, F11 = va_up F49 14 (upd (F49 14) (Int32.toNatClampNeg (nI (n 3))) a1) ∧ va_P (dC, dI) vwCl (mw_ h0 q n dl cI cZ F11) H ∧ va_D A (mw_ h0 q n dl cI cZ F11) ∧ mi_ n F11 := ⟨_, rfl, hP2, hD2, hI49⟩
                    refine lv_aload_n hx hb dX8_send_148 rfl (lv_at hl 2 rfl) ?_
                    refine va_get (D := (dC, dI)) (ci := 7) (v := .ref (q 15)) (C := RX8) (T := TX8) (N := 37) hx hb hts hinX8 hown hK hP 0 rfl rfl 15 (by decide) (hts (.fieldLink RX8 43 "FurPostsModel" "to" "[I") (by decide +kernel)) (fun _ h9 => h9) rfl dX8_send_149 ?_
                    refine lv_iload hx hb dX8_send_152 (lv_at hl 0 rfl) ?_
                    refine lv_aload_n hx hb dX8_send_154 rfl (lv_at hl 2 rfl) ?_
                    refine va_get (D := (dC, dI)) (ci := 7) (v := .ref (q 6)) (C := RX8) (T := TX8) (N := 37) hx hb hts hinX8 hown hK hP 0 rfl rfl 6 (by decide) (hts (.fieldLink RX8 19 "FurPostsModel" "wayA" "[I") (by decide +kernel)) (fun _ h9 => h9) rfl dX8_send_155 ?_
                    refine lv_iload_n hx hb dX8_send_158 rfl (lv_at hl 4 rfl) ?_
                    refine va_iald hx hb hK hP 4 0 rfl rfl (i := a2) (sp_vpn h_3 (show n 2 ≤ 12 by omega) (by decide)) dX8_send_159 ?_
                    refine lv_iload_n hx hb dX8_send_160 rfl (lv_at hl 3 rfl) ?_
                    refine lv_icmp_ne (tgt := 173) hx hb dX8_send_161 (by decide) (fun h_12 => ?_) (fun h_12 => ?_)
                    · skip
                      refine lv_aload_n hx hb dX8_send_173 rfl (lv_at hl 2 rfl) ?_
                      refine va_get (D := (dC, dI)) (ci := 7) (v := .ref (q 6)) (C := RX8) (T := TX8) (N := 37) hx hb hts hinX8 hown hK hP 0 rfl rfl 6 (by decide) (hts (.fieldLink RX8 19 "FurPostsModel" "wayA" "[I") (by decide +kernel)) (fun _ h9 => h9) rfl dX8_send_174 ?_
                      refine lv_iload_n hx hb dX8_send_177 rfl (lv_at hl 4 rfl) ?_
                      refine va_iald hx hb hK hP 4 0 rfl rfl (i := a2) (sp_vpn h_3 (show n 2 ≤ 12 by omega) (by decide)) dX8_send_178 ?_
                      refine va_iast hx hb hK hP hD hS 12 0 rfl rfl (i := (nI (n 3))) (x := (F11 6 (Int32.toNatClampNeg a2))) (vp_in_nI (show n 3 < 120 by have := nI_nev (B := 120) h_9 rfl; omega) (by decide)) dX8_send_179 (fun H locs hP2 hD2 hS => ?_)
                      obtain ⟨F13, hF13, hP, hD, hI13⟩ : ∃ F13 : Nat → Nat → Int32, F13 = va_up F11 15 (upd (F11 15) (Int32.toNatClampNeg (nI (n 3))) (F11 6 (Int32.toNatClampNeg a2))) ∧ va_P (dC, dI) vwCl (mw_ h0 q n dl cI cZ F13) H ∧ va_D A (mw_ h0 q n dl cI cZ F13) ∧ mi_ n F13 := ⟨_, rfl, hP2, hD2, mi_up15 hI11 (hI11.1 _)⟩
                      refine lv_aload_n hx hb dX8_send_180 rfl (lv_at hl 2 rfl) ?_
                      refine va_get (D := (dC, dI)) (ci := 7) (v := .ref (q 16)) (C := RX8) (T := TX8) (N := 37) hx hb hts hinX8 hown hK hP 0 rfl rfl 16 (by decide) (hts (.fieldLink RX8 46 "FurPostsModel" "wayOf" "[I") (by decide +kernel)) (fun _ h9 => h9) rfl dX8_send_181 ?_
                      refine lv_iload hx hb dX8_send_184 (lv_at hl 0 rfl) ?_
                      refine lv_iload_n hx hb dX8_send_186 rfl (lv_at hl 4 rfl) ?_
                      refine va_iast hx hb hK hP hD hS 13 0 rfl rfl (i := (nI (n 3))) (x := a2) (vp_in_nI (show n 3 < 120 by have := nI_nev (B := 120) h_9 rfl; omega) (by decide)) dX8_send_187 (fun H locs hP2 hD2 hS => ?_)
                      obtain ⟨F14, hF14, hP, hD, hI14⟩ : ∃ F14 : Nat → Nat → Int32, F14 = va_up F13 16 (upd (F13 16) (Int32.toNatClampNeg (nI (n 3))) a2) ∧ va_P (dC, dI) vwCl (mw_ h0 q n dl cI cZ F14) H ∧ va_D A (mw_ h0 q n dl cI cZ F14) ∧ mi_ n F14 := ⟨_, rfl, hP2, hD2, mi_up16 hI13 (sp_vpn h_3 (show n 2 ≤ 12 by omega) (by decide))⟩
                      refine lv_aload_n hx hb dX8_send_188 rfl (lv_at hl 2 rfl) ?_
                      refine va_get (D := (dC, dI)) (ci := 7) (v := .ref (q 17)) (C := RX8) (T := TX8) (N := 37) hx hb hts hinX8 hown hK hP 0 rfl rfl 17 (by decide) (hts (.fieldLink RX8 49 "FurPostsModel" "toGo" "[I") (by decide +kernel)) (fun _ h9 => h9) rfl dX8_send_189 ?_
                      refine lv_iload hx hb dX8_send_192 (lv_at hl 0 rfl) ?_
                      refine lv_aload_n hx hb dX8_send_194 rfl (lv_at hl 2 rfl) ?_
                      refine va_get (D := (dC, dI)) (ci := 7) (v := .ref (q 8)) (C := RX8) (T := TX8) (N := 37) hx hb hts hinX8 hown hK hP 0 rfl rfl 8 (by decide) (hts (.fieldLink RX8 25 "FurPostsModel" "wayLong" "[I") (by decide +kernel)) (fun _ h9 => h9) rfl dX8_send_195 ?_
                      refine lv_iload_n hx hb dX8_send_198 rfl (lv_at hl 4 rfl) ?_
                      refine va_iald hx hb hK hP 6 0 rfl rfl (i := a2) (sp_vpn h_3 (show n 2 ≤ 12 by omega) (by decide)) dX8_send_199 ?_
                      refine va_iast hx hb hK hP hD hS 14 0 rfl rfl (i := (nI (n 3))) (x := (F14 8 (Int32.toNatClampNeg a2))) (vp_in_nI (show n 3 < 120 by have := nI_nev (B := 120) h_9 rfl; omega) (by decide)) dX8_send_200 (fun H locs hP2 hD2 hS => ?_)
                      obtain ⟨F15, hF15, hP, hD, hI15⟩ : ∃ F15 : Nat → Nat → Int32, F15 = va_up F14 17 (upd (F14 17) (Int32.toNatClampNeg (nI (n 3))) (F14 8 (Int32.toNatClampNeg a2))) ∧ va_P (dC, dI) vwCl (mw_ h0 q n dl cI cZ F15) H ∧ va_D A (mw_ h0 q n dl cI cZ F15) ∧ mi_ n F15 := ⟨_, rfl, hP2, hD2, hI14⟩
                      refine lv_aload_n hx hb dX8_send_201 rfl (lv_at hl 2 rfl) ?_
                      refine va_get (D := (dC, dI)) (ci := 7) (v := .ref (q 19)) (C := RX8) (T := TX8) (N := 37) hx hb hts hinX8 hown hK hP 0 rfl rfl 19 (by decide) (hts (.fieldLink RX8 55 "FurPostsModel" "sentOn" "[I") (by decide +kernel)) (fun _ h9 => h9) rfl dX8_send_202 ?_
                      refine lv_iload hx hb dX8_send_205 (lv_at hl 0 rfl) ?_
                      refine lv_aload_n hx hb dX8_send_207 rfl (lv_at hl 2 rfl) ?_
                      refine va_get (D := (dC, dI)) (ci := 7) (v := .int (nI (n 0))) (C := RX8) (T := TX8) (N := 37) hx hb hts hinX8 hown hK hP 0 rfl rfl 0 (by decide) (hts (.fieldLink RX8 137 "FurPostsModel" "now" "I") (by decide +kernel)) (fun _ h9 => h9) rfl dX8_send_208 ?_
                      refine va_iast hx hb hK hP hD hS 16 0 rfl rfl (i := (nI (n 3))) (x := (nI (n 0))) (vp_in_nI (show n 3 < 120 by have := nI_nev (B := 120) h_9 rfl; omega) (by decide)) dX8_send_211 (fun H locs hP2 hD2 hS => ?_)
                      obtain ⟨F16, hF16, hP, hD, hI16⟩ : ∃ F16 : Nat → Nat → Int32, F16 = va_up F15 19 (upd (F15 19) (Int32.toNatClampNeg (nI (n 3))) (nI (n 0))) ∧ va_P (dC, dI) vwCl (mw_ h0 q n dl cI cZ F16) H ∧ va_D A (mw_ h0 q n dl cI cZ F16) ∧ mi_ n F16 := ⟨_, rfl, hP2, hD2, hI15⟩
                      refine lv_aload_n hx hb dX8_send_212 rfl (lv_at hl 2 rfl) ?_
                      refine va_get (D := (dC, dI)) (ci := 7) (v := .ref (q 20)) (C := RX8) (T := TX8) (N := 37) hx hb hts hinX8 hown hK hP 0 rfl rfl 20 (by decide) (hts (.fieldLink RX8 58 "FurPostsModel" "cameOn" "[I") (by decide +kernel)) (fun _ h9 => h9) rfl dX8_send_213 ?_
                      refine lv_iload hx hb dX8_send_216 (lv_at hl 0 rfl) ?_
                      refine lv_iconst (v := (-1)) hx hb dX8_send_218 (by decide) ?_
                      refine va_iast hx hb hK hP hD hS 17 0 rfl rfl (i := (nI (n 3))) (x := (-1)) (vp_in_nI (show n 3 < 120 by have := nI_nev (B := 120) h_9 rfl; omega) (by decide)) dX8_send_219 (fun H locs hP2 hD2 hS => ?_)
                      obtain ⟨F17, hF17, hP, hD, hI17⟩ : ∃ F17 : Nat → Nat → Int32, F17 = va_up F16 20 (upd (F16 20) (Int32.toNatClampNeg (nI (n 3))) (-1)) ∧ va_P (dC, dI) vwCl (mw_ h0 q n dl cI cZ F17) H ∧ va_D A (mw_ h0 q n dl cI cZ F17) ∧ mi_ n F17 := ⟨_, rfl, hP2, hD2, hI16⟩
                      refine lv_iconst (v := 0) hx hb dX8_send_220 (by decide) ?_
                      refine lv_istore (lv' := [(5, .int 0), (4, .int (nI (n 3))), (3, .int x49_3), (0, .ref h0), (1, .int a1), (2, .int a2)]) hx hb dX8_send_221 hl (by decide) rfl (fun ls hl => ?_)
                      have key223 : ∀ (k j223 : Nat) (F223 : Nat → Nat → Int32) (dl : Int32) (H : Heap) (locs : List Loc) (ls : Array Slot), j223 + k = 6 → va_P (dC, dI) vwCl (mw_ h0 q n dl cI cZ F223) H → va_D A (mw_ h0 q n dl cI cZ F223) → mi_ n F223 → va_S A s.heap H locs → lv_has ls 6 [(5, .int (nI j223)), (4, .int (nI (n 3))), (3, .int x49_3), (0, .ref h0), (1, .int a1), (2, .int a2)] →
                          W p l e (headSpec wsX8_send ({ frames := 3, cells := 0, slots := 0, locals := 67 })).room s m [.ref h0, .int a1, .int a2].toArray below meth c H locs 0 0 (MQ below (va_Qi (fun r (u : (Nat → Nat → Int32) × (Nat → Nat) × Int32) => True ∧ va_D A (mw_ h0 q u.2.1 u.2.2 cI cZ u.1) ∧ mi_ u.2.1 u.1 ∧ nb_ u.2.1 ∧ (u.2.1 0 = n 0 ∧ u.2.1 1 = n 1)) (fun u s' => va_P (dC, dI) vwCl (mw_ h0 q u.2.1 u.2.2 cI cZ u.1) s'.heap) A) [.ref h0, .int a1, .int a2].toArray s 0 0 A) (F0 m 223 ls []) := by
                        intro k
                        induction k with
                        | zero =>
                          intro j223 F223 dl H locs ls hj hP hD hI223 hS hl
                          have hj : j223 = 6 := by omega
                          subst j223
                          refine lv_iload hx hb dX8_send_223 (lv_at hl 0 rfl) ?_
                          refine lv_bipush (v := 6) hx hb dX8_send_225 (by decide) ?_
                          refine lv_icmp_ge (tgt := 306) hx hb dX8_send_227 (by decide) (fun h_18 => ?_) (fun h_18 => absurd (lp_ge0 (B := 6) rfl) h_18)
                          refine lv_iconst (v := 0) hx hb dX8_send_306 (by decide) ?_
                          refine lv_istore (lv' := [(5, .int 0), (4, .int (nI (n 3))), (3, .int x49_3), (0, .ref h0), (1, .int a1), (2, .int a2)]) hx hb dX8_send_307 hl (by decide) rfl (fun ls hl => ?_)
                          have key309 : ∀ (k j309 : Nat) (F309 : Nat → Nat → Int32) (dl : Int32) (H : Heap) (locs : List Loc) (ls : Array Slot), j309 + k = (n 4) → va_P (dC, dI) vwCl (mw_ h0 q n dl cI cZ F309) H → va_D A (mw_ h0 q n dl cI cZ F309) → mi_ n F309 → va_S A s.heap H locs → lv_has ls 6 [(5, .int (nI j309)), (4, .int (nI (n 3))), (3, .int x49_3), (0, .ref h0), (1, .int a1), (2, .int a2)] →
                              W p l e (headSpec wsX8_send ({ frames := 3, cells := 0, slots := 0, locals := 67 })).room s m [.ref h0, .int a1, .int a2].toArray below meth c H locs 0 0 (MQ below (va_Qi (fun r (u : (Nat → Nat → Int32) × (Nat → Nat) × Int32) => True ∧ va_D A (mw_ h0 q u.2.1 u.2.2 cI cZ u.1) ∧ mi_ u.2.1 u.1 ∧ nb_ u.2.1 ∧ (u.2.1 0 = n 0 ∧ u.2.1 1 = n 1)) (fun u s' => va_P (dC, dI) vwCl (mw_ h0 q u.2.1 u.2.2 cI cZ u.1) s'.heap) A) [.ref h0, .int a1, .int a2].toArray s 0 0 A) (F0 m 309 ls []) := by
                            intro k
                            induction k with
                            | zero =>
                              intro j309 F309 dl H locs ls hj hP hD hI309 hS hl
                              have hj : j309 = (n 4) := by omega
                              subst j309
                              refine lv_iload hx hb dX8_send_309 (lv_at hl 0 rfl) ?_
                              refine lv_aload_n hx hb dX8_send_311 rfl (lv_at hl 3 rfl) ?_
                              refine va_get (D := (dC, dI)) (ci := 7) (v := .int (nI (n 4))) (C := RX8) (T := TX8) (N := 37) hx hb hts hinX8 hown hK hP 0 rfl rfl 25 (by decide) (hts (.fieldLink RX8 144 "FurPostsModel" "letters" "I") (by decide +kernel)) (fun _ h9 => h9) rfl dX8_send_312 ?_
                              refine lv_icmp_ge (tgt := 384) hx hb dX8_send_315 (by decide) (fun h_19 => ?_) (fun h_19 => absurd (lp_ge0 (B := (n 4)) rfl) h_19)
                              refine lv_aload_n hx hb dX8_send_384 rfl (lv_at hl 3 rfl) ?_
                              refine lv_dup hx hb dX8_send_385 rfl ?_
                              refine va_get (D := (dC, dI)) (ci := 7) (v := .int (nI (n 3))) (C := RX8) (T := TX8) (N := 37) hx hb hts hinX8 hown hK hP 0 rfl rfl 13 (by decide) (hts (.fieldLink RX8 112 "FurPostsModel" "canoes" "I") (by decide +kernel)) (fun _ h9 => h9) rfl dX8_send_386 ?_
                              refine lv_iconst (v := 1) hx hb dX8_send_389 (by decide) ?_
                              refine lv_iadd hx hb dX8_send_390 ?_
                              rw [nI_1]
                              refine va_put (D := (dC, dI)) (ci := 7) (v := .int (nI ((n 3) + 1))) (ty := .int) (C := RX8) (T := TX8) (N := 37) hx hb hts hinX8 tyX8 tyX8_ok nmX8 hown hK hP hD hS 0 rfl rfl 13 (by decide) (hts (.fieldLink RX8 112 "FurPostsModel" "canoes" "I") (by decide +kernel)) (fun _ h9 => h9) rfl (by decide +kernel) rfl rfl (Nat.le_of_ble_eq_true rfl) dX8_send_391 (fun H locs hP2 hD2 hS => ?_)
                              obtain ⟨n20, hn20, hP, hD⟩ : ∃ n20 : Nat → Nat, n20 = va_up n 3 (((n 3) + 1)) ∧ va_P (dC, dI) vwCl (mw_ h0 q n20 dl cI cZ F309) H ∧ va_D A (mw_ h0 q n20 dl cI cZ F309) := ⟨_, rfl, hP2, hD2⟩
                              have hN : nb_ n20 := by rw [hn20]; exact ⟨hN.1, hN.2.1, hN.2.2.1, (show ((n 3) + 1) ≤ 120 by have := nI_nev (B := 120) h_9 rfl; omega), hN.2.2.2.2⟩
                              have hIn20 : mi_ n20 F309 := by rw [hn20]; exact hI309
                              refine lv_iload hx hb dX8_send_394 (lv_at hl 1 rfl) ?_
                              exact W.iret (v := (nI (n 3))) hx hb hr (fun t9 ht hW => ⟨⟨(nI (n 3)), (F309, n20, dl), rfl, ⟨trivial, hD, hIn20, hN, ⟨by rw [hn20]; rfl, by rw [hn20]; rfl⟩⟩, by show va_P (dC, dI) vwCl _ t9.heap; rw [ht]; exact hP⟩, hS.F ht⟩) hS.2.2 dX8_send_396
                            | succ k ih309 =>
                              intro j309 F309 dl H locs ls hj hP hD hI309 hS hl
                              have hj309 : j309 < (n 4) := by omega
                              refine lv_iload hx hb dX8_send_309 (lv_at hl 0 rfl) ?_
                              refine lv_aload_n hx hb dX8_send_311 rfl (lv_at hl 3 rfl) ?_
                              refine va_get (D := (dC, dI)) (ci := 7) (v := .int (nI (n 4))) (C := RX8) (T := TX8) (N := 37) hx hb hts hinX8 hown hK hP 0 rfl rfl 25 (by decide) (hts (.fieldLink RX8 144 "FurPostsModel" "letters" "I") (by decide +kernel)) (fun _ h9 => h9) rfl dX8_send_312 ?_
                              refine lv_icmp_ge (tgt := 384) hx hb dX8_send_315 (by decide) (fun h_21 => absurd h_21 (lp_ge (B := (n 4)) (by omega) (by omega) rfl)) (fun h_21 => ?_)
                              refine lv_aload_n hx hb dX8_send_318 rfl (lv_at hl 3 rfl) ?_
                              refine va_get (D := (dC, dI)) (ci := 7) (v := .ref (q 28)) (C := RX8) (T := TX8) (N := 37) hx hb hts hinX8 hown hK hP 0 rfl rfl 28 (by decide) (hts (.fieldLink RX8 80 "FurPostsModel" "letterAt" "[I") (by decide +kernel)) (fun _ h9 => h9) rfl dX8_send_319 ?_
                              refine lv_iload hx hb dX8_send_322 (lv_at hl 0 rfl) ?_
                              refine va_iald hx hb hK hP 24 0 rfl rfl (i := (nI j309)) (vp_in_nI (show j309 < 300 by omega) (by decide)) dX8_send_324 ?_
                              refine lv_iload_n hx hb dX8_send_325 rfl (lv_at hl 4 rfl) ?_
                              refine lv_icmp_ne (tgt := 378) hx hb dX8_send_326 (by decide) (fun h_22 => ?_) (fun h_22 => ?_)
                              · skip
                                refine lv_iinc (v := (nI (j309 + 1))) (lv' := [(5, .int (nI (j309 + 1))), (4, .int (nI (n 3))), (3, .int x49_3), (0, .ref h0), (1, .int a1), (2, .int a2)]) hx hb dX8_send_378 hl (k := 0) rfl (show nI j309 + 1 = nI (j309 + 1) from nI_1 j309) (by decide) rfl (fun ls hl => ?_)
                                refine lv_goto (tgt := 309) hx hb dX8_send_381 (by decide) ?_
                                exact ih309 (j309 + 1) F309 dl H locs ls (by omega) hP hD hI309 hS (lv_sub hl [0, 1, 2, 3, 4, 5] rfl)
                              · skip
                                refine lv_aload_n hx hb dX8_send_329 rfl (lv_at hl 3 rfl) ?_
                                refine lv_iload_n hx hb dX8_send_330 rfl (lv_at hl 4 rfl) ?_
                                refine lv_aload_n hx hb dX8_send_331 rfl (lv_at hl 3 rfl) ?_
                                refine va_get (D := (dC, dI)) (ci := 7) (v := .ref (q 27)) (C := RX8) (T := TX8) (N := 37) hx hb hts hinX8 hown hK hP 0 rfl rfl 27 (by decide) (hts (.fieldLink RX8 77 "FurPostsModel" "letterTo" "[I") (by decide +kernel)) (fun _ h9 => h9) rfl dX8_send_332 ?_
                                refine lv_iload hx hb dX8_send_335 (lv_at hl 0 rfl) ?_
                                refine va_iald hx hb hK hP 23 0 rfl rfl (i := (nI j309)) (vp_in_nI (show j309 < 300 by omega) (by decide)) dX8_send_337 ?_
                                refine va_calli (va_runV (As := [.int a1, .int (F309 27 (Int32.toNatClampNeg (nI j309)))]) (rest := []) ⟨hx, hb, hml, hown, hts⟩ (m_X8_next l dC dI h0 q n dl cI cZ F309 hI309 hN A hD a1 (F309 27 (Int32.toNatClampNeg (nI j309)))) (cwV 2 hts gX8_send_X8_next rfl rfl rfl (by decide +kernel) ⟨Nat.le_of_ble_eq_true rfl, Nat.le_of_ble_eq_true rfl⟩) (pu_pre hP hK (ci := 7) (q0 := 0) rfl rfl) rfl rfl hl.1 rfl (lv_room (Nat.le_of_ble_eq_true rfl)) dX8_send_338 ⟨Nat.le_of_ble_eq_true rfl, Nat.le_of_ble_eq_true rfl⟩) hS (fun _ _ h => h) (fun _ h => h) (fun r23 u23 st23 H locs ht23 hvm23 hw23 hB23 hz23 hk23 hS => ?_)
                                obtain ⟨F23, n23, d23⟩ := u23
                                obtain ⟨ha23, hD23, hI23, hN23, hn23⟩ := hw23
                                have hn23 : n23 = n := hn23
                                obtain ⟨dl, hP, hD, hI23⟩ : ∃ dl : Int32, va_P (dC, dI) vwCl (mw_ h0 q n dl cI cZ F23) H ∧ va_D A (mw_ h0 q n dl cI cZ F23) ∧ mi_ n F23 := ⟨d23, by rw [← hn23, ← ht23]; exact hB23, by rw [← hn23]; exact hD23, by rw [← hn23]; exact hI23⟩
                                refine lv_aload_n hx hb dX8_send_341 rfl (lv_at hl 3 rfl) ?_
                                refine va_get (D := (dC, dI)) (ci := 7) (v := .ref (q 15)) (C := RX8) (T := TX8) (N := 37) hx hb hts hinX8 hown hK hP 0 rfl rfl 15 (by decide) (hts (.fieldLink RX8 43 "FurPostsModel" "to" "[I") (by decide +kernel)) (fun _ h9 => h9) rfl dX8_send_342 ?_
                                refine lv_iload hx hb dX8_send_345 (lv_at hl 1 rfl) ?_
                                refine va_iald hx hb hK hP 12 0 rfl rfl (i := (nI (n 3))) (vp_in_nI (show n 3 < 120 by have := nI_nev (B := 120) h_9 rfl; omega) (by decide)) dX8_send_347 ?_
                                refine lv_icmp_eq (tgt := 354) hx hb dX8_send_348 (by decide) (fun h_24 => ?_) (fun h_24 => ?_)
                                · skip
                                  refine lv_aload_n hx hb dX8_send_354 rfl (lv_at hl 3 rfl) ?_
                                  refine va_get (D := (dC, dI)) (ci := 7) (v := .ref (q 28)) (C := RX8) (T := TX8) (N := 37) hx hb hts hinX8 hown hK hP 0 rfl rfl 28 (by decide) (hts (.fieldLink RX8 80 "FurPostsModel" "letterAt" "[I") (by decide +kernel)) (fun _ h9 => h9) rfl dX8_send_355 ?_
                                  refine lv_iload hx hb dX8_send_358 (lv_at hl 0 rfl) ?_
                                  refine lv_sipush (v := 2000) hx hb dX8_send_360 (by decide) ?_
                                  refine lv_iload hx hb dX8_send_363 (lv_at hl 1 rfl) ?_
                                  refine lv_iadd hx hb dX8_send_365 ?_
                                  refine va_iast hx hb hK hP hD hS 24 0 rfl rfl (i := (nI j309)) (x := (2000 + (nI (n 3)))) (vp_in_nI (show j309 < 300 by omega) (by decide)) dX8_send_366 (fun H locs hP2 hD2 hS => ?_)
                                  obtain ⟨F25, hF25, hP, hD, hI25⟩ : ∃ F25 : Nat → Nat → Int32, F25 = va_up F23 28 (upd (F23 28) (Int32.toNatClampNeg (nI j309)) (2000 + (nI (n 3)))) ∧ va_P (dC, dI) vwCl (mw_ h0 q n dl cI cZ F25) H ∧ va_D A (mw_ h0 q n dl cI cZ F25) ∧ mi_ n F25 := ⟨_, rfl, hP2, hD2, hI23⟩
                                  refine lv_aload_n hx hb dX8_send_367 rfl (lv_at hl 3 rfl) ?_
                                  refine va_get (D := (dC, dI)) (ci := 7) (v := .ref (q 21)) (C := RX8) (T := TX8) (N := 37) hx hb hts hinX8 hown hK hP 0 rfl rfl 21 (by decide) (hts (.fieldLink RX8 61 "FurPostsModel" "withLetters" "[I") (by decide +kernel)) (fun _ h9 => h9) rfl dX8_send_368 ?_
                                  refine lv_iload hx hb dX8_send_371 (lv_at hl 1 rfl) ?_
                                  refine lv_dup2_11 hx hb dX8_send_373 rfl rfl ?_
                                  refine va_iald hx hb hK hP 18 0 rfl rfl (i := (nI (n 3))) (vp_in_nI (show n 3 < 120 by have := nI_nev (B := 120) h_9 rfl; omega) (by decide)) dX8_send_374 ?_
                                  refine lv_iconst (v := 1) hx hb dX8_send_375 (by decide) ?_
                                  refine lv_iadd hx hb dX8_send_376 ?_
                                  refine va_iast hx hb hK hP hD hS 18 0 rfl rfl (i := (nI (n 3))) (x := ((F25 21 (Int32.toNatClampNeg (nI (n 3)))) + 1)) (vp_in_nI (show n 3 < 120 by have := nI_nev (B := 120) h_9 rfl; omega) (by decide)) dX8_send_377 (fun H locs hP2 hD2 hS => ?_)
                                  obtain ⟨F26, hF26, hP, hD, hI26⟩ : ∃ F26 : Nat → Nat → Int32, F26 = va_up F25 21 (upd (F25 21) (Int32.toNatClampNeg (nI (n 3))) ((F25 21 (Int32.toNatClampNeg (nI (n 3)))) + 1)) ∧ va_P (dC, dI) vwCl (mw_ h0 q n dl cI cZ F26) H ∧ va_D A (mw_ h0 q n dl cI cZ F26) ∧ mi_ n F26 := ⟨_, rfl, hP2, hD2, hI25⟩
                                  refine lv_iinc (v := (nI (j309 + 1))) (lv' := [(5, .int (nI (j309 + 1))), (4, .int (nI (n 3))), (3, .int x49_3), (0, .ref h0), (1, .int a1), (2, .int a2)]) hx hb dX8_send_378 hl (k := 0) rfl (show nI j309 + 1 = nI (j309 + 1) from nI_1 j309) (by decide) rfl (fun ls hl => ?_)
                                  refine lv_goto (tgt := 309) hx hb dX8_send_381 (by decide) ?_
                                  exact ih309 (j309 + 1) F26 dl H locs ls (by omega) hP hD hI26 hS (lv_sub hl [0, 1, 2, 3, 4, 5] rfl)
                                · skip
                                  refine lv_goto (tgt := 378) hx hb dX8_send_351 (by decide) ?_
                                  refine lv_iinc (v := (nI (j309 + 1))) (lv' := [(5, .int (nI (j309 + 1))), (4, .int (nI (n 3))), (3, .int x49_3), (0, .ref h0), (1, .int a1), (2, .int a2)]) hx hb dX8_send_378 hl (k := 0) rfl (show nI j309 + 1 = nI (j309 + 1) from nI_1 j309) (by decide) rfl (fun ls hl => ?_)
                                  refine lv_goto (tgt := 309) hx hb dX8_send_381 (by decide) ?_
                                  exact ih309 (j309 + 1) F23 dl H locs ls (by omega) hP hD hI23 hS (lv_sub hl [0, 1, 2, 3, 4, 5] rfl)
                          exact key309 (n 4) 0 F223 dl H locs ls (by omega) hP hD hI223 hS (lv_sub hl [0, 1, 2, 3, 4, 5] rfl)
                        | succ k ih223 =>
                          intro j223 F223 dl H locs ls hj hP hD hI223 hS hl
                          have hj223 : j223 < 6 := by omega
                          refine lv_iload hx hb dX8_send_223 (lv_at hl 0 rfl) ?_
                          refine lv_bipush (v := 6) hx hb dX8_send_225 (by decide) ?_
                          refine lv_icmp_ge (tgt := 306) hx hb dX8_send_227 (by decide) (fun h_27 => absurd h_27 (lp_ge (B := 6) (by omega) (by omega) rfl)) (fun h_27 => ?_)
                          refine lv_aload_n hx hb dX8_send_230 rfl (lv_at hl 3 rfl) ?_
                          refine va_get (D := (dC, dI)) (ci := 7) (v := .ref (q 2)) (C := RX8) (T := TX8) (N := 37) hx hb hts hinX8 hown hK hP 0 rfl rfl 2 (by decide) (hts (.fieldLink RX8 9 "FurPostsModel" "store" "[I") (by decide +kernel)) (fun _ h9 => h9) rfl dX8_send_231 ?_
                          refine lv_bipush (v := 6) hx hb dX8_send_234 (by decide) ?_
                          refine lv_iload_n hx hb dX8_send_236 rfl (lv_at hl 4 rfl) ?_
                          refine lv_imul hx hb dX8_send_237 ?_
                          refine lv_iload hx hb dX8_send_238 (lv_at hl 0 rfl) ?_
                          refine lv_iadd hx hb dX8_send_240 ?_
                          refine lv_dup2_11 hx hb dX8_send_241 rfl rfl ?_
                          refine va_iald hx hb hK hP 1 0 rfl rfl (i := ((6 * a1) + (nI j223))) (vp_lin (a := 8) (b := 6) (m := 6) ((hg1 h_2)) (vp_in_nI (show j223 < 6 by omega) (by decide)) rfl (by decide)) dX8_send_242 ?_
                          refine lv_aload_n hx hb dX8_send_243 rfl (lv_at hl 3 rfl) ?_
                          refine va_get (D := (dC, dI)) (ci := 7) (v := .ref (q 12)) (C := RX8) (T := TX8) (N := 37) hx hb hts hinX8 hown hK hP 0 rfl rfl 12 (by decide) (hts (.fieldLink RX8 37 "FurPostsModel" "loaded" "[I") (by decide +kernel)) (fun _ h9 => h9) rfl dX8_send_244 ?_
                          refine lv_iload hx hb dX8_send_247 (lv_at hl 0 rfl) ?_
                          refine va_iald hx hb hK hP 10 0 rfl rfl (i := (nI j223)) (vp_in_nI (show j223 < 6 by omega) (by decide)) dX8_send_249 ?_
                          refine lv_isub hx hb dX8_send_250 ?_
                          refine va_iast hx hb hK hP hD hS 1 0 rfl rfl (i := ((6 * a1) + (nI j223))) (x := ((F223 2 (Int32.toNatClampNeg ((6 * a1) + (nI j223)))) - (F223 12 (Int32.toNatClampNeg (nI j223))))) (vp_lin (a := 8) (b := 6) (m := 6) ((hg1 h_2)) (vp_in_nI (show j223 < 6 by omega) (by decide)) rfl (by decide)) dX8_send_251 (fun H locs hP2 hD2 hS => ?_)
                          obtain ⟨F28, hF28, hP, hD, hI28⟩ : ∃ F28 : Nat → Nat → Int32, F28 = va_up F223 2 (upd (F223 2) (Int32.toNatClampNeg ((6 * a1) + (nI j223))) ((F223 2 (Int32.toNatClampNeg ((6 * a1) + (nI j223)))) - (F223 12 (Int32.toNatClampNeg (nI j223))))) ∧ va_P (dC, dI) vwCl (mw_ h0 q n dl cI cZ F28) H ∧ va_D A (mw_ h0 q n dl cI cZ F28) ∧ mi_ n F28 := ⟨_, rfl, hP2, hD2, hI223⟩
                          refine lv_aload_n hx hb dX8_send_252 rfl (lv_at hl 3 rfl) ?_
                          refine va_get (D := (dC, dI)) (ci := 7) (v := .ref (q 22)) (C := RX8) (T := TX8) (N := 37) hx hb hts hinX8 hown hK hP 0 rfl rfl 22 (by decide) (hts (.fieldLink RX8 64 "FurPostsModel" "has" "[I") (by decide +kernel)) (fun _ h9 => h9) rfl dX8_send_253 ?_
                          refine lv_bipush (v := 6) hx hb dX8_send_256 (by decide) ?_
                          refine lv_iload hx hb dX8_send_258 (lv_at hl 1 rfl) ?_
                          refine lv_imul hx hb dX8_send_260 ?_
                          refine lv_iload hx hb dX8_send_261 (lv_at hl 0 rfl) ?_
                          refine lv_iadd hx hb dX8_send_263 ?_
                          refine lv_aload_n hx hb dX8_send_264 rfl (lv_at hl 3 rfl) ?_
                          refine va_get (D := (dC, dI)) (ci := 7) (v := .ref (q 12)) (C := RX8) (T := TX8) (N := 37) hx hb hts hinX8 hown hK hP 0 rfl rfl 12 (by decide) (hts (.fieldLink RX8 37 "FurPostsModel" "loaded" "[I") (by decide +kernel)) (fun _ h9 => h9) rfl dX8_send_265 ?_
                          refine lv_iload hx hb dX8_send_268 (lv_at hl 0 rfl) ?_
                          refine va_iald hx hb hK hP 10 0 rfl rfl (i := (nI j223)) (vp_in_nI (show j223 < 6 by omega) (by decide)) dX8_send_270 ?_
                          refine va_iast hx hb hK hP hD hS 19 0 rfl rfl (i := ((6 * (nI (n 3))) + (nI j223))) (x := (F28 12 (Int32.toNatClampNeg (nI j223)))) (vp_lin (a := 120) (b := 6) (m := 6) (vp_in_nI (show n 3 < 120 by have := nI_nev (B := 120) h_9 rfl; omega) (by decide)) (vp_in_nI (show j223 < 6 by omega) (by decide)) rfl (by decide)) dX8_send_271 (fun H locs hP2 hD2 hS => ?_)
                          obtain ⟨F29, hF29, hP, hD, hI29⟩ : ∃ F29 : Nat → Nat → Int32, F29 = va_up F28 22 (upd (F28 22) (Int32.toNatClampNeg ((6 * (nI (n 3))) + (nI j223))) (F28 12 (Int32.toNatClampNeg (nI j223)))) ∧ va_P (dC, dI) vwCl (mw_ h0 q n dl cI cZ F29) H ∧ va_D A (mw_ h0 q n dl cI cZ F29) ∧ mi_ n F29 := ⟨_, rfl, hP2, hD2, hI28⟩
                          refine lv_aload_n hx hb dX8_send_272 rfl (lv_at hl 3 rfl) ?_
                          refine va_get (D := (dC, dI)) (ci := 7) (v := .ref (q 23)) (C := RX8) (T := TX8) (N := 37) hx hb hts hinX8 hown hK hP 0 rfl rfl 23 (by decide) (hts (.fieldLink RX8 67 "FurPostsModel" "sent" "[I") (by decide +kernel)) (fun _ h9 => h9) rfl dX8_send_273 ?_
                          refine lv_bipush (v := 6) hx hb dX8_send_276 (by decide) ?_
                          refine lv_iload hx hb dX8_send_278 (lv_at hl 1 rfl) ?_
                          refine lv_imul hx hb dX8_send_280 ?_
                          refine lv_iload hx hb dX8_send_281 (lv_at hl 0 rfl) ?_
                          refine lv_iadd hx hb dX8_send_283 ?_
                          refine lv_aload_n hx hb dX8_send_284 rfl (lv_at hl 3 rfl) ?_
                          refine va_get (D := (dC, dI)) (ci := 7) (v := .ref (q 12)) (C := RX8) (T := TX8) (N := 37) hx hb hts hinX8 hown hK hP 0 rfl rfl 12 (by decide) (hts (.fieldLink RX8 37 "FurPostsModel" "loaded" "[I") (by decide +kernel)) (fun _ h9 => h9) rfl dX8_send_285 ?_
                          refine lv_iload hx hb dX8_send_288 (lv_at hl 0 rfl) ?_
                          refine va_iald hx hb hK hP 10 0 rfl rfl (i := (nI j223)) (vp_in_nI (show j223 < 6 by omega) (by decide)) dX8_send_290 ?_
                          refine va_iast hx hb hK hP hD hS 20 0 rfl rfl (i := ((6 * (nI (n 3))) + (nI j223))) (x := (F29 12 (Int32.toNatClampNeg (nI j223)))) (vp_lin (a := 120) (b := 6) (m := 6) (vp_in_nI (show n 3 < 120 by have := nI_nev (B := 120) h_9 rfl; omega) (by decide)) (vp_in_nI (show j223 < 6 by omega) (by decide)) rfl (by decide)) dX8_send_291 (fun H locs hP2 hD2 hS => ?_)
                          obtain ⟨F30, hF30, hP, hD, hI30⟩ : ∃ F30 : Nat → Nat → Int32, F30 = va_up F29 23 (upd (F29 23) (Int32.toNatClampNeg ((6 * (nI (n 3))) + (nI j223))) (F29 12 (Int32.toNatClampNeg (nI j223)))) ∧ va_P (dC, dI) vwCl (mw_ h0 q n dl cI cZ F30) H ∧ va_D A (mw_ h0 q n dl cI cZ F30) ∧ mi_ n F30 := ⟨_, rfl, hP2, hD2, hI29⟩
                          refine lv_aload_n hx hb dX8_send_292 rfl (lv_at hl 3 rfl) ?_
                          refine va_get (D := (dC, dI)) (ci := 7) (v := .ref (q 12)) (C := RX8) (T := TX8) (N := 37) hx hb hts hinX8 hown hK hP 0 rfl rfl 12 (by decide) (hts (.fieldLink RX8 37 "FurPostsModel" "loaded" "[I") (by decide +kernel)) (fun _ h9 => h9) rfl dX8_send_293 ?_
                          refine lv_iload hx hb dX8_send_296 (lv_at hl 0 rfl) ?_
                          refine lv_iconst (v := 0) hx hb dX8_send_298 (by decide) ?_
                          refine va_iast hx hb hK hP hD hS 10 0 rfl rfl (i := (nI j223)) (x := 0) (vp_in_nI (show j223 < 6 by omega) (by decide)) dX8_send_299 (fun H locs hP2 hD2 hS => ?_)
                          obtain ⟨F31, hF31, hP, hD, hI31⟩ : ∃ F31 : Nat → Nat → Int32, F31 = va_up F30 12 (upd (F30 12) (Int32.toNatClampNeg (nI j223)) 0) ∧ va_P (dC, dI) vwCl (mw_ h0 q n dl cI cZ F31) H ∧ va_D A (mw_ h0 q n dl cI cZ F31) ∧ mi_ n F31 := ⟨_, rfl, hP2, hD2, hI30⟩
                          refine lv_iinc (v := (nI (j223 + 1))) (lv' := [(5, .int (nI (j223 + 1))), (4, .int (nI (n 3))), (3, .int x49_3), (0, .ref h0), (1, .int a1), (2, .int a2)]) hx hb dX8_send_300 hl (k := 0) rfl (show nI j223 + 1 = nI (j223 + 1) from nI_1 j223) (by decide) rfl (fun ls hl => ?_)
                          refine lv_goto (tgt := 223) hx hb dX8_send_303 (by decide) ?_
                          exact ih223 (j223 + 1) F31 dl H locs ls (by omega) hP hD hI31 hS (lv_sub hl [0, 1, 2, 3, 4, 5] rfl)
                      exact key223 6 0 F17 dl H locs ls (by omega) hP hD hI17 hS (lv_sub hl [0, 1, 2, 3, 4, 5] rfl)
                    · skip
                      refine lv_aload_n hx hb dX8_send_164 rfl (lv_at hl 2 rfl) ?_
                      refine va_get (D := (dC, dI)) (ci := 7) (v := .ref (q 7)) (C := RX8) (T := TX8) (N := 37) hx hb hts hinX8 hown hK hP 0 rfl rfl 7 (by decide) (hts (.fieldLink RX8 22 "FurPostsModel" "wayB" "[I") (by decide +kernel)) (fun _ h9 => h9) rfl dX8_send_165 ?_
                      refine lv_iload_n hx hb dX8_send_168 rfl (lv_at hl 4 rfl) ?_
                      refine va_iald hx hb hK hP 5 0 rfl rfl (i := a2) (sp_vpn h_3 (show n 2 ≤ 12 by omega) (by decide)) dX8_send_169 ?_
                      refine lv_goto (tgt := 179) hx hb dX8_send_170 (by decide) ?_
                      refine va_iast hx hb hK hP hD hS 12 0 rfl rfl (i := (nI (n 3))) (x := (F11 7 (Int32.toNatClampNeg a2))) (vp_in_nI (show n 3 < 120 by have := nI_nev (B := 120) h_9 rfl; omega) (by decide)) dX8_send_179 (fun H locs hP2 hD2 hS => ?_)
                      obtain ⟨F32, hF32, hP, hD, hI32⟩ : ∃ F32 : Nat → Nat → Int32, F32 = va_up F11 15 (upd (F11 15) (Int32.toNatClampNeg (nI (n 3))) (F11 7 (Int32.toNatClampNeg a2))) ∧ va_P (dC, dI) vwCl (mw_ h0 q n dl cI cZ F32) H ∧ va_D A (mw_ h0 q n dl cI cZ F32) ∧ mi_ n F32 := ⟨_, rfl, hP2, hD2, mi_up15 hI11 (hI11.2.1 _)⟩
                      refine lv_aload_n hx hb dX8_send_180 rfl (lv_at hl 2 rfl) ?_
                      refine va_get (D := (dC, dI)) (ci := 7) (v := .ref (q 16)) (C := RX8) (T := TX8) (N := 37) hx hb hts hinX8 hown hK hP 0 rfl rfl 16 (by decide) (hts (.fieldLink RX8 46 "FurPostsModel" "wayOf" "[I") (by decide +kernel)) (fun _ h9 => h9) rfl dX8_send_181 ?_
                      refine lv_iload hx hb dX8_send_184 (lv_at hl 0 rfl) ?_
                      refine lv_iload_n hx hb dX8_send_186 rfl (lv_at hl 4 rfl) ?_
                      refine va_iast hx hb hK hP hD hS 13 0 rfl rfl (i := (nI (n 3))) (x := a2) (vp_in_nI (show n 3 < 120 by have := nI_nev (B := 120) h_9 rfl; omega) (by decide)) dX8_send_187 (fun H locs hP2 hD2 hS => ?_)
                      obtain ⟨F33, hF33, hP, hD, hI33⟩ : ∃ F33 : Nat → Nat → Int32, F33 = va_up F32 16 (upd (F32 16) (Int32.toNatClampNeg (nI (n 3))) a2) ∧ va_P (dC, dI) vwCl (mw_ h0 q n dl cI cZ F33) H ∧ va_D A (mw_ h0 q n dl cI cZ F33) ∧ mi_ n F33 := ⟨_, rfl, hP2, hD2, mi_up16 hI32 (sp_vpn h_3 (show n 2 ≤ 12 by omega) (by decide))⟩
                      refine lv_aload_n hx hb dX8_send_188 rfl (lv_at hl 2 rfl) ?_
                      refine va_get (D := (dC, dI)) (ci := 7) (v := .ref (q 17)) (C := RX8) (T := TX8) (N := 37) hx hb hts hinX8 hown hK hP 0 rfl rfl 17 (by decide) (hts (.fieldLink RX8 49 "FurPostsModel" "toGo" "[I") (by decide +kernel)) (fun _ h9 => h9) rfl dX8_send_189 ?_
                      refine lv_iload hx hb dX8_send_192 (lv_at hl 0 rfl) ?_
                      refine lv_aload_n hx hb dX8_send_194 rfl (lv_at hl 2 rfl) ?_
                      refine va_get (D := (dC, dI)) (ci := 7) (v := .ref (q 8)) (C := RX8) (T := TX8) (N := 37) hx hb hts hinX8 hown hK hP 0 rfl rfl 8 (by decide) (hts (.fieldLink RX8 25 "FurPostsModel" "wayLong" "[I") (by decide +kernel)) (fun _ h9 => h9) rfl dX8_send_195 ?_
                      refine lv_iload_n hx hb dX8_send_198 rfl (lv_at hl 4 rfl) ?_
                      refine va_iald hx hb hK hP 6 0 rfl rfl (i := a2) (sp_vpn h_3 (show n 2 ≤ 12 by omega) (by decide)) dX8_send_199 ?_
                      refine va_iast hx hb hK hP hD hS 14 0 rfl rfl (i := (nI (n 3))) (x := (F33 8 (Int32.toNatClampNeg a2))) (vp_in_nI (show n 3 < 120 by have := nI_nev (B := 120) h_9 rfl; omega) (by decide)) dX8_send_200 (fun H locs hP2 hD2 hS => ?_)
                      obtain ⟨F34, hF34, hP, hD, hI34⟩ : ∃ F34 : Nat → Nat → Int32, F34 = va_up F33 17 (upd (F33 17) (Int32.toNatClampNeg (nI (n 3))) (F33 8 (Int32.toNatClampNeg a2))) ∧ va_P (dC, dI) vwCl (mw_ h0 q n dl cI cZ F34) H ∧ va_D A (mw_ h0 q n dl cI cZ F34) ∧ mi_ n F34 := ⟨_, rfl, hP2, hD2, hI33⟩
                      refine lv_aload_n hx hb dX8_send_201 rfl (lv_at hl 2 rfl) ?_
                      refine va_get (D := (dC, dI)) (ci := 7) (v := .ref (q 19)) (C := RX8) (T := TX8) (N := 37) hx hb hts hinX8 hown hK hP 0 rfl rfl 19 (by decide) (hts (.fieldLink RX8 55 "FurPostsModel" "sentOn" "[I") (by decide +kernel)) (fun _ h9 => h9) rfl dX8_send_202 ?_
                      refine lv_iload hx hb dX8_send_205 (lv_at hl 0 rfl) ?_
                      refine lv_aload_n hx hb dX8_send_207 rfl (lv_at hl 2 rfl) ?_
                      refine va_get (D := (dC, dI)) (ci := 7) (v := .int (nI (n 0))) (C := RX8) (T := TX8) (N := 37) hx hb hts hinX8 hown hK hP 0 rfl rfl 0 (by decide) (hts (.fieldLink RX8 137 "FurPostsModel" "now" "I") (by decide +kernel)) (fun _ h9 => h9) rfl dX8_send_208 ?_
                      refine va_iast hx hb hK hP hD hS 16 0 rfl rfl (i := (nI (n 3))) (x := (nI (n 0))) (vp_in_nI (show n 3 < 120 by have := nI_nev (B := 120) h_9 rfl; omega) (by decide)) dX8_send_211 (fun H locs hP2 hD2 hS => ?_)
                      obtain ⟨F35, hF35, hP, hD, hI35⟩ : ∃ F35 : Nat → Nat → Int32, F35 = va_up F34 19 (upd (F34 19) (Int32.toNatClampNeg (nI (n 3))) (nI (n 0))) ∧ va_P (dC, dI) vwCl (mw_ h0 q n dl cI cZ F35) H ∧ va_D A (mw_ h0 q n dl cI cZ F35) ∧ mi_ n F35 := ⟨_, rfl, hP2, hD2, hI34⟩
                      refine lv_aload_n hx hb dX8_send_212 rfl (lv_at hl 2 rfl) ?_
                      refine va_get (D := (dC, dI)) (ci := 7) (v := .ref (q 20)) (C := RX8) (T := TX8) (N := 37) hx hb hts hinX8 hown hK hP 0 rfl rfl 20 (by decide) (hts (.fieldLink RX8 58 "FurPostsModel" "cameOn" "[I") (by decide +kernel)) (fun _ h9 => h9) rfl dX8_send_213 ?_
                      refine lv_iload hx hb dX8_send_216 (lv_at hl 0 rfl) ?_
                      refine lv_iconst (v := (-1)) hx hb dX8_send_218 (by decide) ?_
                      refine va_iast hx hb hK hP hD hS 17 0 rfl rfl (i := (nI (n 3))) (x := (-1)) (vp_in_nI (show n 3 < 120 by have := nI_nev (B := 120) h_9 rfl; omega) (by decide)) dX8_send_219 (fun H locs hP2 hD2 hS => ?_)
                      obtain ⟨F36, hF36, hP, hD, hI36⟩ : ∃ F36 : Nat → Nat → Int32, F36 = va_up F35 20 (upd (F35 20) (Int32.toNatClampNeg (nI (n 3))) (-1)) ∧ va_P (dC, dI) vwCl (mw_ h0 q n dl cI cZ F36) H ∧ va_D A (mw_ h0 q n dl cI cZ F36) ∧ mi_ n F36 := ⟨_, rfl, hP2, hD2, hI35⟩
                      refine lv_iconst (v := 0) hx hb dX8_send_220 (by decide) ?_
                      refine lv_istore (lv' := [(5, .int 0), (4, .int (nI (n 3))), (3, .int x49_3), (0, .ref h0), (1, .int a1), (2, .int a2)]) hx hb dX8_send_221 hl (by decide) rfl (fun ls hl => ?_)
                      have key223 : ∀ (k j223 : Nat) (F223 : Nat → Nat → Int32) (dl : Int32) (H : Heap) (locs : List Loc) (ls : Array Slot), j223 + k = 6 → va_P (dC, dI) vwCl (mw_ h0 q n dl cI cZ F223) H → va_D A (mw_ h0 q n dl cI cZ F223) → mi_ n F223 → va_S A s.heap H locs → lv_has ls 6 [(5, .int (nI j223)), (4, .int (nI (n 3))), (3, .int x49_3), (0, .ref h0), (1, .int a1), (2, .int a2)] →
                          W p l e (headSpec wsX8_send ({ frames := 3, cells := 0, slots := 0, locals := 67 })).room s m [.ref h0, .int a1, .int a2].toArray below meth c H locs 0 0 (MQ below (va_Qi (fun r (u : (Nat → Nat → Int32) × (Nat → Nat) × Int32) => True ∧ va_D A (mw_ h0 q u.2.1 u.2.2 cI cZ u.1) ∧ mi_ u.2.1 u.1 ∧ nb_ u.2.1 ∧ (u.2.1 0 = n 0 ∧ u.2.1 1 = n 1)) (fun u s' => va_P (dC, dI) vwCl (mw_ h0 q u.2.1 u.2.2 cI cZ u.1) s'.heap) A) [.ref h0, .int a1, .int a2].toArray s 0 0 A) (F0 m 223 ls []) := by
                        intro k
                        induction k with
                        | zero =>
                          intro j223 F223 dl H locs ls hj hP hD hI223 hS hl
                          have hj : j223 = 6 := by omega
                          subst j223
                          refine lv_iload hx hb dX8_send_223 (lv_at hl 0 rfl) ?_
                          refine lv_bipush (v := 6) hx hb dX8_send_225 (by decide) ?_
                          refine lv_icmp_ge (tgt := 306) hx hb dX8_send_227 (by decide) (fun h_37 => ?_) (fun h_37 => absurd (lp_ge0 (B := 6) rfl) h_37)
                          refine lv_iconst (v := 0) hx hb dX8_send_306 (by decide) ?_
                          refine lv_istore (lv' := [(5, .int 0), (4, .int (nI (n 3))), (3, .int x49_3), (0, .ref h0), (1, .int a1), (2, .int a2)]) hx hb dX8_send_307 hl (by decide) rfl (fun ls hl => ?_)
                          have key309 : ∀ (k j309 : Nat) (F309 : Nat → Nat → Int32) (dl : Int32) (H : Heap) (locs : List Loc) (ls : Array Slot), j309 + k = (n 4) → va_P (dC, dI) vwCl (mw_ h0 q n dl cI cZ F309) H → va_D A (mw_ h0 q n dl cI cZ F309) → mi_ n F309 → va_S A s.heap H locs → lv_has ls 6 [(5, .int (nI j309)), (4, .int (nI (n 3))), (3, .int x49_3), (0, .ref h0), (1, .int a1), (2, .int a2)] →
                              W p l e (headSpec wsX8_send ({ frames := 3, cells := 0, slots := 0, locals := 67 })).room s m [.ref h0, .int a1, .int a2].toArray below meth c H locs 0 0 (MQ below (va_Qi (fun r (u : (Nat → Nat → Int32) × (Nat → Nat) × Int32) => True ∧ va_D A (mw_ h0 q u.2.1 u.2.2 cI cZ u.1) ∧ mi_ u.2.1 u.1 ∧ nb_ u.2.1 ∧ (u.2.1 0 = n 0 ∧ u.2.1 1 = n 1)) (fun u s' => va_P (dC, dI) vwCl (mw_ h0 q u.2.1 u.2.2 cI cZ u.1) s'.heap) A) [.ref h0, .int a1, .int a2].toArray s 0 0 A) (F0 m 309 ls []) := by
                            intro k
                            induction k with
                            | zero =>
                              intro j309 F309 dl H locs ls hj hP hD hI309 hS hl
                              have hj : j309 = (n 4) := by omega
                              subst j309
                              refine lv_iload hx hb dX8_send_309 (lv_at hl 0 rfl) ?_
                              refine lv_aload_n hx hb dX8_send_311 rfl (lv_at hl 3 rfl) ?_
                              refine va_get (D := (dC, dI)) (ci := 7) (v := .int (nI (n 4))) (C := RX8) (T := TX8) (N := 37) hx hb hts hinX8 hown hK hP 0 rfl rfl 25 (by decide) (hts (.fieldLink RX8 144 "FurPostsModel" "letters" "I") (by decide +kernel)) (fun _ h9 => h9) rfl dX8_send_312 ?_
                              refine lv_icmp_ge (tgt := 384) hx hb dX8_send_315 (by decide) (fun h_38 => ?_) (fun h_38 => absurd (lp_ge0 (B := (n 4)) rfl) h_38)
                              refine lv_aload_n hx hb dX8_send_384 rfl (lv_at hl 3 rfl) ?_
                              refine lv_dup hx hb dX8_send_385 rfl ?_
                              refine va_get (D := (dC, dI)) (ci := 7) (v := .int (nI (n 3))) (C := RX8) (T := TX8) (N := 37) hx hb hts hinX8 hown hK hP 0 rfl rfl 13 (by decide) (hts (.fieldLink RX8 112 "FurPostsModel" "canoes" "I") (by decide +kernel)) (fun _ h9 => h9) rfl dX8_send_386 ?_
                              refine lv_iconst (v := 1) hx hb dX8_send_389 (by decide) ?_
                              refine lv_iadd hx hb dX8_send_390 ?_
                              rw [nI_1]
                              refine va_put (D := (dC, dI)) (ci := 7) (v := .int (nI ((n 3) + 1))) (ty := .int) (C := RX8) (T := TX8) (N := 37) hx hb hts hinX8 tyX8 tyX8_ok nmX8 hown hK hP hD hS 0 rfl rfl 13 (by decide) (hts (.fieldLink RX8 112 "FurPostsModel" "canoes" "I") (by decide +kernel)) (fun _ h9 => h9) rfl (by decide +kernel) rfl rfl (Nat.le_of_ble_eq_true rfl) dX8_send_391 (fun H locs hP2 hD2 hS => ?_)
                              obtain ⟨n39, hn39, hP, hD⟩ : ∃ n39 : Nat → Nat, n39 = va_up n 3 (((n 3) + 1)) ∧ va_P (dC, dI) vwCl (mw_ h0 q n39 dl cI cZ F309) H ∧ va_D A (mw_ h0 q n39 dl cI cZ F309) := ⟨_, rfl, hP2, hD2⟩
                              have hN : nb_ n39 := by rw [hn39]; exact ⟨hN.1, hN.2.1, hN.2.2.1, (show ((n 3) + 1) ≤ 120 by have := nI_nev (B := 120) h_9 rfl; omega), hN.2.2.2.2⟩
                              have hIn39 : mi_ n39 F309 := by rw [hn39]; exact hI309
                              refine lv_iload hx hb dX8_send_394 (lv_at hl 1 rfl) ?_
                              exact W.iret (v := (nI (n 3))) hx hb hr (fun t9 ht hW => ⟨⟨(nI (n 3)), (F309, n39, dl), rfl, ⟨trivial, hD, hIn39, hN, ⟨by rw [hn39]; rfl, by rw [hn39]; rfl⟩⟩, by show va_P (dC, dI) vwCl _ t9.heap; rw [ht]; exact hP⟩, hS.F ht⟩) hS.2.2 dX8_send_396
                            | succ k ih309 =>
                              intro j309 F309 dl H locs ls hj hP hD hI309 hS hl
                              have hj309 : j309 < (n 4) := by omega
                              refine lv_iload hx hb dX8_send_309 (lv_at hl 0 rfl) ?_
                              refine lv_aload_n hx hb dX8_send_311 rfl (lv_at hl 3 rfl) ?_
                              refine va_get (D := (dC, dI)) (ci := 7) (v := .int (nI (n 4))) (C := RX8) (T := TX8) (N := 37) hx hb hts hinX8 hown hK hP 0 rfl rfl 25 (by decide) (hts (.fieldLink RX8 144 "FurPostsModel" "letters" "I") (by decide +kernel)) (fun _ h9 => h9) rfl dX8_send_312 ?_
                              refine lv_icmp_ge (tgt := 384) hx hb dX8_send_315 (by decide) (fun h_40 => absurd h_40 (lp_ge (B := (n 4)) (by omega) (by omega) rfl)) (fun h_40 => ?_)
                              refine lv_aload_n hx hb dX8_send_318 rfl (lv_at hl 3 rfl) ?_
                              refine va_get (D := (dC, dI)) (ci := 7) (v := .ref (q 28)) (C := RX8) (T := TX8) (N := 37) hx hb hts hinX8 hown hK hP 0 rfl rfl 28 (by decide) (hts (.fieldLink RX8 80 "FurPostsModel" "letterAt" "[I") (by decide +kernel)) (fun _ h9 => h9) rfl dX8_send_319 ?_
                              refine lv_iload hx hb dX8_send_322 (lv_at hl 0 rfl) ?_
                              refine va_iald hx hb hK hP 24 0 rfl rfl (i := (nI j309)) (vp_in_nI (show j309 < 300 by omega) (by decide)) dX8_send_324 ?_
                              refine lv_iload_n hx hb dX8_send_325 rfl (lv_at hl 4 rfl) ?_
                              refine lv_icmp_ne (tgt := 378) hx hb dX8_send_326 (by decide) (fun h_41 => ?_) (fun h_41 => ?_)
                              · skip
                                refine lv_iinc (v := (nI (j309 + 1))) (lv' := [(5, .int (nI (j309 + 1))), (4, .int (nI (n 3))), (3, .int x49_3), (0, .ref h0), (1, .int a1), (2, .int a2)]) hx hb dX8_send_378 hl (k := 0) rfl (show nI j309 + 1 = nI (j309 + 1) from nI_1 j309) (by decide) rfl (fun ls hl => ?_)
                                refine lv_goto (tgt := 309) hx hb dX8_send_381 (by decide) ?_
                                exact ih309 (j309 + 1) F309 dl H locs ls (by omega) hP hD hI309 hS (lv_sub hl [0, 1, 2, 3, 4, 5] rfl)
                              · skip
                                refine lv_aload_n hx hb dX8_send_329 rfl (lv_at hl 3 rfl) ?_
                                refine lv_iload_n hx hb dX8_send_330 rfl (lv_at hl 4 rfl) ?_
                                refine lv_aload_n hx hb dX8_send_331 rfl (lv_at hl 3 rfl) ?_
                                refine va_get (D := (dC, dI)) (ci := 7) (v := .ref (q 27)) (C := RX8) (T := TX8) (N := 37) hx hb hts hinX8 hown hK hP 0 rfl rfl 27 (by decide) (hts (.fieldLink RX8 77 "FurPostsModel" "letterTo" "[I") (by decide +kernel)) (fun _ h9 => h9) rfl dX8_send_332 ?_
                                refine lv_iload hx hb dX8_send_335 (lv_at hl 0 rfl) ?_
                                refine va_iald hx hb hK hP 23 0 rfl rfl (i := (nI j309)) (vp_in_nI (show j309 < 300 by omega) (by decide)) dX8_send_337 ?_
                                refine va_calli (va_runV (As := [.int a1, .int (F309 27 (Int32.toNatClampNeg (nI j309)))]) (rest := []) ⟨hx, hb, hml, hown, hts⟩ (m_X8_next l dC dI h0 q n dl cI cZ F309 hI309 hN A hD a1 (F309 27 (Int32.toNatClampNeg (nI j309)))) (cwV 2 hts gX8_send_X8_next rfl rfl rfl (by decide +kernel) ⟨Nat.le_of_ble_eq_true rfl, Nat.le_of_ble_eq_true rfl⟩) (pu_pre hP hK (ci := 7) (q0 := 0) rfl rfl) rfl rfl hl.1 rfl (lv_room (Nat.le_of_ble_eq_true rfl)) dX8_send_338 ⟨Nat.le_of_ble_eq_true rfl, Nat.le_of_ble_eq_true rfl⟩) hS (fun _ _ h => h) (fun _ h => h) (fun r42 u42 st42 H locs ht42 hvm42 hw42 hB42 hz42 hk42 hS => ?_)
                                obtain ⟨F42, n42, d42⟩ := u42
                                obtain ⟨ha42, hD42, hI42, hN42, hn42⟩ := hw42
                                have hn42 : n42 = n := hn42
                                obtain ⟨dl, hP, hD, hI42⟩ : ∃ dl : Int32, va_P (dC, dI) vwCl (mw_ h0 q n dl cI cZ F42) H ∧ va_D A (mw_ h0 q n dl cI cZ F42) ∧ mi_ n F42 := ⟨d42, by rw [← hn42, ← ht42]; exact hB42, by rw [← hn42]; exact hD42, by rw [← hn42]; exact hI42⟩
                                refine lv_aload_n hx hb dX8_send_341 rfl (lv_at hl 3 rfl) ?_
                                refine va_get (D := (dC, dI)) (ci := 7) (v := .ref (q 15)) (C := RX8) (T := TX8) (N := 37) hx hb hts hinX8 hown hK hP 0 rfl rfl 15 (by decide) (hts (.fieldLink RX8 43 "FurPostsModel" "to" "[I") (by decide +kernel)) (fun _ h9 => h9) rfl dX8_send_342 ?_
                                refine lv_iload hx hb dX8_send_345 (lv_at hl 1 rfl) ?_
                                refine va_iald hx hb hK hP 12 0 rfl rfl (i := (nI (n 3))) (vp_in_nI (show n 3 < 120 by have := nI_nev (B := 120) h_9 rfl; omega) (by decide)) dX8_send_347 ?_
                                refine lv_icmp_eq (tgt := 354) hx hb dX8_send_348 (by decide) (fun h_43 => ?_) (fun h_43 => ?_)
                                · skip
                                  refine lv_aload_n hx hb dX8_send_354 rfl (lv_at hl 3 rfl) ?_
                                  refine va_get (D := (dC, dI)) (ci := 7) (v := .ref (q 28)) (C := RX8) (T := TX8) (N := 37) hx hb hts hinX8 hown hK hP 0 rfl rfl 28 (by decide) (hts (.fieldLink RX8 80 "FurPostsModel" "letterAt" "[I") (by decide +kernel)) (fun _ h9 => h9) rfl dX8_send_355 ?_
                                  refine lv_iload hx hb dX8_send_358 (lv_at hl 0 rfl) ?_
                                  refine lv_sipush (v := 2000) hx hb dX8_send_360 (by decide) ?_
                                  refine lv_iload hx hb dX8_send_363 (lv_at hl 1 rfl) ?_
                                  refine lv_iadd hx hb dX8_send_365 ?_
                                  refine va_iast hx hb hK hP hD hS 24 0 rfl rfl (i := (nI j309)) (x := (2000 + (nI (n 3)))) (vp_in_nI (show j309 < 300 by omega) (by decide)) dX8_send_366 (fun H locs hP2 hD2 hS => ?_)
                                  obtain ⟨F44, hF44, hP, hD, hI44⟩ : ∃ F44 : Nat → Nat → Int32, F44 = va_up F42 28 (upd (F42 28) (Int32.toNatClampNeg (nI j309)) (2000 + (nI (n 3)))) ∧ va_P (dC, dI) vwCl (mw_ h0 q n dl cI cZ F44) H ∧ va_D A (mw_ h0 q n dl cI cZ F44) ∧ mi_ n F44 := ⟨_, rfl, hP2, hD2, hI42⟩
                                  refine lv_aload_n hx hb dX8_send_367 rfl (lv_at hl 3 rfl) ?_
                                  refine va_get (D := (dC, dI)) (ci := 7) (v := .ref (q 21)) (C := RX8) (T := TX8) (N := 37) hx hb hts hinX8 hown hK hP 0 rfl rfl 21 (by decide) (hts (.fieldLink RX8 61 "FurPostsModel" "withLetters" "[I") (by decide +kernel)) (fun _ h9 => h9) rfl dX8_send_368 ?_
                                  refine lv_iload hx hb dX8_send_371 (lv_at hl 1 rfl) ?_
                                  refine lv_dup2_11 hx hb dX8_send_373 rfl rfl ?_
                                  refine va_iald hx hb hK hP 18 0 rfl rfl (i := (nI (n 3))) (vp_in_nI (show n 3 < 120 by have := nI_nev (B := 120) h_9 rfl; omega) (by decide)) dX8_send_374 ?_
                                  refine lv_iconst (v := 1) hx hb dX8_send_375 (by decide) ?_
                                  refine lv_iadd hx hb dX8_send_376 ?_
                                  refine va_iast hx hb hK hP hD hS 18 0 rfl rfl (i := (nI (n 3))) (x := ((F44 21 (Int32.toNatClampNeg (nI (n 3)))) + 1)) (vp_in_nI (show n 3 < 120 by have := nI_nev (B := 120) h_9 rfl; omega) (by decide)) dX8_send_377 (fun H locs hP2 hD2 hS => ?_)
                                  obtain ⟨F45, hF45, hP, hD, hI45⟩ : ∃ F45 : Nat → Nat → Int32, F45 = va_up F44 21 (upd (F44 21) (Int32.toNatClampNeg (nI (n 3))) ((F44 21 (Int32.toNatClampNeg (nI (n 3)))) + 1)) ∧ va_P (dC, dI) vwCl (mw_ h0 q n dl cI cZ F45) H ∧ va_D A (mw_ h0 q n dl cI cZ F45) ∧ mi_ n F45 := ⟨_, rfl, hP2, hD2, hI44⟩
                                  refine lv_iinc (v := (nI (j309 + 1))) (lv' := [(5, .int (nI (j309 + 1))), (4, .int (nI (n 3))), (3, .int x49_3), (0, .ref h0), (1, .int a1), (2, .int a2)]) hx hb dX8_send_378 hl (k := 0) rfl (show nI j309 + 1 = nI (j309 + 1) from nI_1 j309) (by decide) rfl (fun ls hl => ?_)
                                  refine lv_goto (tgt := 309) hx hb dX8_send_381 (by decide) ?_
                                  exact ih309 (j309 + 1) F45 dl H locs ls (by omega) hP hD hI45 hS (lv_sub hl [0, 1, 2, 3, 4, 5] rfl)
                                · skip
                                  refine lv_goto (tgt := 378) hx hb dX8_send_351 (by decide) ?_
                                  refine lv_iinc (v := (nI (j309 + 1))) (lv' := [(5, .int (nI (j309 + 1))), (4, .int (nI (n 3))), (3, .int x49_3), (0, .ref h0), (1, .int a1), (2, .int a2)]) hx hb dX8_send_378 hl (k := 0) rfl (show nI j309 + 1 = nI (j309 + 1) from nI_1 j309) (by decide) rfl (fun ls hl => ?_)
                                  refine lv_goto (tgt := 309) hx hb dX8_send_381 (by decide) ?_
                                  exact ih309 (j309 + 1) F42 dl H locs ls (by omega) hP hD hI42 hS (lv_sub hl [0, 1, 2, 3, 4, 5] rfl)
                          exact key309 (n 4) 0 F223 dl H locs ls (by omega) hP hD hI223 hS (lv_sub hl [0, 1, 2, 3, 4, 5] rfl)
                        | succ k ih223 =>
                          intro j223 F223 dl H locs ls hj hP hD hI223 hS hl
                          have hj223 : j223 < 6 := by omega
                          refine lv_iload hx hb dX8_send_223 (lv_at hl 0 rfl) ?_
                          refine lv_bipush (v := 6) hx hb dX8_send_225 (by decide) ?_
                          refine lv_icmp_ge (tgt := 306) hx hb dX8_send_227 (by decide) (fun h_46 => absurd h_46 (lp_ge (B := 6) (by omega) (by omega) rfl)) (fun h_46 => ?_)
                          refine lv_aload_n hx hb dX8_send_230 rfl (lv_at hl 3 rfl) ?_
                          refine va_get (D := (dC, dI)) (ci := 7) (v := .ref (q 2)) (C := RX8) (T := TX8) (N := 37) hx hb hts hinX8 hown hK hP 0 rfl rfl 2 (by decide) (hts (.fieldLink RX8 9 "FurPostsModel" "store" "[I") (by decide +kernel)) (fun _ h9 => h9) rfl dX8_send_231 ?_
                          refine lv_bipush (v := 6) hx hb dX8_send_234 (by decide) ?_
                          refine lv_iload_n hx hb dX8_send_236 rfl (lv_at hl 4 rfl) ?_
                          refine lv_imul hx hb dX8_send_237 ?_
                          refine lv_iload hx hb dX8_send_238 (lv_at hl 0 rfl) ?_
                          refine lv_iadd hx hb dX8_send_240 ?_
                          refine lv_dup2_11 hx hb dX8_send_241 rfl rfl ?_
                          refine va_iald hx hb hK hP 1 0 rfl rfl (i := ((6 * a1) + (nI j223))) (vp_lin (a := 8) (b := 6) (m := 6) ((hg1 h_2)) (vp_in_nI (show j223 < 6 by omega) (by decide)) rfl (by decide)) dX8_send_242 ?_
                          refine lv_aload_n hx hb dX8_send_243 rfl (lv_at hl 3 rfl) ?_
                          refine va_get (D := (dC, dI)) (ci := 7) (v := .ref (q 12)) (C := RX8) (T := TX8) (N := 37) hx hb hts hinX8 hown hK hP 0 rfl rfl 12 (by decide) (hts (.fieldLink RX8 37 "FurPostsModel" "loaded" "[I") (by decide +kernel)) (fun _ h9 => h9) rfl dX8_send_244 ?_
                          refine lv_iload hx hb dX8_send_247 (lv_at hl 0 rfl) ?_
                          refine va_iald hx hb hK hP 10 0 rfl rfl (i := (nI j223)) (vp_in_nI (show j223 < 6 by omega) (by decide)) dX8_send_249 ?_
                          refine lv_isub hx hb dX8_send_250 ?_
                          refine va_iast hx hb hK hP hD hS 1 0 rfl rfl (i := ((6 * a1) + (nI j223))) (x := ((F223 2 (Int32.toNatClampNeg ((6 * a1) + (nI j223)))) - (F223 12 (Int32.toNatClampNeg (nI j223))))) (vp_lin (a := 8) (b := 6) (m := 6) ((hg1 h_2)) (vp_in_nI (show j223 < 6 by omega) (by decide)) rfl (by decide)) dX8_send_251 (fun H locs hP2 hD2 hS => ?_)
                          obtain ⟨F47, hF47, hP, hD, hI47⟩ : ∃ F47 : Nat → Nat → Int32, F47 = va_up F223 2 (upd (F223 2) (Int32.toNatClampNeg ((6 * a1) + (nI j223))) ((F223 2 (Int32.toNatClampNeg ((6 * a1) + (nI j223)))) - (F223 12 (Int32.toNatClampNeg (nI j223))))) ∧ va_P (dC, dI) vwCl (mw_ h0 q n dl cI cZ F47) H ∧ va_D A (mw_ h0 q n dl cI cZ F47) ∧ mi_ n F47 := ⟨_, rfl, hP2, hD2, hI223⟩
                          refine lv_aload_n hx hb dX8_send_252 rfl (lv_at hl 3 rfl) ?_
                          refine va_get (D := (dC, dI)) (ci := 7) (v := .ref (q 22)) (C := RX8) (T := TX8) (N := 37) hx hb hts hinX8 hown hK hP 0 rfl rfl 22 (by decide) (hts (.fieldLink RX8 64 "FurPostsModel" "has" "[I") (by decide +kernel)) (fun _ h9 => h9) rfl dX8_send_253 ?_
                          refine lv_bipush (v := 6) hx hb dX8_send_256 (by decide) ?_
                          refine lv_iload hx hb dX8_send_258 (lv_at hl 1 rfl) ?_
                          refine lv_imul hx hb dX8_send_260 ?_
                          refine lv_iload hx hb dX8_send_261 (lv_at hl 0 rfl) ?_
                          refine lv_iadd hx hb dX8_send_263 ?_
                          refine lv_aload_n hx hb dX8_send_264 rfl (lv_at hl 3 rfl) ?_
                          refine va_get (D := (dC, dI)) (ci := 7) (v := .ref (q 12)) (C := RX8) (T := TX8) (N := 37) hx hb hts hinX8 hown hK hP 0 rfl rfl 12 (by decide) (hts (.fieldLink RX8 37 "FurPostsModel" "loaded" "[I") (by decide +kernel)) (fun _ h9 => h9) rfl dX8_send_265 ?_
                          refine lv_iload hx hb dX8_send_268 (lv_at hl 0 rfl) ?_
                          refine va_iald hx hb hK hP 10 0 rfl rfl (i := (nI j223)) (vp_in_nI (show j223 < 6 by omega) (by decide)) dX8_send_270 ?_
                          refine va_iast hx hb hK hP hD hS 19 0 rfl rfl (i := ((6 * (nI (n 3))) + (nI j223))) (x := (F47 12 (Int32.toNatClampNeg (nI j223)))) (vp_lin (a := 120) (b := 6) (m := 6) (vp_in_nI (show n 3 < 120 by have := nI_nev (B := 120) h_9 rfl; omega) (by decide)) (vp_in_nI (show j223 < 6 by omega) (by decide)) rfl (by decide)) dX8_send_271 (fun H locs hP2 hD2 hS => ?_)
                          obtain ⟨F48, hF48, hP, hD, hI48⟩ : ∃ F48 : Nat → Nat → Int32, F48 = va_up F47 22 (upd (F47 22) (Int32.toNatClampNeg ((6 * (nI (n 3))) + (nI j223))) (F47 12 (Int32.toNatClampNeg (nI j223)))) ∧ va_P (dC, dI) vwCl (mw_ h0 q n dl cI cZ F48) H ∧ va_D A (mw_ h0 q n dl cI cZ F48) ∧ mi_ n F48 := ⟨_, rfl, hP2, hD2, hI47⟩
                          refine lv_aload_n hx hb dX8_send_272 rfl (lv_at hl 3 rfl) ?_
                          refine va_get (D := (dC, dI)) (ci := 7) (v := .ref (q 23)) (C := RX8) (T := TX8) (N := 37) hx hb hts hinX8 hown hK hP 0 rfl rfl 23 (by decide) (hts (.fieldLink RX8 67 "FurPostsModel" "sent" "[I") (by decide +kernel)) (fun _ h9 => h9) rfl dX8_send_273 ?_
                          refine lv_bipush (v := 6) hx hb dX8_send_276 (by decide) ?_
                          refine lv_iload hx hb dX8_send_278 (lv_at hl 1 rfl) ?_
                          refine lv_imul hx hb dX8_send_280 ?_
                          refine lv_iload hx hb dX8_send_281 (lv_at hl 0 rfl) ?_
                          refine lv_iadd hx hb dX8_send_283 ?_
                          refine lv_aload_n hx hb dX8_send_284 rfl (lv_at hl 3 rfl) ?_
                          refine va_get (D := (dC, dI)) (ci := 7) (v := .ref (q 12)) (C := RX8) (T := TX8) (N := 37) hx hb hts hinX8 hown hK hP 0 rfl rfl 12 (by decide) (hts (.fieldLink RX8 37 "FurPostsModel" "loaded" "[I") (by decide +kernel)) (fun _ h9 => h9) rfl dX8_send_285 ?_
                          refine lv_iload hx hb dX8_send_288 (lv_at hl 0 rfl) ?_
                          refine va_iald hx hb hK hP 10 0 rfl rfl (i := (nI j223)) (vp_in_nI (show j223 < 6 by omega) (by decide)) dX8_send_290 ?_
                          refine va_iast hx hb hK hP hD hS 20 0 rfl rfl (i := ((6 * (nI (n 3))) + (nI j223))) (x := (F48 12 (Int32.toNatClampNeg (nI j223)))) (vp_lin (a := 120) (b := 6) (m := 6) (vp_in_nI (show n 3 < 120 by have := nI_nev (B := 120) h_9 rfl; omega) (by decide)) (vp_in_nI (show j223 < 6 by omega) (by decide)) rfl (by decide)) dX8_send_291 (fun H locs hP2 hD2 hS => ?_)
                          obtain ⟨F49, hF49, hP, hD, hI49⟩ : ∃ F49 : Nat → Nat → Int32, F49 = va_up F48 23 (upd (F48 23) (Int32.toNatClampNeg ((6 * (nI (n 3))) + (nI j223))) (F48 12 (Int32.toNatClampNeg (nI j223)))) ∧ va_P (dC, dI) vwCl (mw_ h0 q n dl cI cZ F49) H ∧ va_D A (mw_ h0 q n dl cI cZ F49) ∧ mi_ n F49 := ⟨_, rfl, hP2, hD2, hI48⟩
                          refine lv_aload_n hx hb dX8_send_292 rfl (lv_at hl 3 rfl) ?_
                          refine va_get (D := (dC, dI)) (ci := 7) (v := .ref (q 12)) (C := RX8) (T := TX8) (N := 37) hx hb hts hinX8 hown hK hP 0 rfl rfl 12 (by decide) (hts (.fieldLink RX8 37 "FurPostsModel" "loaded" "[I") (by decide +kernel)) (fun _ h9 => h9) rfl dX8_send_293 ?_
                          refine lv_iload hx hb dX8_send_296 (lv_at hl 0 rfl) ?_
                          refine lv_iconst (v := 0) hx hb dX8_send_298 (by decide) ?_
                          refine va_iast hx hb hK hP hD hS 10 0 rfl rfl (i := (nI j223)) (x := 0) (vp_in_nI (show j223 < 6 by omega) (by decide)) dX8_send_299 (fun H locs hP2 hD2 hS => ?_)
                          obtain ⟨F50, hF50, hP, hD, hI50⟩ : ∃ F50 : Nat → Nat → Int32, F50 = va_up F49 12 (upd (F49 12) (Int32.toNatClampNeg (nI j223)) 0) ∧ va_P (dC, dI) vwCl (mw_ h0 q n dl cI cZ F50) H ∧ va_D A (mw_ h0 q n dl cI cZ F50) ∧ mi_ n F50 := ⟨_, rfl, hP2, hD2, hI49⟩
                          refine lv_iinc (v := (nI (j223 + 1))) (lv' := [(5, .int (nI (j223 + 1))), (4, .int (nI (n 3))), (3, .int x49_3), (0, .ref h0), (1, .int a1), (2, .int a2)]) hx hb dX8_send_300 hl (k := 0) rfl (show nI j223 + 1 = nI (j223 + 1) from nI_1 j223) (by decide) rfl (fun ls hl => ?_)
                          refine lv_goto (tgt := 223) hx hb dX8_send_303 (by decide) ?_
                          exact ih223 (j223 + 1) F50 dl H locs ls (by omega) hP hD hI50 hS (lv_sub hl [0, 1, 2, 3, 4, 5] rfl)
                      exact key223 6 0 F36 dl H locs ls (by omega) hP hD hI36 hS (lv_sub hl [0, 1, 2, 3, 4, 5] rfl)
                  · skip
                    refine lv_iconst (v := (-1)) hx hb dX8_send_132 (by decide) ?_
                    exact W.iret (v := (-1)) hx hb hr (fun t9 ht hW => ⟨⟨(-1), (F49, n, dl), rfl, ⟨trivial, hD, hI49, hN, ⟨rfl, rfl⟩⟩, by show va_P (dC, dI) vwCl _ t9.heap; rw [ht]; exact hP⟩, hS.F ht⟩) hS.2.2 dX8_send_133
          | succ k ih49 =>
            intro j49 x49_3 F49 dl H locs ls hj hP hD hI49 hS hl
            have hj49 : j49 < 6 := by omega
            refine lv_iload hx hb dX8_send_49 (lv_at hl 0 rfl) ?_
            refine lv_bipush (v := 6) hx hb dX8_send_51 (by decide) ?_
            refine lv_icmp_ge (tgt := 91) hx hb dX8_send_53 (by decide) (fun h_51 => absurd h_51 (lp_ge (B := 6) (by omega) (by omega) rfl)) (fun h_51 => ?_)
            refine lv_iload_n hx hb dX8_send_56 rfl (lv_at hl 1 rfl) ?_
            refine lv_aload_n hx hb dX8_send_57 rfl (lv_at hl 2 rfl) ?_
            refine va_get (D := (dC, dI)) (ci := 7) (v := .ref (q 12)) (C := RX8) (T := TX8) (N := 37) hx hb hts hinX8 hown hK hP 0 rfl rfl 12 (by decide) (hts (.fieldLink RX8 37 "FurPostsModel" "loaded" "[I") (by decide +kernel)) (fun _ h9 => h9) rfl dX8_send_58 ?_
            refine lv_iload hx hb dX8_send_61 (lv_at hl 0 rfl) ?_
            refine va_iald hx hb hK hP 10 0 rfl rfl (i := (nI j49)) (vp_in_nI (show j49 < 6 by omega) (by decide)) dX8_send_63 ?_
            refine lv_iadd hx hb dX8_send_64 ?_
            refine lv_istore_n (lv' := [(3, .int (x49_3 + (F49 12 (Int32.toNatClampNeg (nI j49))))), (4, .int (nI j49)), (0, .ref h0), (1, .int a1), (2, .int a2)]) hx hb dX8_send_65 rfl hl (by decide) rfl (fun ls hl => ?_)
            refine lv_aload_n hx hb dX8_send_66 rfl (lv_at hl 2 rfl) ?_
            refine va_get (D := (dC, dI)) (ci := 7) (v := .ref (q 12)) (C := RX8) (T := TX8) (N := 37) hx hb hts hinX8 hown hK hP 0 rfl rfl 12 (by decide) (hts (.fieldLink RX8 37 "FurPostsModel" "loaded" "[I") (by decide +kernel)) (fun _ h9 => h9) rfl dX8_send_67 ?_
            refine lv_iload hx hb dX8_send_70 (lv_at hl 1 rfl) ?_
            refine va_iald hx hb hK hP 10 0 rfl rfl (i := (nI j49)) (vp_in_nI (show j49 < 6 by omega) (by decide)) dX8_send_72 ?_
            refine lv_aload_n hx hb dX8_send_73 rfl (lv_at hl 2 rfl) ?_
            refine lv_iload_n hx hb dX8_send_74 rfl (lv_at hl 3 rfl) ?_
            refine lv_iload hx hb dX8_send_75 (lv_at hl 1 rfl) ?_
            refine pg_call (va_runV (As := [.int a1, .int (nI j49)]) (rest := [.int (F49 12 (Int32.toNatClampNeg (nI j49)))]) ⟨hx, hb, hml, hown, hts⟩ (k_X8_stored l dC dI h0 q n dl cI cZ F49 hI49 hN a1 (nI j49) ((hg1 h_2)) (vp_in_nI (show j49 < 6 by omega) (by decide))) (cwV 2 hts gX8_send_X8_stored rfl rfl rfl (by decide +kernel) ⟨Nat.le_of_ble_eq_true rfl, Nat.le_of_ble_eq_true rfl⟩) (pu_pre hP hK (ci := 7) (q0 := 0) rfl rfl) rfl rfl hl.1 rfl (lv_room (Nat.le_of_ble_eq_true rfl)) dX8_send_77 ⟨Nat.le_of_ble_eq_true rfl, Nat.le_of_ble_eq_true rfl⟩) (fun w52 hw52 => ?_)
            obtain ⟨r52, rfl, hg52⟩ := hw52
            refine lv_icmp_le (tgt := 85) hx hb dX8_send_80 (by decide) (fun h_53 => ?_) (fun h_53 => ?_)
            · skip
              refine lv_iinc (v := (nI (j49 + 1))) (lv' := [(4, .int (nI (j49 + 1))), (3, .int (x49_3 + (F49 12 (Int32.toNatClampNeg (nI j49))))), (0, .ref h0), (1, .int a1), (2, .int a2)]) hx hb dX8_send_85 hl (k := 1) rfl (show nI j49 + 1 = nI (j49 + 1) from nI_1 j49) (by decide) rfl (fun ls hl => ?_)
              refine lv_goto (tgt := 49) hx hb dX8_send_88 (by decide) ?_
              exact ih49 (j49 + 1) (x49_3 + (F49 12 (Int32.toNatClampNeg (nI j49)))) F49 dl H locs ls (by omega) hP hD hI49 hS (lv_sub hl [0, 1, 2, 3, 4] rfl)
            · skip
              refine lv_iconst (v := (-1)) hx hb dX8_send_83 (by decide) ?_
              exact W.iret (v := (-1)) hx hb hr (fun t9 ht hW => ⟨⟨(-1), (F49, n, dl), rfl, ⟨trivial, hD, hI49, hN, ⟨rfl, rfl⟩⟩, by show va_P (dC, dI) vwCl _ t9.heap; rw [ht]; exact hP⟩, hS.F ht⟩) hS.2.2 dX8_send_84
        exact key49 6 0 0 F dl H locs ls (by omega) hP hD hI hS (lv_sub hl [0, 1, 2, 3, 4] rfl)
      · skip
        refine lv_aload_n hx hb dX8_send_32 rfl (lv_at hl 0 rfl) ?_
        refine va_get (D := (dC, dI)) (ci := 7) (v := .ref (q 7)) (C := RX8) (T := TX8) (N := 37) hx hb hts hinX8 hown hK hP 0 rfl rfl 7 (by decide) (hts (.fieldLink RX8 22 "FurPostsModel" "wayB" "[I") (by decide +kernel)) (fun _ h9 => h9) rfl dX8_send_33 ?_
        refine lv_iload_n hx hb dX8_send_36 rfl (lv_at hl 2 rfl) ?_
        refine va_iald hx hb hK hP 5 0 rfl rfl (i := a2) (sp_vpn h_3 (show n 2 ≤ 12 by omega) (by decide)) dX8_send_37 ?_
        refine lv_iload_n hx hb dX8_send_38 rfl (lv_at hl 1 rfl) ?_
        refine lv_icmp_eq (tgt := 44) hx hb dX8_send_39 (by decide) (fun h_54 => ?_) (fun h_54 => ?_)
        · skip
          refine lv_iconst (v := 0) hx hb dX8_send_44 (by decide) ?_
          refine lv_istore_n (lv' := [(3, .int 0), (0, .ref h0), (1, .int a1), (2, .int a2)]) hx hb dX8_send_45 rfl hl (by decide) rfl (fun ls hl => ?_)
          refine lv_iconst (v := 0) hx hb dX8_send_46 (by decide) ?_
          refine lv_istore (lv' := [(4, .int 0), (3, .int 0), (0, .ref h0), (1, .int a1), (2, .int a2)]) hx hb dX8_send_47 hl (by decide) rfl (fun ls hl => ?_)
          have key49 : ∀ (k j49 : Nat) (x49_3 : Int32) (F49 : Nat → Nat → Int32) (dl : Int32) (H : Heap) (locs : List Loc) (ls : Array Slot), j49 + k = 6 → va_P (dC, dI) vwCl (mw_ h0 q n dl cI cZ F49) H → va_D A (mw_ h0 q n dl cI cZ F49) → mi_ n F49 → va_S A s.heap H locs → lv_has ls 6 [(4, .int (nI j49)), (3, .int x49_3), (0, .ref h0), (1, .int a1), (2, .int a2)] →
              W p l e (headSpec wsX8_send ({ frames := 3, cells := 0, slots := 0, locals := 67 })).room s m [.ref h0, .int a1, .int a2].toArray below meth c H locs 0 0 (MQ below (va_Qi (fun r (u : (Nat → Nat → Int32) × (Nat → Nat) × Int32) => True ∧ va_D A (mw_ h0 q u.2.1 u.2.2 cI cZ u.1) ∧ mi_ u.2.1 u.1 ∧ nb_ u.2.1 ∧ (u.2.1 0 = n 0 ∧ u.2.1 1 = n 1)) (fun u s' => va_P (dC, dI) vwCl (mw_ h0 q u.2.1 u.2.2 cI cZ u.1) s'.heap) A) [.ref h0, .int a1, .int a2].toArray s 0 0 A) (F0 m 49 ls []) := by
            intro k
            induction k with
            | zero =>
              intro j49 x49_3 F49 dl H locs ls hj hP hD hI49 hS hl
              have hj : j49 = 6 := by omega
              subst j49
              refine lv_iload hx hb dX8_send_49 (lv_at hl 0 rfl) ?_
              refine lv_bipush (v := 6) hx hb dX8_send_51 (by decide) ?_
              refine lv_icmp_ge (tgt := 91) hx hb dX8_send_53 (by decide) (fun h_55 => ?_) (fun h_55 => absurd (lp_ge0 (B := 6) rfl) h_55)
              refine lv_aload_n hx hb dX8_send_91 rfl (lv_at hl 2 rfl) ?_
              refine lv_iload_n hx hb dX8_send_92 rfl (lv_at hl 4 rfl) ?_
              refine lv_aload_n hx hb dX8_send_93 rfl (lv_at hl 2 rfl) ?_
              refine va_get (D := (dC, dI)) (ci := 7) (v := .int (nI (n 0))) (C := RX8) (T := TX8) (N := 37) hx hb hts hinX8 hown hK hP 0 rfl rfl 0 (by decide) (hts (.fieldLink RX8 137 "FurPostsModel" "now" "I") (by decide +kernel)) (fun _ h9 => h9) rfl dX8_send_94 ?_
              refine pg_call (va_runV (As := [.int a2, .int (nI (n 0))]) (rest := []) ⟨hx, hb, hml, hown, hts⟩ (k_X8_isOpen l dC dI h0 q n dl cI cZ F49 hI49 hN a2 (nI (n 0)) (sp_vpn h_3 (show n 2 ≤ 12 by omega) (by decide))) (cwV 2 hts gX8_send_X8_isOpen rfl rfl rfl (by decide +kernel) ⟨Nat.le_of_ble_eq_true rfl, Nat.le_of_ble_eq_true rfl⟩) (pu_pre hP hK (ci := 7) (q0 := 0) rfl rfl) rfl rfl hl.1 rfl (lv_room (Nat.le_of_ble_eq_true rfl)) dX8_send_97 ⟨Nat.le_of_ble_eq_true rfl, Nat.le_of_ble_eq_true rfl⟩) (fun w56 hw56 => ?_)
              obtain ⟨r56, rfl, hg56⟩ := hw56
              refine lv_if_eq (tgt := 132) hx hb dX8_send_100 (by decide) (fun h_57 => ?_) (fun h_57 => ?_)
              · skip
                refine lv_iconst (v := (-1)) hx hb dX8_send_132 (by decide) ?_
                exact W.iret (v := (-1)) hx hb hr (fun t9 ht hW => ⟨⟨(-1), (F49, n, dl), rfl, ⟨trivial, hD, hI49, hN, ⟨rfl, rfl⟩⟩, by show va_P (dC, dI) vwCl _ t9.heap; rw [ht]; exact hP⟩, hS.F ht⟩) hS.2.2 dX8_send_133
              · skip
                refine lv_iload_n hx hb dX8_send_103 rfl (lv_at hl 1 rfl) ?_
                refine lv_aload_n hx hb dX8_send_104 rfl (lv_at hl 2 rfl) ?_
                refine va_get (D := (dC, dI)) (ci := 7) (v := .ref (q 11)) (C := RX8) (T := TX8) (N := 37) hx hb hts hinX8 hown hK hP 0 rfl rfl 11 (by decide) (hts (.fieldLink RX8 34 "FurPostsModel" "bears" "[I") (by decide +kernel)) (fun _ h9 => h9) rfl dX8_send_105 ?_
                refine lv_iload_n hx hb dX8_send_108 rfl (lv_at hl 4 rfl) ?_
                refine va_iald hx hb hK hP 9 0 rfl rfl (i := a2) (sp_vpn h_3 (show n 2 ≤ 12 by omega) (by decide)) dX8_send_109 ?_
                refine lv_icmp_gt (tgt := 132) hx hb dX8_send_110 (by decide) (fun h_58 => ?_) (fun h_58 => ?_)
                · skip
                  refine lv_iconst (v := (-1)) hx hb dX8_send_132 (by decide) ?_
                  exact W.iret (v := (-1)) hx hb hr (fun t9 ht hW => ⟨⟨(-1), (F49, n, dl), rfl, ⟨trivial, hD, hI49, hN, ⟨rfl, rfl⟩⟩, by show va_P (dC, dI) vwCl _ t9.heap; rw [ht]; exact hP⟩, hS.F ht⟩) hS.2.2 dX8_send_133
                · skip
                  refine lv_aload_n hx hb dX8_send_113 rfl (lv_at hl 2 rfl) ?_
                  refine va_get (D := (dC, dI)) (ci := 7) (v := .int (nI (n 3))) (C := RX8) (T := TX8) (N := 37) hx hb hts hinX8 hown hK hP 0 rfl rfl 13 (by decide) (hts (.fieldLink RX8 112 "FurPostsModel" "canoes" "I") (by decide +kernel)) (fun _ h9 => h9) rfl dX8_send_114 ?_
                  refine lv_bipush (v := 120) hx hb dX8_send_117 (by decide) ?_
                  refine lv_icmp_eq (tgt := 132) hx hb dX8_send_119 (by decide) (fun h_59 => ?_) (fun h_59 => ?_)
                  · skip
                    refine lv_iconst (v := (-1)) hx hb dX8_send_132 (by decide) ?_
                    exact W.iret (v := (-1)) hx hb hr (fun t9 ht hW => ⟨⟨(-1), (F49, n, dl), rfl, ⟨trivial, hD, hI49, hN, ⟨rfl, rfl⟩⟩, by show va_P (dC, dI) vwCl _ t9.heap; rw [ht]; exact hP⟩, hS.F ht⟩) hS.2.2 dX8_send_133
                  · skip
                    refine lv_aload_n hx hb dX8_send_122 rfl (lv_at hl 2 rfl) ?_
                    refine va_get (D := (dC, dI)) (ci := 7) (v := .int (nI (n 0))) (C := RX8) (T := TX8) (N := 37) hx hb hts hinX8 hown hK hP 0 rfl rfl 0 (by decide) (hts (.fieldLink RX8 137 "FurPostsModel" "now" "I") (by decide +kernel)) (fun _ h9 => h9) rfl dX8_send_123 ?_
                    refine lv_sipush (v := 3000) hx hb dX8_send_126 (by decide) ?_
                    refine lv_icmp_ne (tgt := 134) hx hb dX8_send_129 (by decide) (fun h_60 => ?_) (fun h_60 => ?_)
                    · skip
                      refine lv_aload_n hx hb dX8_send_134 rfl (lv_at hl 2 rfl) ?_
                      refine va_get (D := (dC, dI)) (ci := 7) (v := .int (nI (n 3))) (C := RX8) (T := TX8) (N := 37) hx hb hts hinX8 hown hK hP 0 rfl rfl 13 (by decide) (hts (.fieldLink RX8 112 "FurPostsModel" "canoes" "I") (by decide +kernel)) (fun _ h9 => h9) rfl dX8_send_135 ?_
                      refine lv_istore (lv' := [(4, .int (nI (n 3))), (3, .int x49_3), (0, .ref h0), (1, .int a1), (2, .int a2)]) hx hb dX8_send_138 hl (by decide) rfl (fun ls hl => ?_)
                      refine lv_aload_n hx hb dX8_send_140 rfl (lv_at hl 2 rfl) ?_
                      refine va_get (D := (dC, dI)) (ci := 7) (v := .ref (q 14)) (C := RX8) (T := TX8) (N := 37) hx hb hts hinX8 hown hK hP 0 rfl rfl 14 (by decide) (hts (.fieldLink RX8 40 "FurPostsModel" "from" "[I") (by decide +kernel)) (fun _ h9 => h9) rfl dX8_send_141 ?_
                      refine lv_iload hx hb dX8_send_144 (lv_at hl 0 rfl) ?_
                      refine lv_iload_n hx hb dX8_send_146 rfl (lv_at hl 3 rfl) ?_
                      refine va_iast hx hb hK hP hD hS 11 0 rfl rfl (i := (nI (n 3))) (x := a1) (vp_in_nI (show n 3 < 120 by have := nI_nev (B := 120) h_59 rfl; omega) (by decide)) dX8_send_147 (fun H locs hP2 hD2 hS => ?_)
                      obtain ⟨F61, hF61, hP, hD, hI61⟩ : ∃ F61 : Nat → Nat → Int32, F61 = va_up F49 14 (upd (F49 14) (Int32.toNatClampNeg (nI (n 3))) a1) ∧ va_P (dC, dI) vwCl (mw_ h0 q n dl cI cZ F61) H ∧ va_D A (mw_ h0 q n dl cI cZ F61) ∧ mi_ n F61 := ⟨_, rfl, hP2, hD2, hI49⟩
                      refine lv_aload_n hx hb dX8_send_148 rfl (lv_at hl 2 rfl) ?_
                      refine va_get (D := (dC, dI)) (ci := 7) (v := .ref (q 15)) (C := RX8) (T := TX8) (N := 37) hx hb hts hinX8 hown hK hP 0 rfl rfl 15 (by decide) (hts (.fieldLink RX8 43 "FurPostsModel" "to" "[I") (by decide +kernel)) (fun _ h9 => h9) rfl dX8_send_149 ?_
                      refine lv_iload hx hb dX8_send_152 (lv_at hl 0 rfl) ?_
                      refine lv_aload_n hx hb dX8_send_154 rfl (lv_at hl 2 rfl) ?_
                      refine va_get (D := (dC, dI)) (ci := 7) (v := .ref (q 6)) (C := RX8) (T := TX8) (N := 37) hx hb hts hinX8 hown hK hP 0 rfl rfl 6 (by decide) (hts (.fieldLink RX8 19 "FurPostsModel" "wayA" "[I") (by decide +kernel)) (fun _ h9 => h9) rfl dX8_send_155 ?_
                      refine lv_iload_n hx hb dX8_send_158 rfl (lv_at hl 4 rfl) ?_
                      refine va_iald hx hb hK hP 4 0 rfl rfl (i := a2) (sp_vpn h_3 (show n 2 ≤ 12 by omega) (by decide)) dX8_send_159 ?_
                      refine lv_iload_n hx hb dX8_send_160 rfl (lv_at hl 3 rfl) ?_
                      refine lv_icmp_ne (tgt := 173) hx hb dX8_send_161 (by decide) (fun h_62 => ?_) (fun h_62 => ?_)
                      · skip
                        refine lv_aload_n hx hb dX8_send_173 rfl (lv_at hl 2 rfl) ?_
                        refine va_get (D := (dC, dI)) (ci := 7) (v := .ref (q 6)) (C := RX8) (T := TX8) (N := 37) hx hb hts hinX8 hown hK hP 0 rfl rfl 6 (by decide) (hts (.fieldLink RX8 19 "FurPostsModel" "wayA" "[I") (by decide +kernel)) (fun _ h9 => h9) rfl dX8_send_174 ?_
                        refine lv_iload_n hx hb dX8_send_177 rfl (lv_at hl 4 rfl) ?_
                        refine va_iald hx hb hK hP 4 0 rfl rfl (i := a2) (sp_vpn h_3 (show n 2 ≤ 12 by omega) (by decide)) dX8_send_178 ?_
                        refine va_iast hx hb hK hP hD hS 12 0 rfl rfl (i := (nI (n 3))) (x := (F61 6 (Int32.toNatClampNeg a2))) (vp_in_nI (show n 3 < 120 by have := nI_nev (B := 120) h_59 rfl; omega) (by decide)) dX8_send_179 (fun H locs hP2 hD2 hS => ?_)
                        obtain ⟨F63, hF63, hP, hD, hI63⟩ : ∃ F63 : Nat → Nat → Int32, F63 = va_up F61 15 (upd (F61 15) (Int32.toNatClampNeg (nI (n 3))) (F61 6 (Int32.toNatClampNeg a2))) ∧ va_P (dC, dI) vwCl (mw_ h0 q n dl cI cZ F63) H ∧ va_D A (mw_ h0 q n dl cI cZ F63) ∧ mi_ n F63 := ⟨_, rfl, hP2, hD2, mi_up15 hI61 (hI61.1 _)⟩
                        refine lv_aload_n hx hb dX8_send_180 rfl (lv_at hl 2 rfl) ?_
                        refine va_get (D := (dC, dI)) (ci := 7) (v := .ref (q 16)) (C := RX8) (T := TX8) (N := 37) hx hb hts hinX8 hown hK hP 0 rfl rfl 16 (by decide) (hts (.fieldLink RX8 46 "FurPostsModel" "wayOf" "[I") (by decide +kernel)) (fun _ h9 => h9) rfl dX8_send_181 ?_
                        refine lv_iload hx hb dX8_send_184 (lv_at hl 0 rfl) ?_
                        refine lv_iload_n hx hb dX8_send_186 rfl (lv_at hl 4 rfl) ?_
                        refine va_iast hx hb hK hP hD hS 13 0 rfl rfl (i := (nI (n 3))) (x := a2) (vp_in_nI (show n 3 < 120 by have := nI_nev (B := 120) h_59 rfl; omega) (by decide)) dX8_send_187 (fun H locs hP2 hD2 hS => ?_)
                        obtain ⟨F64, hF64, hP, hD, hI64⟩ : ∃ F64 : Nat → Nat → Int32, F64 = va_up F63 16 (upd (F63 16) (Int32.toNatClampNeg (nI (n 3))) a2) ∧ va_P (dC, dI) vwCl (mw_ h0 q n dl cI cZ F64) H ∧ va_D A (mw_ h0 q n dl cI cZ F64) ∧ mi_ n F64 := ⟨_, rfl, hP2, hD2, mi_up16 hI63 (sp_vpn h_3 (show n 2 ≤ 12 by omega) (by decide))⟩
                        refine lv_aload_n hx hb dX8_send_188 rfl (lv_at hl 2 rfl) ?_
                        refine va_get (D := (dC, dI)) (ci := 7) (v := .ref (q 17)) (C := RX8) (T := TX8) (N := 37) hx hb hts hinX8 hown hK hP 0 rfl rfl 17 (by decide) (hts (.fieldLink RX8 49 "FurPostsModel" "toGo" "[I") (by decide +kernel)) (fun _ h9 => h9) rfl dX8_send_189 ?_
                        refine lv_iload hx hb dX8_send_192 (lv_at hl 0 rfl) ?_
                        refine lv_aload_n hx hb dX8_send_194 rfl (lv_at hl 2 rfl) ?_
                        refine va_get (D := (dC, dI)) (ci := 7) (v := .ref (q 8)) (C := RX8) (T := TX8) (N := 37) hx hb hts hinX8 hown hK hP 0 rfl rfl 8 (by decide) (hts (.fieldLink RX8 25 "FurPostsModel" "wayLong" "[I") (by decide +kernel)) (fun _ h9 => h9) rfl dX8_send_195 ?_
                        refine lv_iload_n hx hb dX8_send_198 rfl (lv_at hl 4 rfl) ?_
                        refine va_iald hx hb hK hP 6 0 rfl rfl (i := a2) (sp_vpn h_3 (show n 2 ≤ 12 by omega) (by decide)) dX8_send_199 ?_
                        refine va_iast hx hb hK hP hD hS 14 0 rfl rfl (i := (nI (n 3))) (x := (F64 8 (Int32.toNatClampNeg a2))) (vp_in_nI (show n 3 < 120 by have := nI_nev (B := 120) h_59 rfl; omega) (by decide)) dX8_send_200 (fun H locs hP2 hD2 hS => ?_)
                        obtain ⟨F65, hF65, hP, hD, hI65⟩ : ∃ F65 : Nat → Nat → Int32, F65 = va_up F64 17 (upd (F64 17) (Int32.toNatClampNeg (nI (n 3))) (F64 8 (Int32.toNatClampNeg a2))) ∧ va_P (dC, dI) vwCl (mw_ h0 q n dl cI cZ F65) H ∧ va_D A (mw_ h0 q n dl cI cZ F65) ∧ mi_ n F65 := ⟨_, rfl, hP2, hD2, hI64⟩
                        refine lv_aload_n hx hb dX8_send_201 rfl (lv_at hl 2 rfl) ?_
                        refine va_get (D := (dC, dI)) (ci := 7) (v := .ref (q 19)) (C := RX8) (T := TX8) (N := 37) hx hb hts hinX8 hown hK hP 0 rfl rfl 19 (by decide) (hts (.fieldLink RX8 55 "FurPostsModel" "sentOn" "[I") (by decide +kernel)) (fun _ h9 => h9) rfl dX8_send_202 ?_
                        refine lv_iload hx hb dX8_send_205 (lv_at hl 0 rfl) ?_
                        refine lv_aload_n hx hb dX8_send_207 rfl (lv_at hl 2 rfl) ?_
                        refine va_get (D := (dC, dI)) (ci := 7) (v := .int (nI (n 0))) (C := RX8) (T := TX8) (N := 37) hx hb hts hinX8 hown hK hP 0 rfl rfl 0 (by decide) (hts (.fieldLink RX8 137 "FurPostsModel" "now" "I") (by decide +kernel)) (fun _ h9 => h9) rfl dX8_send_208 ?_
                        refine va_iast hx hb hK hP hD hS 16 0 rfl rfl (i := (nI (n 3))) (x := (nI (n 0))) (vp_in_nI (show n 3 < 120 by have := nI_nev (B := 120) h_59 rfl; omega) (by decide)) dX8_send_211 (fun H locs hP2 hD2 hS => ?_)
                        obtain ⟨F66, hF66, hP, hD, hI66⟩ : ∃ F66 : Nat → Nat → Int32, F66 = va_up F65 19 (upd (F65 19) (Int32.toNatClampNeg (nI (n 3))) (nI (n 0))) ∧ va_P (dC, dI) vwCl (mw_ h0 q n dl cI cZ F66) H ∧ va_D A (mw_ h0 q n dl cI cZ F66) ∧ mi_ n F66 := ⟨_, rfl, hP2, hD2, hI65⟩
                        refine lv_aload_n hx hb dX8_send_212 rfl (lv_at hl 2 rfl) ?_
                        refine va_get (D := (dC, dI)) (ci := 7) (v := .ref (q 20)) (C := RX8) (T := TX8) (N := 37) hx hb hts hinX8 hown hK hP 0 rfl rfl 20 (by decide) (hts (.fieldLink RX8 58 "FurPostsModel" "cameOn" "[I") (by decide +kernel)) (fun _ h9 => h9) rfl dX8_send_213 ?_
                        refine lv_iload hx hb dX8_send_216 (lv_at hl 0 rfl) ?_
                        refine lv_iconst (v := (-1)) hx hb dX8_send_218 (by decide) ?_
                        refine va_iast hx hb hK hP hD hS 17 0 rfl rfl (i := (nI (n 3))) (x := (-1)) (vp_in_nI (show n 3 < 120 by have := nI_nev (B := 120) h_59 rfl; omega) (by decide)) dX8_send_219 (fun H locs hP2 hD2 hS => ?_)
                        obtain ⟨F67, hF67, hP, hD, hI67⟩ : ∃ F67 : Nat → Nat → Int32, F67 = va_up F66 20 (upd (F66 20) (Int32.toNatClampNeg (nI (n 3))) (-1)) ∧ va_P (dC, dI) vwCl (mw_ h0 q n dl cI cZ F67) H ∧ va_D A (mw_ h0 q n dl cI cZ F67) ∧ mi_ n F67 := ⟨_, rfl, hP2, hD2, hI66⟩
                        refine lv_iconst (v := 0) hx hb dX8_send_220 (by decide) ?_
                        refine lv_istore (lv' := [(5, .int 0), (4, .int (nI (n 3))), (3, .int x49_3), (0, .ref h0), (1, .int a1), (2, .int a2)]) hx hb dX8_send_221 hl (by decide) rfl (fun ls hl => ?_)
                        have key223 : ∀ (k j223 : Nat) (F223 : Nat → Nat → Int32) (dl : Int32) (H : Heap) (locs : List Loc) (ls : Array Slot), j223 + k = 6 → va_P (dC, dI) vwCl (mw_ h0 q n dl cI cZ F223) H → va_D A (mw_ h0 q n dl cI cZ F223) → mi_ n F223 → va_S A s.heap H locs → lv_has ls 6 [(5, .int (nI j223)), (4, .int (nI (n 3))), (3, .int x49_3), (0, .ref h0), (1, .int a1), (2, .int a2)] →
                            W p l e (headSpec wsX8_send ({ frames := 3, cells := 0, slots := 0, locals := 67 })).room s m [.ref h0, .int a1, .int a2].toArray below meth c H locs 0 0 (MQ below (va_Qi (fun r (u : (Nat → Nat → Int32) × (Nat → Nat) × Int32) => True ∧ va_D A (mw_ h0 q u.2.1 u.2.2 cI cZ u.1) ∧ mi_ u.2.1 u.1 ∧ nb_ u.2.1 ∧ (u.2.1 0 = n 0 ∧ u.2.1 1 = n 1)) (fun u s' => va_P (dC, dI) vwCl (mw_ h0 q u.2.1 u.2.2 cI cZ u.1) s'.heap) A) [.ref h0, .int a1, .int a2].toArray s 0 0 A) (F0 m 223 ls []) := by
                          intro k
                          induction k with
                          | zero =>
                            intro j223 F223 dl H locs ls hj hP hD hI223 hS hl
                            have hj : j223 = 6 := by omega
                            subst j223
                            refine lv_iload hx hb dX8_send_223 (lv_at hl 0 rfl) ?_
                            refine lv_bipush (v := 6) hx hb dX8_send_225 (by decide) ?_
                            refine lv_icmp_ge (tgt := 306) hx hb dX8_send_227 (by decide) (fun h_68 => ?_) (fun h_68 => absurd (lp_ge0 (B := 6) rfl) h_68)
                            refine lv_iconst (v := 0) hx hb dX8_send_306 (by decide) ?_
                            refine lv_istore (lv' := [(5, .int 0), (4, .int (nI (n 3))), (3, .int x49_3), (0, .ref h0), (1, .int a1), (2, .int a2)]) hx hb dX8_send_307 hl (by decide) rfl (fun ls hl => ?_)
                            have key309 : ∀ (k j309 : Nat) (F309 : Nat → Nat → Int32) (dl : Int32) (H : Heap) (locs : List Loc) (ls : Array Slot), j309 + k = (n 4) → va_P (dC, dI) vwCl (mw_ h0 q n dl cI cZ F309) H → va_D A (mw_ h0 q n dl cI cZ F309) → mi_ n F309 → va_S A s.heap H locs → lv_has ls 6 [(5, .int (nI j309)), (4, .int (nI (n 3))), (3, .int x49_3), (0, .ref h0), (1, .int a1), (2, .int a2)] →
                                W p l e (headSpec wsX8_send ({ frames := 3, cells := 0, slots := 0, locals := 67 })).room s m [.ref h0, .int a1, .int a2].toArray below meth c H locs 0 0 (MQ below (va_Qi (fun r (u : (Nat → Nat → Int32) × (Nat → Nat) × Int32) => True ∧ va_D A (mw_ h0 q u.2.1 u.2.2 cI cZ u.1) ∧ mi_ u.2.1 u.1 ∧ nb_ u.2.1 ∧ (u.2.1 0 = n 0 ∧ u.2.1 1 = n 1)) (fun u s' => va_P (dC, dI) vwCl (mw_ h0 q u.2.1 u.2.2 cI cZ u.1) s'.heap) A) [.ref h0, .int a1, .int a2].toArray s 0 0 A) (F0 m 309 ls []) := by
                              intro k
                              induction k with
                              | zero =>
                                intro j309 F309 dl H locs ls hj hP hD hI309 hS hl
                                have hj : j309 = (n 4) := by omega
                                subst j309
                                refine lv_iload hx hb dX8_send_309 (lv_at hl 0 rfl) ?_
                                refine lv_aload_n hx hb dX8_send_311 rfl (lv_at hl 3 rfl) ?_
                                refine va_get (D := (dC, dI)) (ci := 7) (v := .int (nI (n 4))) (C := RX8) (T := TX8) (N := 37) hx hb hts hinX8 hown hK hP 0 rfl rfl 25 (by decide) (hts (.fieldLink RX8 144 "FurPostsModel" "letters" "I") (by decide +kernel)) (fun _ h9 => h9) rfl dX8_send_312 ?_
                                refine lv_icmp_ge (tgt := 384) hx hb dX8_send_315 (by decide) (fun h_69 => ?_) (fun h_69 => absurd (lp_ge0 (B := (n 4)) rfl) h_69)
                                refine lv_aload_n hx hb dX8_send_384 rfl (lv_at hl 3 rfl) ?_
                                refine lv_dup hx hb dX8_send_385 rfl ?_
                                refine va_get (D := (dC, dI)) (ci := 7) (v := .int (nI (n 3))) (C := RX8) (T := TX8) (N := 37) hx hb hts hinX8 hown hK hP 0 rfl rfl 13 (by decide) (hts (.fieldLink RX8 112 "FurPostsModel" "canoes" "I") (by decide +kernel)) (fun _ h9 => h9) rfl dX8_send_386 ?_
                                refine lv_iconst (v := 1) hx hb dX8_send_389 (by decide) ?_
                                refine lv_iadd hx hb dX8_send_390 ?_
                                rw [nI_1]
                                refine va_put (D := (dC, dI)) (ci := 7) (v := .int (nI ((n 3) + 1))) (ty := .int) (C := RX8) (T := TX8) (N := 37) hx hb hts hinX8 tyX8 tyX8_ok nmX8 hown hK hP hD hS 0 rfl rfl 13 (by decide) (hts (.fieldLink RX8 112 "FurPostsModel" "canoes" "I") (by decide +kernel)) (fun _ h9 => h9) rfl (by decide +kernel) rfl rfl (Nat.le_of_ble_eq_true rfl) dX8_send_391 (fun H locs hP2 hD2 hS => ?_)
                                obtain ⟨n70, hn70, hP, hD⟩ : ∃ n70 : Nat → Nat, n70 = va_up n 3 (((n 3) + 1)) ∧ va_P (dC, dI) vwCl (mw_ h0 q n70 dl cI cZ F309) H ∧ va_D A (mw_ h0 q n70 dl cI cZ F309) := ⟨_, rfl, hP2, hD2⟩
                                have hN : nb_ n70 := by rw [hn70]; exact ⟨hN.1, hN.2.1, hN.2.2.1, (show ((n 3) + 1) ≤ 120 by have := nI_nev (B := 120) h_59 rfl; omega), hN.2.2.2.2⟩
                                have hIn70 : mi_ n70 F309 := by rw [hn70]; exact hI309
                                refine lv_iload hx hb dX8_send_394 (lv_at hl 1 rfl) ?_
                                exact W.iret (v := (nI (n 3))) hx hb hr (fun t9 ht hW => ⟨⟨(nI (n 3)), (F309, n70, dl), rfl, ⟨trivial, hD, hIn70, hN, ⟨by rw [hn70]; rfl, by rw [hn70]; rfl⟩⟩, by show va_P (dC, dI) vwCl _ t9.heap; rw [ht]; exact hP⟩, hS.F ht⟩) hS.2.2 dX8_send_396
                              | succ k ih309 =>
                                intro j309 F309 dl H locs ls hj hP hD hI309 hS hl
                                have hj309 : j309 < (n 4) := by omega
                                refine lv_iload hx hb dX8_send_309 (lv_at hl 0 rfl) ?_
                                refine lv_aload_n hx hb dX8_send_311 rfl (lv_at hl 3 rfl) ?_
                                refine va_get (D := (dC, dI)) (ci := 7) (v := .int (nI (n 4))) (C := RX8) (T := TX8) (N := 37) hx hb hts hinX8 hown hK hP 0 rfl rfl 25 (by decide) (hts (.fieldLink RX8 144 "FurPostsModel" "letters" "I") (by decide +kernel)) (fun _ h9 => h9) rfl dX8_send_312 ?_
                                refine lv_icmp_ge (tgt := 384) hx hb dX8_send_315 (by decide) (fun h_71 => absurd h_71 (lp_ge (B := (n 4)) (by omega) (by omega) rfl)) (fun h_71 => ?_)
                                refine lv_aload_n hx hb dX8_send_318 rfl (lv_at hl 3 rfl) ?_
                                refine va_get (D := (dC, dI)) (ci := 7) (v := .ref (q 28)) (C := RX8) (T := TX8) (N := 37) hx hb hts hinX8 hown hK hP 0 rfl rfl 28 (by decide) (hts (.fieldLink RX8 80 "FurPostsModel" "letterAt" "[I") (by decide +kernel)) (fun _ h9 => h9) rfl dX8_send_319 ?_
                                refine lv_iload hx hb dX8_send_322 (lv_at hl 0 rfl) ?_
                                refine va_iald hx hb hK hP 24 0 rfl rfl (i := (nI j309)) (vp_in_nI (show j309 < 300 by omega) (by decide)) dX8_send_324 ?_
                                refine lv_iload_n hx hb dX8_send_325 rfl (lv_at hl 4 rfl) ?_
                                refine lv_icmp_ne (tgt := 378) hx hb dX8_send_326 (by decide) (fun h_72 => ?_) (fun h_72 => ?_)
                                · skip
                                  refine lv_iinc (v := (nI (j309 + 1))) (lv' := [(5, .int (nI (j309 + 1))), (4, .int (nI (n 3))), (3, .int x49_3), (0, .ref h0), (1, .int a1), (2, .int a2)]) hx hb dX8_send_378 hl (k := 0) rfl (show nI j309 + 1 = nI (j309 + 1) from nI_1 j309) (by decide) rfl (fun ls hl => ?_)
                                  refine lv_goto (tgt := 309) hx hb dX8_send_381 (by decide) ?_
                                  exact ih309 (j309 + 1) F309 dl H locs ls (by omega) hP hD hI309 hS (lv_sub hl [0, 1, 2, 3, 4, 5] rfl)
                                · skip
                                  refine lv_aload_n hx hb dX8_send_329 rfl (lv_at hl 3 rfl) ?_
                                  refine lv_iload_n hx hb dX8_send_330 rfl (lv_at hl 4 rfl) ?_
                                  refine lv_aload_n hx hb dX8_send_331 rfl (lv_at hl 3 rfl) ?_
                                  refine va_get (D := (dC, dI)) (ci := 7) (v := .ref (q 27)) (C := RX8) (T := TX8) (N := 37) hx hb hts hinX8 hown hK hP 0 rfl rfl 27 (by decide) (hts (.fieldLink RX8 77 "FurPostsModel" "letterTo" "[I") (by decide +kernel)) (fun _ h9 => h9) rfl dX8_send_332 ?_
                                  refine lv_iload hx hb dX8_send_335 (lv_at hl 0 rfl) ?_
                                  refine va_iald hx hb hK hP 23 0 rfl rfl (i := (nI j309)) (vp_in_nI (show j309 < 300 by omega) (by decide)) dX8_send_337 ?_
                                  refine va_calli (va_runV (As := [.int a1, .int (F309 27 (Int32.toNatClampNeg (nI j309)))]) (rest := []) ⟨hx, hb, hml, hown, hts⟩ (m_X8_next l dC dI h0 q n dl cI cZ F309 hI309 hN A hD a1 (F309 27 (Int32.toNatClampNeg (nI j309)))) (cwV 2 hts gX8_send_X8_next rfl rfl rfl (by decide +kernel) ⟨Nat.le_of_ble_eq_true rfl, Nat.le_of_ble_eq_true rfl⟩) (pu_pre hP hK (ci := 7) (q0 := 0) rfl rfl) rfl rfl hl.1 rfl (lv_room (Nat.le_of_ble_eq_true rfl)) dX8_send_338 ⟨Nat.le_of_ble_eq_true rfl, Nat.le_of_ble_eq_true rfl⟩) hS (fun _ _ h => h) (fun _ h => h) (fun r73 u73 st73 H locs ht73 hvm73 hw73 hB73 hz73 hk73 hS => ?_)
                                  obtain ⟨F73, n73, d73⟩ := u73
                                  obtain ⟨ha73, hD73, hI73, hN73, hn73⟩ := hw73
                                  have hn73 : n73 = n := hn73
                                  obtain ⟨dl, hP, hD, hI73⟩ : ∃ dl : Int32, va_P (dC, dI) vwCl (mw_ h0 q n dl cI cZ F73) H ∧ va_D A (mw_ h0 q n dl cI cZ F73) ∧ mi_ n F73 := ⟨d73, by rw [← hn73, ← ht73]; exact hB73, by rw [← hn73]; exact hD73, by rw [← hn73]; exact hI73⟩
                                  refine lv_aload_n hx hb dX8_send_341 rfl (lv_at hl 3 rfl) ?_
                                  refine va_get (D := (dC, dI)) (ci := 7) (v := .ref (q 15)) (C := RX8) (T := TX8) (N := 37) hx hb hts hinX8 hown hK hP 0 rfl rfl 15 (by decide) (hts (.fieldLink RX8 43 "FurPostsModel" "to" "[I") (by decide +kernel)) (fun _ h9 => h9) rfl dX8_send_342 ?_
                                  refine lv_iload hx hb dX8_send_345 (lv_at hl 1 rfl) ?_
                                  refine va_iald hx hb hK hP 12 0 rfl rfl (i := (nI (n 3))) (vp_in_nI (show n 3 < 120 by have := nI_nev (B := 120) h_59 rfl; omega) (by decide)) dX8_send_347 ?_
                                  refine lv_icmp_eq (tgt := 354) hx hb dX8_send_348 (by decide) (fun h_74 => ?_) (fun h_74 => ?_)
                                  · skip
                                    refine lv_aload_n hx hb dX8_send_354 rfl (lv_at hl 3 rfl) ?_
                                    refine va_get (D := (dC, dI)) (ci := 7) (v := .ref (q 28)) (C := RX8) (T := TX8) (N := 37) hx hb hts hinX8 hown hK hP 0 rfl rfl 28 (by decide) (hts (.fieldLink RX8 80 "FurPostsModel" "letterAt" "[I") (by decide +kernel)) (fun _ h9 => h9) rfl dX8_send_355 ?_
                                    refine lv_iload hx hb dX8_send_358 (lv_at hl 0 rfl) ?_
                                    refine lv_sipush (v := 2000) hx hb dX8_send_360 (by decide) ?_
                                    refine lv_iload hx hb dX8_send_363 (lv_at hl 1 rfl) ?_
                                    refine lv_iadd hx hb dX8_send_365 ?_
                                    refine va_iast hx hb hK hP hD hS 24 0 rfl rfl (i := (nI j309)) (x := (2000 + (nI (n 3)))) (vp_in_nI (show j309 < 300 by omega) (by decide)) dX8_send_366 (fun H locs hP2 hD2 hS => ?_)
                                    obtain ⟨F75, hF75, hP, hD, hI75⟩ : ∃ F75 : Nat → Nat → Int32, F75 = va_up F73 28 (upd (F73 28) (Int32.toNatClampNeg (nI j309)) (2000 + (nI (n 3)))) ∧ va_P (dC, dI) vwCl (mw_ h0 q n dl cI cZ F75) H ∧ va_D A (mw_ h0 q n dl cI cZ F75) ∧ mi_ n F75 := ⟨_, rfl, hP2, hD2, hI73⟩
                                    refine lv_aload_n hx hb dX8_send_367 rfl (lv_at hl 3 rfl) ?_
                                    refine va_get (D := (dC, dI)) (ci := 7) (v := .ref (q 21)) (C := RX8) (T := TX8) (N := 37) hx hb hts hinX8 hown hK hP 0 rfl rfl 21 (by decide) (hts (.fieldLink RX8 61 "FurPostsModel" "withLetters" "[I") (by decide +kernel)) (fun _ h9 => h9) rfl dX8_send_368 ?_
                                    refine lv_iload hx hb dX8_send_371 (lv_at hl 1 rfl) ?_
                                    refine lv_dup2_11 hx hb dX8_send_373 rfl rfl ?_
                                    refine va_iald hx hb hK hP 18 0 rfl rfl (i := (nI (n 3))) (vp_in_nI (show n 3 < 120 by have := nI_nev (B := 120) h_59 rfl; omega) (by decide)) dX8_send_374 ?_
                                    refine lv_iconst (v := 1) hx hb dX8_send_375 (by decide) ?_
                                    refine lv_iadd hx hb dX8_send_376 ?_
                                    refine va_iast hx hb hK hP hD hS 18 0 rfl rfl (i := (nI (n 3))) (x := ((F75 21 (Int32.toNatClampNeg (nI (n 3)))) + 1)) (vp_in_nI (show n 3 < 120 by have := nI_nev (B := 120) h_59 rfl; omega) (by decide)) dX8_send_377 (fun H locs hP2 hD2 hS => ?_)
                                    obtain ⟨F76, hF76, hP, hD, hI76⟩ : ∃ F76 : Nat → Nat → Int32, F76 = va_up F75 21 (upd (F75 21) (Int32.toNatClampNeg (nI (n 3))) ((F75 21 (Int32.toNatClampNeg (nI (n 3)))) + 1)) ∧ va_P (dC, dI) vwCl (mw_ h0 q n dl cI cZ F76) H ∧ va_D A (mw_ h0 q n dl cI cZ F76) ∧ mi_ n F76 := ⟨_, rfl, hP2, hD2, hI75⟩
                                    refine lv_iinc (v := (nI (j309 + 1))) (lv' := [(5, .int (nI (j309 + 1))), (4, .int (nI (n 3))), (3, .int x49_3), (0, .ref h0), (1, .int a1), (2, .int a2)]) hx hb dX8_send_378 hl (k := 0) rfl (show nI j309 + 1 = nI (j309 + 1) from nI_1 j309) (by decide) rfl (fun ls hl => ?_)
                                    refine lv_goto (tgt := 309) hx hb dX8_send_381 (by decide) ?_
                                    exact ih309 (j309 + 1) F76 dl H locs ls (by omega) hP hD hI76 hS (lv_sub hl [0, 1, 2, 3, 4, 5] rfl)
                                  · skip
                                    refine lv_goto (tgt := 378) hx hb dX8_send_351 (by decide) ?_
                                    refine lv_iinc (v := (nI (j309 + 1))) (lv' := [(5, .int (nI (j309 + 1))), (4, .int (nI (n 3))), (3, .int x49_3), (0, .ref h0), (1, .int a1), (2, .int a2)]) hx hb dX8_send_378 hl (k := 0) rfl (show nI j309 + 1 = nI (j309 + 1) from nI_1 j309) (by decide) rfl (fun ls hl => ?_)
                                    refine lv_goto (tgt := 309) hx hb dX8_send_381 (by decide) ?_
                                    exact ih309 (j309 + 1) F73 dl H locs ls (by omega) hP hD hI73 hS (lv_sub hl [0, 1, 2, 3, 4, 5] rfl)
                            exact key309 (n 4) 0 F223 dl H locs ls (by omega) hP hD hI223 hS (lv_sub hl [0, 1, 2, 3, 4, 5] rfl)
                          | succ k ih223 =>
                            intro j223 F223 dl H locs ls hj hP hD hI223 hS hl
                            have hj223 : j223 < 6 := by omega
                            refine lv_iload hx hb dX8_send_223 (lv_at hl 0 rfl) ?_
                            refine lv_bipush (v := 6) hx hb dX8_send_225 (by decide) ?_
                            refine lv_icmp_ge (tgt := 306) hx hb dX8_send_227 (by decide) (fun h_77 => absurd h_77 (lp_ge (B := 6) (by omega) (by omega) rfl)) (fun h_77 => ?_)
                            refine lv_aload_n hx hb dX8_send_230 rfl (lv_at hl 3 rfl) ?_
                            refine va_get (D := (dC, dI)) (ci := 7) (v := .ref (q 2)) (C := RX8) (T := TX8) (N := 37) hx hb hts hinX8 hown hK hP 0 rfl rfl 2 (by decide) (hts (.fieldLink RX8 9 "FurPostsModel" "store" "[I") (by decide +kernel)) (fun _ h9 => h9) rfl dX8_send_231 ?_
                            refine lv_bipush (v := 6) hx hb dX8_send_234 (by decide) ?_
                            refine lv_iload_n hx hb dX8_send_236 rfl (lv_at hl 4 rfl) ?_
                            refine lv_imul hx hb dX8_send_237 ?_
                            refine lv_iload hx hb dX8_send_238 (lv_at hl 0 rfl) ?_
                            refine lv_iadd hx hb dX8_send_240 ?_
                            refine lv_dup2_11 hx hb dX8_send_241 rfl rfl ?_
                            refine va_iald hx hb hK hP 1 0 rfl rfl (i := ((6 * a1) + (nI j223))) (vp_lin (a := 8) (b := 6) (m := 6) ((hg1 h_2)) (vp_in_nI (show j223 < 6 by omega) (by decide)) rfl (by decide)) dX8_send_242 ?_
                            refine lv_aload_n hx hb dX8_send_243 rfl (lv_at hl 3 rfl) ?_
                            refine va_get (D := (dC, dI)) (ci := 7) (v := .ref (q 12)) (C := RX8) (T := TX8) (N := 37) hx hb hts hinX8 hown hK hP 0 rfl rfl 12 (by decide) (hts (.fieldLink RX8 37 "FurPostsModel" "loaded" "[I") (by decide +kernel)) (fun _ h9 => h9) rfl dX8_send_244 ?_
                            refine lv_iload hx hb dX8_send_247 (lv_at hl 0 rfl) ?_
                            refine va_iald hx hb hK hP 10 0 rfl rfl (i := (nI j223)) (vp_in_nI (show j223 < 6 by omega) (by decide)) dX8_send_249 ?_
                            refine lv_isub hx hb dX8_send_250 ?_
                            refine va_iast hx hb hK hP hD hS 1 0 rfl rfl (i := ((6 * a1) + (nI j223))) (x := ((F223 2 (Int32.toNatClampNeg ((6 * a1) + (nI j223)))) - (F223 12 (Int32.toNatClampNeg (nI j223))))) (vp_lin (a := 8) (b := 6) (m := 6) ((hg1 h_2)) (vp_in_nI (show j223 < 6 by omega) (by decide)) rfl (by decide)) dX8_send_251 (fun H locs hP2 hD2 hS => ?_)
                            obtain ⟨F78, hF78, hP, hD, hI78⟩ : ∃ F78 : Nat → Nat → Int32, F78 = va_up F223 2 (upd (F223 2) (Int32.toNatClampNeg ((6 * a1) + (nI j223))) ((F223 2 (Int32.toNatClampNeg ((6 * a1) + (nI j223)))) - (F223 12 (Int32.toNatClampNeg (nI j223))))) ∧ va_P (dC, dI) vwCl (mw_ h0 q n dl cI cZ F78) H ∧ va_D A (mw_ h0 q n dl cI cZ F78) ∧ mi_ n F78 := ⟨_, rfl, hP2, hD2, hI223⟩
                            refine lv_aload_n hx hb dX8_send_252 rfl (lv_at hl 3 rfl) ?_
                            refine va_get (D := (dC, dI)) (ci := 7) (v := .ref (q 22)) (C := RX8) (T := TX8) (N := 37) hx hb hts hinX8 hown hK hP 0 rfl rfl 22 (by decide) (hts (.fieldLink RX8 64 "FurPostsModel" "has" "[I") (by decide +kernel)) (fun _ h9 => h9) rfl dX8_send_253 ?_
                            refine lv_bipush (v := 6) hx hb dX8_send_256 (by decide) ?_
                            refine lv_iload hx hb dX8_send_258 (lv_at hl 1 rfl) ?_
                            refine lv_imul hx hb dX8_send_260 ?_
                            refine lv_iload hx hb dX8_send_261 (lv_at hl 0 rfl) ?_
                            refine lv_iadd hx hb dX8_send_263 ?_
                            refine lv_aload_n hx hb dX8_send_264 rfl (lv_at hl 3 rfl) ?_
                            refine va_get (D := (dC, dI)) (ci := 7) (v := .ref (q 12)) (C := RX8) (T := TX8) (N := 37) hx hb hts hinX8 hown hK hP 0 rfl rfl 12 (by decide) (hts (.fieldLink RX8 37 "FurPostsModel" "loaded" "[I") (by decide +kernel)) (fun _ h9 => h9) rfl dX8_send_265 ?_
                            refine lv_iload hx hb dX8_send_268 (lv_at hl 0 rfl) ?_
                            refine va_iald hx hb hK hP 10 0 rfl rfl (i := (nI j223)) (vp_in_nI (show j223 < 6 by omega) (by decide)) dX8_send_270 ?_
                            refine va_iast hx hb hK hP hD hS 19 0 rfl rfl (i := ((6 * (nI (n 3))) + (nI j223))) (x := (F78 12 (Int32.toNatClampNeg (nI j223)))) (vp_lin (a := 120) (b := 6) (m := 6) (vp_in_nI (show n 3 < 120 by have := nI_nev (B := 120) h_59 rfl; omega) (by decide)) (vp_in_nI (show j223 < 6 by omega) (by decide)) rfl (by decide)) dX8_send_271 (fun H locs hP2 hD2 hS => ?_)
                            obtain ⟨F79, hF79, hP, hD, hI79⟩ : ∃ F79 : Nat → Nat → Int32, F79 = va_up F78 22 (upd (F78 22) (Int32.toNatClampNeg ((6 * (nI (n 3))) + (nI j223))) (F78 12 (Int32.toNatClampNeg (nI j223)))) ∧ va_P (dC, dI) vwCl (mw_ h0 q n dl cI cZ F79) H ∧ va_D A (mw_ h0 q n dl cI cZ F79) ∧ mi_ n F79 := ⟨_, rfl, hP2, hD2, hI78⟩
                            refine lv_aload_n hx hb dX8_send_272 rfl (lv_at hl 3 rfl) ?_
                            refine va_get (D := (dC, dI)) (ci := 7) (v := .ref (q 23)) (C := RX8) (T := TX8) (N := 37) hx hb hts hinX8 hown hK hP 0 rfl rfl 23 (by decide) (hts (.fieldLink RX8 67 "FurPostsModel" "sent" "[I") (by decide +kernel)) (fun _ h9 => h9) rfl dX8_send_273 ?_
                            refine lv_bipush (v := 6) hx hb dX8_send_276 (by decide) ?_
                            refine lv_iload hx hb dX8_send_278 (lv_at hl 1 rfl) ?_
                            refine lv_imul hx hb dX8_send_280 ?_
                            refine lv_iload hx hb dX8_send_281 (lv_at hl 0 rfl) ?_
                            refine lv_iadd hx hb dX8_send_283 ?_
                            refine lv_aload_n hx hb dX8_send_284 rfl (lv_at hl 3 rfl) ?_
                            refine va_get (D := (dC, dI)) (ci := 7) (v := .ref (q 12)) (C := RX8) (T := TX8) (N := 37) hx hb hts hinX8 hown hK hP 0 rfl rfl 12 (by decide) (hts (.fieldLink RX8 37 "FurPostsModel" "loaded" "[I") (by decide +kernel)) (fun _ h9 => h9) rfl dX8_send_285 ?_
                            refine lv_iload hx hb dX8_send_288 (lv_at hl 0 rfl) ?_
                            refine va_iald hx hb hK hP 10 0 rfl rfl (i := (nI j223)) (vp_in_nI (show j223 < 6 by omega) (by decide)) dX8_send_290 ?_
                            refine va_iast hx hb hK hP hD hS 20 0 rfl rfl (i := ((6 * (nI (n 3))) + (nI j223))) (x := (F79 12 (Int32.toNatClampNeg (nI j223)))) (vp_lin (a := 120) (b := 6) (m := 6) (vp_in_nI (show n 3 < 120 by have := nI_nev (B := 120) h_59 rfl; omega) (by decide)) (vp_in_nI (show j223 < 6 by omega) (by decide)) rfl (by decide)) dX8_send_291 (fun H locs hP2 hD2 hS => ?_)
                            obtain ⟨F80, hF80, hP, hD, hI80⟩ : ∃ F80 : Nat → Nat → Int32, F80 = va_up F79 23 (upd (F79 23) (Int32.toNatClampNeg ((6 * (nI (n 3))) + (nI j223))) (F79 12 (Int32.toNatClampNeg (nI j223)))) ∧ va_P (dC, dI) vwCl (mw_ h0 q n dl cI cZ F80) H ∧ va_D A (mw_ h0 q n dl cI cZ F80) ∧ mi_ n F80 := ⟨_, rfl, hP2, hD2, hI79⟩
                            refine lv_aload_n hx hb dX8_send_292 rfl (lv_at hl 3 rfl) ?_
                            refine va_get (D := (dC, dI)) (ci := 7) (v := .ref (q 12)) (C := RX8) (T := TX8) (N := 37) hx hb hts hinX8 hown hK hP 0 rfl rfl 12 (by decide) (hts (.fieldLink RX8 37 "FurPostsModel" "loaded" "[I") (by decide +kernel)) (fun _ h9 => h9) rfl dX8_send_293 ?_
                            refine lv_iload hx hb dX8_send_296 (lv_at hl 0 rfl) ?_
                            refine lv_iconst (v := 0) hx hb dX8_send_298 (by decide) ?_
                            refine va_iast hx hb hK hP hD hS 10 0 rfl rfl (i := (nI j223)) (x := 0) (vp_in_nI (show j223 < 6 by omega) (by decide)) dX8_send_299 (fun H locs hP2 hD2 hS => ?_)
                            obtain ⟨F81, hF81, hP, hD, hI81⟩ : ∃ F81 : Nat → Nat → Int32, F81 = va_up F80 12 (upd (F80 12) (Int32.toNatClampNeg (nI j223)) 0) ∧ va_P (dC, dI) vwCl (mw_ h0 q n dl cI cZ F81) H ∧ va_D A (mw_ h0 q n dl cI cZ F81) ∧ mi_ n F81 := ⟨_, rfl, hP2, hD2, hI80⟩
                            refine lv_iinc (v := (nI (j223 + 1))) (lv' := [(5, .int (nI (j223 + 1))), (4, .int (nI (n 3))), (3, .int x49_3), (0, .ref h0), (1, .int a1), (2, .int a2)]) hx hb dX8_send_300 hl (k := 0) rfl (show nI j223 + 1 = nI (j223 + 1) from nI_1 j223) (by decide) rfl (fun ls hl => ?_)
                            refine lv_goto (tgt := 223) hx hb dX8_send_303 (by decide) ?_
                            exact ih223 (j223 + 1) F81 dl H locs ls (by omega) hP hD hI81 hS (lv_sub hl [0, 1, 2, 3, 4, 5] rfl)
                        exact key223 6 0 F67 dl H locs ls (by omega) hP hD hI67 hS (lv_sub hl [0, 1, 2, 3, 4, 5] rfl)
                      · skip
                        refine lv_aload_n hx hb dX8_send_164 rfl (lv_at hl 2 rfl) ?_
                        refine va_get (D := (dC, dI)) (ci := 7) (v := .ref (q 7)) (C := RX8) (T := TX8) (N := 37) hx hb hts hinX8 hown hK hP 0 rfl rfl 7 (by decide) (hts (.fieldLink RX8 22 "FurPostsModel" "wayB" "[I") (by decide +kernel)) (fun _ h9 => h9) rfl dX8_send_165 ?_
                        refine lv_iload_n hx hb dX8_send_168 rfl (lv_at hl 4 rfl) ?_
                        refine va_iald hx hb hK hP 5 0 rfl rfl (i := a2) (sp_vpn h_3 (show n 2 ≤ 12 by omega) (by decide)) dX8_send_169 ?_
                        refine lv_goto (tgt := 179) hx hb dX8_send_170 (by decide) ?_
                        refine va_iast hx hb hK hP hD hS 12 0 rfl rfl (i := (nI (n 3))) (x := (F61 7 (Int32.toNatClampNeg a2))) (vp_in_nI (show n 3 < 120 by have := nI_nev (B := 120) h_59 rfl; omega) (by decide)) dX8_send_179 (fun H locs hP2 hD2 hS => ?_)
                        obtain ⟨F82, hF82, hP, hD, hI82⟩ : ∃ F82 : Nat → Nat → Int32, F82 = va_up F61 15 (upd (F61 15) (Int32.toNatClampNeg (nI (n 3))) (F61 7 (Int32.toNatClampNeg a2))) ∧ va_P (dC, dI) vwCl (mw_ h0 q n dl cI cZ F82) H ∧ va_D A (mw_ h0 q n dl cI cZ F82) ∧ mi_ n F82 := ⟨_, rfl, hP2, hD2, mi_up15 hI61 (hI61.2.1 _)⟩
                        refine lv_aload_n hx hb dX8_send_180 rfl (lv_at hl 2 rfl) ?_
                        refine va_get (D := (dC, dI)) (ci := 7) (v := .ref (q 16)) (C := RX8) (T := TX8) (N := 37) hx hb hts hinX8 hown hK hP 0 rfl rfl 16 (by decide) (hts (.fieldLink RX8 46 "FurPostsModel" "wayOf" "[I") (by decide +kernel)) (fun _ h9 => h9) rfl dX8_send_181 ?_
                        refine lv_iload hx hb dX8_send_184 (lv_at hl 0 rfl) ?_
                        refine lv_iload_n hx hb dX8_send_186 rfl (lv_at hl 4 rfl) ?_
                        refine va_iast hx hb hK hP hD hS 13 0 rfl rfl (i := (nI (n 3))) (x := a2) (vp_in_nI (show n 3 < 120 by have := nI_nev (B := 120) h_59 rfl; omega) (by decide)) dX8_send_187 (fun H locs hP2 hD2 hS => ?_)
                        obtain ⟨F83, hF83, hP, hD, hI83⟩ : ∃ F83 : Nat → Nat → Int32, F83 = va_up F82 16 (upd (F82 16) (Int32.toNatClampNeg (nI (n 3))) a2) ∧ va_P (dC, dI) vwCl (mw_ h0 q n dl cI cZ F83) H ∧ va_D A (mw_ h0 q n dl cI cZ F83) ∧ mi_ n F83 := ⟨_, rfl, hP2, hD2, mi_up16 hI82 (sp_vpn h_3 (show n 2 ≤ 12 by omega) (by decide))⟩
                        refine lv_aload_n hx hb dX8_send_188 rfl (lv_at hl 2 rfl) ?_
                        refine va_get (D := (dC, dI)) (ci := 7) (v := .ref (q 17)) (C := RX8) (T := TX8) (N := 37) hx hb hts hinX8 hown hK hP 0 rfl rfl 17 (by decide) (hts (.fieldLink RX8 49 "FurPostsModel" "toGo" "[I") (by decide +kernel)) (fun _ h9 => h9) rfl dX8_send_189 ?_
                        refine lv_iload hx hb dX8_send_192 (lv_at hl 0 rfl) ?_
                        refine lv_aload_n hx hb dX8_send_194 rfl (lv_at hl 2 rfl) ?_
                        refine va_get (D := (dC, dI)) (ci := 7) (v := .ref (q 8)) (C := RX8) (T := TX8) (N := 37) hx hb hts hinX8 hown hK hP 0 rfl rfl 8 (by decide) (hts (.fieldLink RX8 25 "FurPostsModel" "wayLong" "[I") (by decide +kernel)) (fun _ h9 => h9) rfl dX8_send_195 ?_
                        refine lv_iload_n hx hb dX8_send_198 rfl (lv_at hl 4 rfl) ?_
                        refine va_iald hx hb hK hP 6 0 rfl rfl (i := a2) (sp_vpn h_3 (show n 2 ≤ 12 by omega) (by decide)) dX8_send_199 ?_
                        refine va_iast hx hb hK hP hD hS 14 0 rfl rfl (i := (nI (n 3))) (x := (F83 8 (Int32.toNatClampNeg a2))) (vp_in_nI (show n 3 < 120 by have := nI_nev (B := 120) h_59 rfl; omega) (by decide)) dX8_send_200 (fun H locs hP2 hD2 hS => ?_)
                        obtain ⟨F84, hF84, hP, hD, hI84⟩ : ∃ F84 : Nat → Nat → Int32, F84 = va_up F83 17 (upd (F83 17) (Int32.toNatClampNeg (nI (n 3))) (F83 8 (Int32.toNatClampNeg a2))) ∧ va_P (dC, dI) vwCl (mw_ h0 q n dl cI cZ F84) H ∧ va_D A (mw_ h0 q n dl cI cZ F84) ∧ mi_ n F84 := ⟨_, rfl, hP2, hD2, hI83⟩
                        refine lv_aload_n hx hb dX8_send_201 rfl (lv_at hl 2 rfl) ?_
                        refine va_get (D := (dC, dI)) (ci := 7) (v := .ref (q 19)) (C := RX8) (T := TX8) (N := 37) hx hb hts hinX8 hown hK hP 0 rfl rfl 19 (by decide) (hts (.fieldLink RX8 55 "FurPostsModel" "sentOn" "[I") (by decide +kernel)) (fun _ h9 => h9) rfl dX8_send_202 ?_
                        refine lv_iload hx hb dX8_send_205 (lv_at hl 0 rfl) ?_
                        refine lv_aload_n hx hb dX8_send_207 rfl (lv_at hl 2 rfl) ?_
                        refine va_get (D := (dC, dI)) (ci := 7) (v := .int (nI (n 0))) (C := RX8) (T := TX8) (N := 37) hx hb hts hinX8 hown hK hP 0 rfl rfl 0 (by decide) (hts (.fieldLink RX8 137 "FurPostsModel" "now" "I") (by decide +kernel)) (fun _ h9 => h9) rfl dX8_send_208 ?_
                        refine va_iast hx hb hK hP hD hS 16 0 rfl rfl (i := (nI (n 3))) (x := (nI (n 0))) (vp_in_nI (show n 3 < 120 by have := nI_nev (B := 120) h_59 rfl; omega) (by decide)) dX8_send_211 (fun H locs hP2 hD2 hS => ?_)
                        obtain ⟨F85, hF85, hP, hD, hI85⟩ : ∃ F85 : Nat → Nat → Int32, F85 = va_up F84 19 (upd (F84 19) (Int32.toNatClampNeg (nI (n 3))) (nI (n 0))) ∧ va_P (dC, dI) vwCl (mw_ h0 q n dl cI cZ F85) H ∧ va_D A (mw_ h0 q n dl cI cZ F85) ∧ mi_ n F85 := ⟨_, rfl, hP2, hD2, hI84⟩
                        refine lv_aload_n hx hb dX8_send_212 rfl (lv_at hl 2 rfl) ?_
                        refine va_get (D := (dC, dI)) (ci := 7) (v := .ref (q 20)) (C := RX8) (T := TX8) (N := 37) hx hb hts hinX8 hown hK hP 0 rfl rfl 20 (by decide) (hts (.fieldLink RX8 58 "FurPostsModel" "cameOn" "[I") (by decide +kernel)) (fun _ h9 => h9) rfl dX8_send_213 ?_
                        refine lv_iload hx hb dX8_send_216 (lv_at hl 0 rfl) ?_
                        refine lv_iconst (v := (-1)) hx hb dX8_send_218 (by decide) ?_
                        refine va_iast hx hb hK hP hD hS 17 0 rfl rfl (i := (nI (n 3))) (x := (-1)) (vp_in_nI (show n 3 < 120 by have := nI_nev (B := 120) h_59 rfl; omega) (by decide)) dX8_send_219 (fun H locs hP2 hD2 hS => ?_)
                        obtain ⟨F86, hF86, hP, hD, hI86⟩ : ∃ F86 : Nat → Nat → Int32, F86 = va_up F85 20 (upd (F85 20) (Int32.toNatClampNeg (nI (n 3))) (-1)) ∧ va_P (dC, dI) vwCl (mw_ h0 q n dl cI cZ F86) H ∧ va_D A (mw_ h0 q n dl cI cZ F86) ∧ mi_ n F86 := ⟨_, rfl, hP2, hD2, hI85⟩
                        refine lv_iconst (v := 0) hx hb dX8_send_220 (by decide) ?_
                        refine lv_istore (lv' := [(5, .int 0), (4, .int (nI (n 3))), (3, .int x49_3), (0, .ref h0), (1, .int a1), (2, .int a2)]) hx hb dX8_send_221 hl (by decide) rfl (fun ls hl => ?_)
                        have key223 : ∀ (k j223 : Nat) (F223 : Nat → Nat → Int32) (dl : Int32) (H : Heap) (locs : List Loc) (ls : Array Slot), j223 + k = 6 → va_P (dC, dI) vwCl (mw_ h0 q n dl cI cZ F223) H → va_D A (mw_ h0 q n dl cI cZ F223) → mi_ n F223 → va_S A s.heap H locs → lv_has ls 6 [(5, .int (nI j223)), (4, .int (nI (n 3))), (3, .int x49_3), (0, .ref h0), (1, .int a1), (2, .int a2)] →
                            W p l e (headSpec wsX8_send ({ frames := 3, cells := 0, slots := 0, locals := 67 })).room s m [.ref h0, .int a1, .int a2].toArray below meth c H locs 0 0 (MQ below (va_Qi (fun r (u : (Nat → Nat → Int32) × (Nat → Nat) × Int32) => True ∧ va_D A (mw_ h0 q u.2.1 u.2.2 cI cZ u.1) ∧ mi_ u.2.1 u.1 ∧ nb_ u.2.1 ∧ (u.2.1 0 = n 0 ∧ u.2.1 1 = n 1)) (fun u s' => va_P (dC, dI) vwCl (mw_ h0 q u.2.1 u.2.2 cI cZ u.1) s'.heap) A) [.ref h0, .int a1, .int a2].toArray s 0 0 A) (F0 m 223 ls []) := by
                          intro k
                          induction k with
                          | zero =>
                            intro j223 F223 dl H locs ls hj hP hD hI223 hS hl
                            have hj : j223 = 6 := by omega
                            subst j223
                            refine lv_iload hx hb dX8_send_223 (lv_at hl 0 rfl) ?_
                            refine lv_bipush (v := 6) hx hb dX8_send_225 (by decide) ?_
                            refine lv_icmp_ge (tgt := 306) hx hb dX8_send_227 (by decide) (fun h_87 => ?_) (fun h_87 => absurd (lp_ge0 (B := 6) rfl) h_87)
                            refine lv_iconst (v := 0) hx hb dX8_send_306 (by decide) ?_
                            refine lv_istore (lv' := [(5, .int 0), (4, .int (nI (n 3))), (3, .int x49_3), (0, .ref h0), (1, .int a1), (2, .int a2)]) hx hb dX8_send_307 hl (by decide) rfl (fun ls hl => ?_)
                            have key309 : ∀ (k j309 : Nat) (F309 : Nat → Nat → Int32) (dl : Int32) (H : Heap) (locs : List Loc) (ls : Array Slot), j309 + k = (n 4) → va_P (dC, dI) vwCl (mw_ h0 q n dl cI cZ F309) H → va_D A (mw_ h0 q n dl cI cZ F309) → mi_ n F309 → va_S A s.heap H locs → lv_has ls 6 [(5, .int (nI j309)), (4, .int (nI (n 3))), (3, .int x49_3), (0, .ref h0), (1, .int a1), (2, .int a2)] →
                                W p l e (headSpec wsX8_send ({ frames := 3, cells := 0, slots := 0, locals := 67 })).room s m [.ref h0, .int a1, .int a2].toArray below meth c H locs 0 0 (MQ below (va_Qi (fun r (u : (Nat → Nat → Int32) × (Nat → Nat) × Int32) => True ∧ va_D A (mw_ h0 q u.2.1 u.2.2 cI cZ u.1) ∧ mi_ u.2.1 u.1 ∧ nb_ u.2.1 ∧ (u.2.1 0 = n 0 ∧ u.2.1 1 = n 1)) (fun u s' => va_P (dC, dI) vwCl (mw_ h0 q u.2.1 u.2.2 cI cZ u.1) s'.heap) A) [.ref h0, .int a1, .int a2].toArray s 0 0 A) (F0 m 309 ls []) := by
                              intro k
                              induction k with
                              | zero =>
                                intro j309 F309 dl H locs ls hj hP hD hI309 hS hl
                                have hj : j309 = (n 4) := by omega
                                subst j309
                                refine lv_iload hx hb dX8_send_309 (lv_at hl 0 rfl) ?_
                                refine lv_aload_n hx hb dX8_send_311 rfl (lv_at hl 3 rfl) ?_
                                refine va_get (D := (dC, dI)) (ci := 7) (v := .int (nI (n 4))) (C := RX8) (T := TX8) (N := 37) hx hb hts hinX8 hown hK hP 0 rfl rfl 25 (by decide) (hts (.fieldLink RX8 144 "FurPostsModel" "letters" "I") (by decide +kernel)) (fun _ h9 => h9) rfl dX8_send_312 ?_
                                refine lv_icmp_ge (tgt := 384) hx hb dX8_send_315 (by decide) (fun h_88 => ?_) (fun h_88 => absurd (lp_ge0 (B := (n 4)) rfl) h_88)
                                refine lv_aload_n hx hb dX8_send_384 rfl (lv_at hl 3 rfl) ?_
                                refine lv_dup hx hb dX8_send_385 rfl ?_
                                refine va_get (D := (dC, dI)) (ci := 7) (v := .int (nI (n 3))) (C := RX8) (T := TX8) (N := 37) hx hb hts hinX8 hown hK hP 0 rfl rfl 13 (by decide) (hts (.fieldLink RX8 112 "FurPostsModel" "canoes" "I") (by decide +kernel)) (fun _ h9 => h9) rfl dX8_send_386 ?_
                                refine lv_iconst (v := 1) hx hb dX8_send_389 (by decide) ?_
                                refine lv_iadd hx hb dX8_send_390 ?_
                                rw [nI_1]
                                refine va_put (D := (dC, dI)) (ci := 7) (v := .int (nI ((n 3) + 1))) (ty := .int) (C := RX8) (T := TX8) (N := 37) hx hb hts hinX8 tyX8 tyX8_ok nmX8 hown hK hP hD hS 0 rfl rfl 13 (by decide) (hts (.fieldLink RX8 112 "FurPostsModel" "canoes" "I") (by decide +kernel)) (fun _ h9 => h9) rfl (by decide +kernel) rfl rfl (Nat.le_of_ble_eq_true rfl) dX8_send_391 (fun H locs hP2 hD2 hS => ?_)
                                obtain ⟨n89, hn89, hP, hD⟩ : ∃ n89 : Nat → Nat, n89 = va_up n 3 (((n 3) + 1)) ∧ va_P (dC, dI) vwCl (mw_ h0 q n89 dl cI cZ F309) H ∧ va_D A (mw_ h0 q n89 dl cI cZ F309) := ⟨_, rfl, hP2, hD2⟩
                                have hN : nb_ n89 := by rw [hn89]; exact ⟨hN.1, hN.2.1, hN.2.2.1, (show ((n 3) + 1) ≤ 120 by have := nI_nev (B := 120) h_59 rfl; omega), hN.2.2.2.2⟩
                                have hIn89 : mi_ n89 F309 := by rw [hn89]; exact hI309
                                refine lv_iload hx hb dX8_send_394 (lv_at hl 1 rfl) ?_
                                exact W.iret (v := (nI (n 3))) hx hb hr (fun t9 ht hW => ⟨⟨(nI (n 3)), (F309, n89, dl), rfl, ⟨trivial, hD, hIn89, hN, ⟨by rw [hn89]; rfl, by rw [hn89]; rfl⟩⟩, by show va_P (dC, dI) vwCl _ t9.heap; rw [ht]; exact hP⟩, hS.F ht⟩) hS.2.2 dX8_send_396
                              | succ k ih309 =>
                                intro j309 F309 dl H locs ls hj hP hD hI309 hS hl
                                have hj309 : j309 < (n 4) := by omega
                                refine lv_iload hx hb dX8_send_309 (lv_at hl 0 rfl) ?_
                                refine lv_aload_n hx hb dX8_send_311 rfl (lv_at hl 3 rfl) ?_
                                refine va_get (D := (dC, dI)) (ci := 7) (v := .int (nI (n 4))) (C := RX8) (T := TX8) (N := 37) hx hb hts hinX8 hown hK hP 0 rfl rfl 25 (by decide) (hts (.fieldLink RX8 144 "FurPostsModel" "letters" "I") (by decide +kernel)) (fun _ h9 => h9) rfl dX8_send_312 ?_
                                refine lv_icmp_ge (tgt := 384) hx hb dX8_send_315 (by decide) (fun h_90 => absurd h_90 (lp_ge (B := (n 4)) (by omega) (by omega) rfl)) (fun h_90 => ?_)
                                refine lv_aload_n hx hb dX8_send_318 rfl (lv_at hl 3 rfl) ?_
                                refine va_get (D := (dC, dI)) (ci := 7) (v := .ref (q 28)) (C := RX8) (T := TX8) (N := 37) hx hb hts hinX8 hown hK hP 0 rfl rfl 28 (by decide) (hts (.fieldLink RX8 80 "FurPostsModel" "letterAt" "[I") (by decide +kernel)) (fun _ h9 => h9) rfl dX8_send_319 ?_
                                refine lv_iload hx hb dX8_send_322 (lv_at hl 0 rfl) ?_
                                refine va_iald hx hb hK hP 24 0 rfl rfl (i := (nI j309)) (vp_in_nI (show j309 < 300 by omega) (by decide)) dX8_send_324 ?_
                                refine lv_iload_n hx hb dX8_send_325 rfl (lv_at hl 4 rfl) ?_
                                refine lv_icmp_ne (tgt := 378) hx hb dX8_send_326 (by decide) (fun h_91 => ?_) (fun h_91 => ?_)
                                · skip
                                  refine lv_iinc (v := (nI (j309 + 1))) (lv' := [(5, .int (nI (j309 + 1))), (4, .int (nI (n 3))), (3, .int x49_3), (0, .ref h0), (1, .int a1), (2, .int a2)]) hx hb dX8_send_378 hl (k := 0) rfl (show nI j309 + 1 = nI (j309 + 1) from nI_1 j309) (by decide) rfl (fun ls hl => ?_)
                                  refine lv_goto (tgt := 309) hx hb dX8_send_381 (by decide) ?_
                                  exact ih309 (j309 + 1) F309 dl H locs ls (by omega) hP hD hI309 hS (lv_sub hl [0, 1, 2, 3, 4, 5] rfl)
                                · skip
                                  refine lv_aload_n hx hb dX8_send_329 rfl (lv_at hl 3 rfl) ?_
                                  refine lv_iload_n hx hb dX8_send_330 rfl (lv_at hl 4 rfl) ?_
                                  refine lv_aload_n hx hb dX8_send_331 rfl (lv_at hl 3 rfl) ?_
                                  refine va_get (D := (dC, dI)) (ci := 7) (v := .ref (q 27)) (C := RX8) (T := TX8) (N := 37) hx hb hts hinX8 hown hK hP 0 rfl rfl 27 (by decide) (hts (.fieldLink RX8 77 "FurPostsModel" "letterTo" "[I") (by decide +kernel)) (fun _ h9 => h9) rfl dX8_send_332 ?_
                                  refine lv_iload hx hb dX8_send_335 (lv_at hl 0 rfl) ?_
                                  refine va_iald hx hb hK hP 23 0 rfl rfl (i := (nI j309)) (vp_in_nI (show j309 < 300 by omega) (by decide)) dX8_send_337 ?_
                                  refine va_calli (va_runV (As := [.int a1, .int (F309 27 (Int32.toNatClampNeg (nI j309)))]) (rest := []) ⟨hx, hb, hml, hown, hts⟩ (m_X8_next l dC dI h0 q n dl cI cZ F309 hI309 hN A hD a1 (F309 27 (Int32.toNatClampNeg (nI j309)))) (cwV 2 hts gX8_send_X8_next rfl rfl rfl (by decide +kernel) ⟨Nat.le_of_ble_eq_true rfl, Nat.le_of_ble_eq_true rfl⟩) (pu_pre hP hK (ci := 7) (q0 := 0) rfl rfl) rfl rfl hl.1 rfl (lv_room (Nat.le_of_ble_eq_true rfl)) dX8_send_338 ⟨Nat.le_of_ble_eq_true rfl, Nat.le_of_ble_eq_true rfl⟩) hS (fun _ _ h => h) (fun _ h => h) (fun r92 u92 st92 H locs ht92 hvm92 hw92 hB92 hz92 hk92 hS => ?_)
                                  obtain ⟨F92, n92, d92⟩ := u92
                                  obtain ⟨ha92, hD92, hI92, hN92, hn92⟩ := hw92
                                  have hn92 : n92 = n := hn92
                                  obtain ⟨dl, hP, hD, hI92⟩ : ∃ dl : Int32, va_P (dC, dI) vwCl (mw_ h0 q n dl cI cZ F92) H ∧ va_D A (mw_ h0 q n dl cI cZ F92) ∧ mi_ n F92 := ⟨d92, by rw [← hn92, ← ht92]; exact hB92, by rw [← hn92]; exact hD92, by rw [← hn92]; exact hI92⟩
                                  refine lv_aload_n hx hb dX8_send_341 rfl (lv_at hl 3 rfl) ?_
                                  refine va_get (D := (dC, dI)) (ci := 7) (v := .ref (q 15)) (C := RX8) (T := TX8) (N := 37) hx hb hts hinX8 hown hK hP 0 rfl rfl 15 (by decide) (hts (.fieldLink RX8 43 "FurPostsModel" "to" "[I") (by decide +kernel)) (fun _ h9 => h9) rfl dX8_send_342 ?_
                                  refine lv_iload hx hb dX8_send_345 (lv_at hl 1 rfl) ?_
                                  refine va_iald hx hb hK hP 12 0 rfl rfl (i := (nI (n 3))) (vp_in_nI (show n 3 < 120 by have := nI_nev (B := 120) h_59 rfl; omega) (by decide)) dX8_send_347 ?_
                                  refine lv_icmp_eq (tgt := 354) hx hb dX8_send_348 (by decide) (fun h_93 => ?_) (fun h_93 => ?_)
                                  · skip
                                    refine lv_aload_n hx hb dX8_send_354 rfl (lv_at hl 3 rfl) ?_
                                    refine va_get (D := (dC, dI)) (ci := 7) (v := .ref (q 28)) (C := RX8) (T := TX8) (N := 37) hx hb hts hinX8 hown hK hP 0 rfl rfl 28 (by decide) (hts (.fieldLink RX8 80 "FurPostsModel" "letterAt" "[I") (by decide +kernel)) (fun _ h9 => h9) rfl dX8_send_355 ?_
                                    refine lv_iload hx hb dX8_send_358 (lv_at hl 0 rfl) ?_
                                    refine lv_sipush (v := 2000) hx hb dX8_send_360 (by decide) ?_
                                    refine lv_iload hx hb dX8_send_363 (lv_at hl 1 rfl) ?_
                                    refine lv_iadd hx hb dX8_send_365 ?_
                                    refine va_iast hx hb hK hP hD hS 24 0 rfl rfl (i := (nI j309)) (x := (2000 + (nI (n 3)))) (vp_in_nI (show j309 < 300 by omega) (by decide)) dX8_send_366 (fun H locs hP2 hD2 hS => ?_)
                                    obtain ⟨F94, hF94, hP, hD, hI94⟩ : ∃ F94 : Nat → Nat → Int32, F94 = va_up F92 28 (upd (F92 28) (Int32.toNatClampNeg (nI j309)) (2000 + (nI (n 3)))) ∧ va_P (dC, dI) vwCl (mw_ h0 q n dl cI cZ F94) H ∧ va_D A (mw_ h0 q n dl cI cZ F94) ∧ mi_ n F94 := ⟨_, rfl, hP2, hD2, hI92⟩
                                    refine lv_aload_n hx hb dX8_send_367 rfl (lv_at hl 3 rfl) ?_
                                    refine va_get (D := (dC, dI)) (ci := 7) (v := .ref (q 21)) (C := RX8) (T := TX8) (N := 37) hx hb hts hinX8 hown hK hP 0 rfl rfl 21 (by decide) (hts (.fieldLink RX8 61 "FurPostsModel" "withLetters" "[I") (by decide +kernel)) (fun _ h9 => h9) rfl dX8_send_368 ?_
                                    refine lv_iload hx hb dX8_send_371 (lv_at hl 1 rfl) ?_
                                    refine lv_dup2_11 hx hb dX8_send_373 rfl rfl ?_
                                    refine va_iald hx hb hK hP 18 0 rfl rfl (i := (nI (n 3))) (vp_in_nI (show n 3 < 120 by have := nI_nev (B := 120) h_59 rfl; omega) (by decide)) dX8_send_374 ?_
                                    refine lv_iconst (v := 1) hx hb dX8_send_375 (by decide) ?_
                                    refine lv_iadd hx hb dX8_send_376 ?_
                                    refine va_iast hx hb hK hP hD hS 18 0 rfl rfl (i := (nI (n 3))) (x := ((F94 21 (Int32.toNatClampNeg (nI (n 3)))) + 1)) (vp_in_nI (show n 3 < 120 by have := nI_nev (B := 120) h_59 rfl; omega) (by decide)) dX8_send_377 (fun H locs hP2 hD2 hS => ?_)
                                    obtain ⟨F95, hF95, hP, hD, hI95⟩ : ∃ F95 : Nat → Nat → Int32, F95 = va_up F94 21 (upd (F94 21) (Int32.toNatClampNeg (nI (n 3))) ((F94 21 (Int32.toNatClampNeg (nI (n 3)))) + 1)) ∧ va_P (dC, dI) vwCl (mw_ h0 q n dl cI cZ F95) H ∧ va_D A (mw_ h0 q n dl cI cZ F95) ∧ mi_ n F95 := ⟨_, rfl, hP2, hD2, hI94⟩
                                    refine lv_iinc (v := (nI (j309 + 1))) (lv' := [(5, .int (nI (j309 + 1))), (4, .int (nI (n 3))), (3, .int x49_3), (0, .ref h0), (1, .int a1), (2, .int a2)]) hx hb dX8_send_378 hl (k := 0) rfl (show nI j309 + 1 = nI (j309 + 1) from nI_1 j309) (by decide) rfl (fun ls hl => ?_)
                                    refine lv_goto (tgt := 309) hx hb dX8_send_381 (by decide) ?_
                                    exact ih309 (j309 + 1) F95 dl H locs ls (by omega) hP hD hI95 hS (lv_sub hl [0, 1, 2, 3, 4, 5] rfl)
                                  · skip
                                    refine lv_goto (tgt := 378) hx hb dX8_send_351 (by decide) ?_
                                    refine lv_iinc (v := (nI (j309 + 1))) (lv' := [(5, .int (nI (j309 + 1))), (4, .int (nI (n 3))), (3, .int x49_3), (0, .ref h0), (1, .int a1), (2, .int a2)]) hx hb dX8_send_378 hl (k := 0) rfl (show nI j309 + 1 = nI (j309 + 1) from nI_1 j309) (by decide) rfl (fun ls hl => ?_)
                                    refine lv_goto (tgt := 309) hx hb dX8_send_381 (by decide) ?_
                                    exact ih309 (j309 + 1) F92 dl H locs ls (by omega) hP hD hI92 hS (lv_sub hl [0, 1, 2, 3, 4, 5] rfl)
                            exact key309 (n 4) 0 F223 dl H locs ls (by omega) hP hD hI223 hS (lv_sub hl [0, 1, 2, 3, 4, 5] rfl)
                          | succ k ih223 =>
                            intro j223 F223 dl H locs ls hj hP hD hI223 hS hl
                            have hj223 : j223 < 6 := by omega
                            refine lv_iload hx hb dX8_send_223 (lv_at hl 0 rfl) ?_
                            refine lv_bipush (v := 6) hx hb dX8_send_225 (by decide) ?_
                            refine lv_icmp_ge (tgt := 306) hx hb dX8_send_227 (by decide) (fun h_96 => absurd h_96 (lp_ge (B := 6) (by omega) (by omega) rfl)) (fun h_96 => ?_)
                            refine lv_aload_n hx hb dX8_send_230 rfl (lv_at hl 3 rfl) ?_
                            refine va_get (D := (dC, dI)) (ci := 7) (v := .ref (q 2)) (C := RX8) (T := TX8) (N := 37) hx hb hts hinX8 hown hK hP 0 rfl rfl 2 (by decide) (hts (.fieldLink RX8 9 "FurPostsModel" "store" "[I") (by decide +kernel)) (fun _ h9 => h9) rfl dX8_send_231 ?_
                            refine lv_bipush (v := 6) hx hb dX8_send_234 (by decide) ?_
                            refine lv_iload_n hx hb dX8_send_236 rfl (lv_at hl 4 rfl) ?_
                            refine lv_imul hx hb dX8_send_237 ?_
                            refine lv_iload hx hb dX8_send_238 (lv_at hl 0 rfl) ?_
                            refine lv_iadd hx hb dX8_send_240 ?_
                            refine lv_dup2_11 hx hb dX8_send_241 rfl rfl ?_
                            refine va_iald hx hb hK hP 1 0 rfl rfl (i := ((6 * a1) + (nI j223))) (vp_lin (a := 8) (b := 6) (m := 6) ((hg1 h_2)) (vp_in_nI (show j223 < 6 by omega) (by decide)) rfl (by decide)) dX8_send_242 ?_
                            refine lv_aload_n hx hb dX8_send_243 rfl (lv_at hl 3 rfl) ?_
                            refine va_get (D := (dC, dI)) (ci := 7) (v := .ref (q 12)) (C := RX8) (T := TX8) (N := 37) hx hb hts hinX8 hown hK hP 0 rfl rfl 12 (by decide) (hts (.fieldLink RX8 37 "FurPostsModel" "loaded" "[I") (by decide +kernel)) (fun _ h9 => h9) rfl dX8_send_244 ?_
                            refine lv_iload hx hb dX8_send_247 (lv_at hl 0 rfl) ?_
                            refine va_iald hx hb hK hP 10 0 rfl rfl (i := (nI j223)) (vp_in_nI (show j223 < 6 by omega) (by decide)) dX8_send_249 ?_
                            refine lv_isub hx hb dX8_send_250 ?_
                            refine va_iast hx hb hK hP hD hS 1 0 rfl rfl (i := ((6 * a1) + (nI j223))) (x := ((F223 2 (Int32.toNatClampNeg ((6 * a1) + (nI j223)))) - (F223 12 (Int32.toNatClampNeg (nI j223))))) (vp_lin (a := 8) (b := 6) (m := 6) ((hg1 h_2)) (vp_in_nI (show j223 < 6 by omega) (by decide)) rfl (by decide)) dX8_send_251 (fun H locs hP2 hD2 hS => ?_)
                            obtain ⟨F97, hF97, hP, hD, hI97⟩ : ∃ F97 : Nat → Nat → Int32, F97 = va_up F223 2 (upd (F223 2) (Int32.toNatClampNeg ((6 * a1) + (nI j223))) ((F223 2 (Int32.toNatClampNeg ((6 * a1) + (nI j223)))) - (F223 12 (Int32.toNatClampNeg (nI j223))))) ∧ va_P (dC, dI) vwCl (mw_ h0 q n dl cI cZ F97) H ∧ va_D A (mw_ h0 q n dl cI cZ F97) ∧ mi_ n F97 := ⟨_, rfl, hP2, hD2, hI223⟩
                            refine lv_aload_n hx hb dX8_send_252 rfl (lv_at hl 3 rfl) ?_
                            refine va_get (D := (dC, dI)) (ci := 7) (v := .ref (q 22)) (C := RX8) (T := TX8) (N := 37) hx hb hts hinX8 hown hK hP 0 rfl rfl 22 (by decide) (hts (.fieldLink RX8 64 "FurPostsModel" "has" "[I") (by decide +kernel)) (fun _ h9 => h9) rfl dX8_send_253 ?_
                            refine lv_bipush (v := 6) hx hb dX8_send_256 (by decide) ?_
                            refine lv_iload hx hb dX8_send_258 (lv_at hl 1 rfl) ?_
                            refine lv_imul hx hb dX8_send_260 ?_
                            refine lv_iload hx hb dX8_send_261 (lv_at hl 0 rfl) ?_
                            refine lv_iadd hx hb dX8_send_263 ?_
                            refine lv_aload_n hx hb dX8_send_264 rfl (lv_at hl 3 rfl) ?_
                            refine va_get (D := (dC, dI)) (ci := 7) (v := .ref (q 12)) (C := RX8) (T := TX8) (N := 37) hx hb hts hinX8 hown hK hP 0 rfl rfl 12 (by decide) (hts (.fieldLink RX8 37 "FurPostsModel" "loaded" "[I") (by decide +kernel)) (fun _ h9 => h9) rfl dX8_send_265 ?_
                            refine lv_iload hx hb dX8_send_268 (lv_at hl 0 rfl) ?_
                            refine va_iald hx hb hK hP 10 0 rfl rfl (i := (nI j223)) (vp_in_nI (show j223 < 6 by omega) (by decide)) dX8_send_270 ?_
                            refine va_iast hx hb hK hP hD hS 19 0 rfl rfl (i := ((6 * (nI (n 3))) + (nI j223))) (x := (F97 12 (Int32.toNatClampNeg (nI j223)))) (vp_lin (a := 120) (b := 6) (m := 6) (vp_in_nI (show n 3 < 120 by have := nI_nev (B := 120) h_59 rfl; omega) (by decide)) (vp_in_nI (show j223 < 6 by omega) (by decide)) rfl (by decide)) dX8_send_271 (fun H locs hP2 hD2 hS => ?_)
                            obtain ⟨F98, hF98, hP, hD, hI98⟩ : ∃ F98 : Nat → Nat → Int32, F98 = va_up F97 22 (upd (F97 22) (Int32.toNatClampNeg ((6 * (nI (n 3))) + (nI j223))) (F97 12 (Int32.toNatClampNeg (nI j223)))) ∧ va_P (dC, dI) vwCl (mw_ h0 q n dl cI cZ F98) H ∧ va_D A (mw_ h0 q n dl cI cZ F98) ∧ mi_ n F98 := ⟨_, rfl, hP2, hD2, hI97⟩
                            refine lv_aload_n hx hb dX8_send_272 rfl (lv_at hl 3 rfl) ?_
                            refine va_get (D := (dC, dI)) (ci := 7) (v := .ref (q 23)) (C := RX8) (T := TX8) (N := 37) hx hb hts hinX8 hown hK hP 0 rfl rfl 23 (by decide) (hts (.fieldLink RX8 67 "FurPostsModel" "sent" "[I") (by decide +kernel)) (fun _ h9 => h9) rfl dX8_send_273 ?_
                            refine lv_bipush (v := 6) hx hb dX8_send_276 (by decide) ?_
                            refine lv_iload hx hb dX8_send_278 (lv_at hl 1 rfl) ?_
                            refine lv_imul hx hb dX8_send_280 ?_
                            refine lv_iload hx hb dX8_send_281 (lv_at hl 0 rfl) ?_
                            refine lv_iadd hx hb dX8_send_283 ?_
                            refine lv_aload_n hx hb dX8_send_284 rfl (lv_at hl 3 rfl) ?_
                            refine va_get (D := (dC, dI)) (ci := 7) (v := .ref (q 12)) (C := RX8) (T := TX8) (N := 37) hx hb hts hinX8 hown hK hP 0 rfl rfl 12 (by decide) (hts (.fieldLink RX8 37 "FurPostsModel" "loaded" "[I") (by decide +kernel)) (fun _ h9 => h9) rfl dX8_send_285 ?_
                            refine lv_iload hx hb dX8_send_288 (lv_at hl 0 rfl) ?_
                            refine va_iald hx hb hK hP 10 0 rfl rfl (i := (nI j223)) (vp_in_nI (show j223 < 6 by omega) (by decide)) dX8_send_290 ?_
                            refine va_iast hx hb hK hP hD hS 20 0 rfl rfl (i := ((6 * (nI (n 3))) + (nI j223))) (x := (F98 12 (Int32.toNatClampNeg (nI j223)))) (vp_lin (a := 120) (b := 6) (m := 6) (vp_in_nI (show n 3 < 120 by have := nI_nev (B := 120) h_59 rfl; omega) (by decide)) (vp_in_nI (show j223 < 6 by omega) (by decide)) rfl (by decide)) dX8_send_291 (fun H locs hP2 hD2 hS => ?_)
                            obtain ⟨F99, hF99, hP, hD, hI99⟩ : ∃ F99 : Nat → Nat → Int32, F99 = va_up F98 23 (upd (F98 23) (Int32.toNatClampNeg ((6 * (nI (n 3))) + (nI j223))) (F98 12 (Int32.toNatClampNeg (nI j223)))) ∧ va_P (dC, dI) vwCl (mw_ h0 q n dl cI cZ F99) H ∧ va_D A (mw_ h0 q n dl cI cZ F99) ∧ mi_ n F99 := ⟨_, rfl, hP2, hD2, hI98⟩
                            refine lv_aload_n hx hb dX8_send_292 rfl (lv_at hl 3 rfl) ?_
                            refine va_get (D := (dC, dI)) (ci := 7) (v := .ref (q 12)) (C := RX8) (T := TX8) (N := 37) hx hb hts hinX8 hown hK hP 0 rfl rfl 12 (by decide) (hts (.fieldLink RX8 37 "FurPostsModel" "loaded" "[I") (by decide +kernel)) (fun _ h9 => h9) rfl dX8_send_293 ?_
                            refine lv_iload hx hb dX8_send_296 (lv_at hl 0 rfl) ?_
                            refine lv_iconst (v := 0) hx hb dX8_send_298 (by decide) ?_
                            refine va_iast hx hb hK hP hD hS 10 0 rfl rfl (i := (nI j223)) (x := 0) (vp_in_nI (show j223 < 6 by omega) (by decide)) dX8_send_299 (fun H locs hP2 hD2 hS => ?_)
                            obtain ⟨F100, hF100, hP, hD, hI100⟩ : ∃ F100 : Nat → Nat → Int32, F100 = va_up F99 12 (upd (F99 12) (Int32.toNatClampNeg (nI j223)) 0) ∧ va_P (dC, dI) vwCl (mw_ h0 q n dl cI cZ F100) H ∧ va_D A (mw_ h0 q n dl cI cZ F100) ∧ mi_ n F100 := ⟨_, rfl, hP2, hD2, hI99⟩
                            refine lv_iinc (v := (nI (j223 + 1))) (lv' := [(5, .int (nI (j223 + 1))), (4, .int (nI (n 3))), (3, .int x49_3), (0, .ref h0), (1, .int a1), (2, .int a2)]) hx hb dX8_send_300 hl (k := 0) rfl (show nI j223 + 1 = nI (j223 + 1) from nI_1 j223) (by decide) rfl (fun ls hl => ?_)
                            refine lv_goto (tgt := 223) hx hb dX8_send_303 (by decide) ?_
                            exact ih223 (j223 + 1) F100 dl H locs ls (by omega) hP hD hI100 hS (lv_sub hl [0, 1, 2, 3, 4, 5] rfl)
                        exact key223 6 0 F86 dl H locs ls (by omega) hP hD hI86 hS (lv_sub hl [0, 1, 2, 3, 4, 5] rfl)
                    · skip
                      refine lv_iconst (v := (-1)) hx hb dX8_send_132 (by decide) ?_
                      exact W.iret (v := (-1)) hx hb hr (fun t9 ht hW => ⟨⟨(-1), (F49, n, dl), rfl, ⟨trivial, hD, hI49, hN, ⟨rfl, rfl⟩⟩, by show va_P (dC, dI) vwCl _ t9.heap; rw [ht]; exact hP⟩, hS.F ht⟩) hS.2.2 dX8_send_133
            | succ k ih49 =>
              intro j49 x49_3 F49 dl H locs ls hj hP hD hI49 hS hl
              have hj49 : j49 < 6 := by omega
              refine lv_iload hx hb dX8_send_49 (lv_at hl 0 rfl) ?_
              refine lv_bipush (v := 6) hx hb dX8_send_51 (by decide) ?_
              refine lv_icmp_ge (tgt := 91) hx hb dX8_send_53 (by decide) (fun h_101 => absurd h_101 (lp_ge (B := 6) (by omega) (by omega) rfl)) (fun h_101 => ?_)
              refine lv_iload_n hx hb dX8_send_56 rfl (lv_at hl 1 rfl) ?_
              refine lv_aload_n hx hb dX8_send_57 rfl (lv_at hl 2 rfl) ?_
              refine va_get (D := (dC, dI)) (ci := 7) (v := .ref (q 12)) (C := RX8) (T := TX8) (N := 37) hx hb hts hinX8 hown hK hP 0 rfl rfl 12 (by decide) (hts (.fieldLink RX8 37 "FurPostsModel" "loaded" "[I") (by decide +kernel)) (fun _ h9 => h9) rfl dX8_send_58 ?_
              refine lv_iload hx hb dX8_send_61 (lv_at hl 0 rfl) ?_
              refine va_iald hx hb hK hP 10 0 rfl rfl (i := (nI j49)) (vp_in_nI (show j49 < 6 by omega) (by decide)) dX8_send_63 ?_
              refine lv_iadd hx hb dX8_send_64 ?_
              refine lv_istore_n (lv' := [(3, .int (x49_3 + (F49 12 (Int32.toNatClampNeg (nI j49))))), (4, .int (nI j49)), (0, .ref h0), (1, .int a1), (2, .int a2)]) hx hb dX8_send_65 rfl hl (by decide) rfl (fun ls hl => ?_)
              refine lv_aload_n hx hb dX8_send_66 rfl (lv_at hl 2 rfl) ?_
              refine va_get (D := (dC, dI)) (ci := 7) (v := .ref (q 12)) (C := RX8) (T := TX8) (N := 37) hx hb hts hinX8 hown hK hP 0 rfl rfl 12 (by decide) (hts (.fieldLink RX8 37 "FurPostsModel" "loaded" "[I") (by decide +kernel)) (fun _ h9 => h9) rfl dX8_send_67 ?_
              refine lv_iload hx hb dX8_send_70 (lv_at hl 1 rfl) ?_
              refine va_iald hx hb hK hP 10 0 rfl rfl (i := (nI j49)) (vp_in_nI (show j49 < 6 by omega) (by decide)) dX8_send_72 ?_
              refine lv_aload_n hx hb dX8_send_73 rfl (lv_at hl 2 rfl) ?_
              refine lv_iload_n hx hb dX8_send_74 rfl (lv_at hl 3 rfl) ?_
              refine lv_iload hx hb dX8_send_75 (lv_at hl 1 rfl) ?_
              refine pg_call (va_runV (As := [.int a1, .int (nI j49)]) (rest := [.int (F49 12 (Int32.toNatClampNeg (nI j49)))]) ⟨hx, hb, hml, hown, hts⟩ (k_X8_stored l dC dI h0 q n dl cI cZ F49 hI49 hN a1 (nI j49) ((hg1 h_2)) (vp_in_nI (show j49 < 6 by omega) (by decide))) (cwV 2 hts gX8_send_X8_stored rfl rfl rfl (by decide +kernel) ⟨Nat.le_of_ble_eq_true rfl, Nat.le_of_ble_eq_true rfl⟩) (pu_pre hP hK (ci := 7) (q0 := 0) rfl rfl) rfl rfl hl.1 rfl (lv_room (Nat.le_of_ble_eq_true rfl)) dX8_send_77 ⟨Nat.le_of_ble_eq_true rfl, Nat.le_of_ble_eq_true rfl⟩) (fun w102 hw102 => ?_)
              obtain ⟨r102, rfl, hg102⟩ := hw102
              refine lv_icmp_le (tgt := 85) hx hb dX8_send_80 (by decide) (fun h_103 => ?_) (fun h_103 => ?_)
              · skip
                refine lv_iinc (v := (nI (j49 + 1))) (lv' := [(4, .int (nI (j49 + 1))), (3, .int (x49_3 + (F49 12 (Int32.toNatClampNeg (nI j49))))), (0, .ref h0), (1, .int a1), (2, .int a2)]) hx hb dX8_send_85 hl (k := 1) rfl (show nI j49 + 1 = nI (j49 + 1) from nI_1 j49) (by decide) rfl (fun ls hl => ?_)
                refine lv_goto (tgt := 49) hx hb dX8_send_88 (by decide) ?_
                exact ih49 (j49 + 1) (x49_3 + (F49 12 (Int32.toNatClampNeg (nI j49)))) F49 dl H locs ls (by omega) hP hD hI49 hS (lv_sub hl [0, 1, 2, 3, 4] rfl)
              · skip
                refine lv_iconst (v := (-1)) hx hb dX8_send_83 (by decide) ?_
                exact W.iret (v := (-1)) hx hb hr (fun t9 ht hW => ⟨⟨(-1), (F49, n, dl), rfl, ⟨trivial, hD, hI49, hN, ⟨rfl, rfl⟩⟩, by show va_P (dC, dI) vwCl _ t9.heap; rw [ht]; exact hP⟩, hS.F ht⟩) hS.2.2 dX8_send_84
          exact key49 6 0 0 F dl H locs ls (by omega) hP hD hI hS (lv_sub hl [0, 1, 2, 3, 4] rfl)
        · skip
          refine lv_iconst (v := (-1)) hx hb dX8_send_42 (by decide) ?_
          exact W.iret (v := (-1)) hx hb hr (fun t9 ht hW => ⟨⟨(-1), (F, n, dl), rfl, ⟨trivial, hD, hI, hN, ⟨rfl, rfl⟩⟩, by show va_P (dC, dI) vwCl _ t9.heap; rw [ht]; exact hP⟩, hS.F ht⟩) hS.2.2 dX8_send_43
