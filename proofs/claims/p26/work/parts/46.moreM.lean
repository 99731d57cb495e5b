set_option maxHeartbeats 8000000 in
set_option maxRecDepth 100000 in
theorem m_X8_next (l : Launch) (dC : Nat → ClassId) (dI : Nat → Nat → Nat) (h0 : Nat) (q n : Nat → Nat) (cI cZ : ClassId) (F : Nat → Nat → Int32) (hI : mi_ n F) (hN : nb_ n) (A : Nat → Prop) (hD : va_D A (mw_ h0 q n (F 44 0) cI cZ F)) (a1 : Int32) (a2 : Int32) : Met l yX8_next wsX8_next ({ frames := 2, cells := 0, slots := 0, locals := 43 }) (va_Pc [.ref h0, .int a1, .int a2] (pu_P (dC, dI) vwCl (mt_ cI cZ) (mw_ h0 q n (F 44 0) cI cZ F))) (va_Qi (fun r (u : Nat → Nat → Int32) => (r, u) = rM_next n F a1 a2 ∧ va_D A (mw_ h0 q n (u 44 0) cI cZ u) ∧ mi_ n u) (fun u s' => va_P (dC, dI) vwCl (mw_ h0 q n (u 44 0) cI cZ u) s'.heap) A) 0 0 A := by
  refine Met.ofW (cc := cX8_next) (maxL := 5) (ret := (some .int)) (by decide) rfl ?_
  intro p e s m args below meth c s₁ B hml hv
  obtain ⟨rfl, hP, hK⟩ := hv
  have hx := B.exec
  have hb := B.bytes
  have hr := B.returns
  have hts := atoms_spec (ws := wsX8_next) B.pre
  have hown : s.vm.findClass RX8 = some m.cls := findClass_of_methodNamed B.named
  have hlocks := B.notSynchronized
  have hinX8 : ∀ w ∈ u_ws RX8 TX8 37, w ∈ wsX8_next := by decide +kernel
  have hS : va_S A s.heap s.heap [] := va_S.rf
  have hl := lv_entry ([.ref h0, .int a1, .int a2]) (n := 5) (Nat.le_of_ble_eq_true rfl)
  rw [lg_entry_eq]
  generalize (lg_sl ([.ref h0, .int a1, .int a2]) ++ List.replicate (5 - (lg_sl ([.ref h0, .int a1, .int a2])).length) Slot.unset).toArray = ls at hl ⊢
  have hl : lv_has ls 5 [(0, .ref h0), (1, .int a1), (2, .int a2)] := hl
  obtain ⟨H, hH, hP, hS⟩ : ∃ H, H = s.heap ∧ va_P (dC, dI) vwCl (mw_ h0 q n (F 44 0) cI cZ F) H ∧ va_S A s.heap H [] := ⟨_, rfl, hP, hS⟩
  rw [← hH]
  generalize ([] : List Loc) = locs at hS ⊢
  refine lv_aload_n hx hb dX8_next_0 rfl (lv_at hl 0 rfl) ?_
  refine lv_iload_n hx hb dX8_next_1 rfl (lv_at hl 1 rfl) ?_
  refine pu_call (va_runV (As := [.int a1]) (rest := []) ⟨hx, hb, hml, hown, hts⟩ (k_X8_isPost l dC dI h0 q n cI cZ F hI hN a1) (cwV 1 hts gX8_next_X8_isPost rfl rfl rfl (by decide +kernel) ⟨Nat.le_of_ble_eq_true rfl, Nat.le_of_ble_eq_true rfl⟩) (pu_pre hP hK (ci := 7) (q0 := 0) rfl rfl) rfl rfl hl.1 rfl (lv_room (Nat.le_of_ble_eq_true rfl)) dX8_next_2 ⟨Nat.le_of_ble_eq_true rfl, Nat.le_of_ble_eq_true rfl⟩) ?_
  rw [show rM_isPost n F a1 = (sp_in a1 0 ((nI (n 1)) - 1)) from rfl]
  refine lv_if_eq (tgt := 21) hx hb dX8_next_5 (by decide) (fun h_1 => ?_) (fun h_1 => ?_)
  · skip
    refine lv_iconst (v := (-1)) hx hb dX8_next_21 (by decide) ?_
    have hq2 : rM_next n F a1 a2 = ((-1), F) := by exact (if_pos h_1)
    exact W.iret (v := (-1)) hx hb hr (fun t9 ht hW => ⟨⟨(-1), F, rfl, ⟨hq2.symm, hD, hI⟩, by show va_P (dC, dI) vwCl _ t9.heap; rw [ht]; exact hP⟩, hS.F ht⟩) hS.2.2 dX8_next_22
  · skip
    refine lv_aload_n hx hb dX8_next_8 rfl (lv_at hl 0 rfl) ?_
    refine lv_iload_n hx hb dX8_next_9 rfl (lv_at hl 2 rfl) ?_
    refine pu_call (va_runV (As := [.int a2]) (rest := []) ⟨hx, hb, hml, hown, hts⟩ (k_X8_isPost l dC dI h0 q n cI cZ F hI hN a2) (cwV 1 hts gX8_next_X8_isPost rfl rfl rfl (by decide +kernel) ⟨Nat.le_of_ble_eq_true rfl, Nat.le_of_ble_eq_true rfl⟩) (pu_pre hP hK (ci := 7) (q0 := 0) rfl rfl) rfl rfl hl.1 rfl (lv_room (Nat.le_of_ble_eq_true rfl)) dX8_next_10 ⟨Nat.le_of_ble_eq_true rfl, Nat.le_of_ble_eq_true rfl⟩) ?_
    rw [show rM_isPost n F a2 = (sp_in a2 0 ((nI (n 1)) - 1)) from rfl]
    refine lv_if_eq (tgt := 21) hx hb dX8_next_13 (by decide) (fun h_3 => ?_) (fun h_3 => ?_)
    · skip
      refine lv_iconst (v := (-1)) hx hb dX8_next_21 (by decide) ?_
      have hq4 : rM_next n F a1 a2 = ((-1), F) := by exact (if_neg h_1).trans (if_pos h_3)
      exact W.iret (v := (-1)) hx hb hr (fun t9 ht hW => ⟨⟨(-1), F, rfl, ⟨hq4.symm, hD, hI⟩, by show va_P (dC, dI) vwCl _ t9.heap; rw [ht]; exact hP⟩, hS.F ht⟩) hS.2.2 dX8_next_22
    · skip
      refine lv_iload_n hx hb dX8_next_16 rfl (lv_at hl 1 rfl) ?_
      refine lv_iload_n hx hb dX8_next_17 rfl (lv_at hl 2 rfl) ?_
      refine lv_icmp_ne (tgt := 23) hx hb dX8_next_18 (by decide) (fun h_5 => ?_) (fun h_5 => ?_)
      · skip
        refine lv_iconst (v := 0) hx hb dX8_next_23 (by decide) ?_
        refine lv_istore_n (lv' := [(3, .int 0), (0, .ref h0), (1, .int a1), (2, .int a2)]) hx hb dX8_next_24 rfl hl (by decide) rfl (fun ls hl => ?_)
        have key25 : ∀ (k jL25 : Nat) (FL25 : Nat → Nat → Int32) (H : Heap) (locs : List Loc) (ls : Array Slot), jL25 + k = 8 → va_P (dC, dI) vwCl (mw_ h0 q n (FL25 44 0) cI cZ FL25) H → va_D A (mw_ h0 q n (FL25 44 0) cI cZ FL25) → mi_ n FL25 → va_S A s.heap H locs → lv_has ls 5 [(3, .int (nI jL25)), (0, .ref h0), (1, .int a1), (2, .int a2)] → (∀ (H : Heap) (locs : List Loc) (ls : Array Slot), va_P (dC, dI) vwCl (mw_ h0 q n (((rM_next_L25 a2 k jL25 FL25)) 44 0) cI cZ ((rM_next_L25 a2 k jL25 FL25))) H → va_D A (mw_ h0 q n (((rM_next_L25 a2 k jL25 FL25)) 44 0) cI cZ ((rM_next_L25 a2 k jL25 FL25))) → mi_ n ((rM_next_L25 a2 k jL25 FL25)) → va_S A s.heap H locs → lv_has ls 5 [(3, .int (nI 8)), (0, .ref h0), (1, .int a1), (2, .int a2)] → W p l e (headSpec wsX8_next ({ frames := 2, cells := 0, slots := 0, locals := 43 })).room s m [.ref h0, .int a1, .int a2].toArray below meth c H locs 0 0 (MQ below (va_Qi (fun r (u : Nat → Nat → Int32) => (r, u) = rM_next n F a1 a2 ∧ va_D A (mw_ h0 q n (u 44 0) cI cZ u) ∧ mi_ n u) (fun u s' => va_P (dC, dI) vwCl (mw_ h0 q n (u 44 0) cI cZ u) s'.heap) A) [.ref h0, .int a1, .int a2].toArray s 0 0 A) (F0 m 54 ls [])) → 
            W p l e (headSpec wsX8_next ({ frames := 2, cells := 0, slots := 0, locals := 43 })).room s m [.ref h0, .int a1, .int a2].toArray below meth c H locs 0 0 (MQ below (va_Qi (fun r (u : Nat → Nat → Int32) => (r, u) = rM_next n F a1 a2 ∧ va_D A (mw_ h0 q n (u 44 0) cI cZ u) ∧ mi_ n u) (fun u s' => va_P (dC, dI) vwCl (mw_ h0 q n (u 44 0) cI cZ u) s'.heap) A) [.ref h0, .int a1, .int a2].toArray s 0 0 A) (F0 m 25 ls []) := by
          intro k
          induction k with
          | zero =>
            intro jL25 FL25 H locs ls hj hP hD hIz25 hS hl hex
            have hj : jL25 = 8 := by omega
            subst jL25
            refine lv_iload_n hx hb dX8_next_25 rfl (lv_at hl 0 rfl) ?_
            refine lv_bipush (v := 8) hx hb dX8_next_26 (by decide) ?_
            refine lv_icmp_ge (tgt := 54) hx hb dX8_next_28 (by decide) (fun h_6 => ?_) (fun h_6 => absurd (lp_ge0 (B := 8) rfl) h_6)
            exact hex H locs ls hP hD hIz25 hS (lv_sub hl [0, 1, 2, 3] rfl)
          | succ k ih25 =>
            intro jL25 FL25 H locs ls hj hP hD hIz25 hS hl hex
            have hj25 : jL25 < 8 := by omega
            refine lv_iload_n hx hb dX8_next_25 rfl (lv_at hl 0 rfl) ?_
            refine lv_bipush (v := 8) hx hb dX8_next_26 (by decide) ?_
            refine lv_icmp_ge (tgt := 54) hx hb dX8_next_28 (by decide) (fun h_7 => absurd h_7 (lp_ge (B := 8) (by omega) (by omega) rfl)) (fun h_7 => ?_)
            refine lv_aload_n hx hb dX8_next_31 rfl (lv_at hl 1 rfl) ?_
            refine va_get (D := (dC, dI)) (ci := 7) (v := .ref (q 36)) (C := RX8) (T := TX8) (N := 37) hx hb hts hinX8 hown hK hP 0 rfl rfl 36 (by decide) (hts (.fieldLink RX8 101 "FurPostsModel" "far" "[I") (by decide +kernel)) (fun _ h9 => h9) rfl dX8_next_32 ?_
            refine lv_iload_n hx hb dX8_next_35 rfl (lv_at hl 0 rfl) ?_
            refine lv_iload_n hx hb dX8_next_36 rfl (lv_at hl 0 rfl) ?_
            refine lv_iload_n hx hb dX8_next_37 rfl (lv_at hl 3 rfl) ?_
            refine lv_icmp_ne (tgt := 45) hx hb dX8_next_38 (by decide) (fun h_8 => ?_) (fun h_8 => ?_)
            · skip
              refine lv_bipush (v := 100) hx hb dX8_next_45 (by decide) ?_
              refine va_iast hx hb hK hP hD hS 31 0 rfl rfl (i := (nI jL25)) (x := 100) (vp_in_nI (show jL25 < 8 by omega) (by decide)) dX8_next_47 (fun H locs hP2 hD2 hS => ?_)
              obtain ⟨F9, e9, hP, hD, hI9⟩ : ∃ F9 : Nat → Nat → Int32, F9 = up2 FL25 36 (nI jL25).toNatClampNeg 100 ∧ va_P (dC, dI) vwCl (mw_ h0 q n (F9 44 0) cI cZ F9) H ∧ va_D A (mw_ h0 q n (F9 44 0) cI cZ F9) ∧ mi_ n F9 := ⟨_, rfl, hP2, hD2, hIz25⟩
              rw [(nI_clamp (by omega))] at e9
              refine lv_iinc (v := (nI (jL25 + 1))) (lv' := [(3, .int (nI (jL25 + 1))), (0, .ref h0), (1, .int a1), (2, .int a2)]) hx hb dX8_next_48 hl (k := 0) rfl (show nI jL25 + 1 = nI (jL25 + 1) from nI_1 jL25) (by decide) rfl (fun ls hl => ?_)
              refine lv_goto (tgt := 25) hx hb dX8_next_51 (by decide) ?_
              have hI25 : (rM_next_L25 a2 (k + 1) jL25 FL25) = (rM_next_L25 a2 k (jL25 + 1) F9) := by subst e9; exact (if_neg h_8)
              exact ih25 (jL25 + 1) F9 H locs ls (by omega) hP hD hI9 hS (lv_sub hl [0, 1, 2, 3] rfl) (by rw [← hI25]; exact hex)
            · skip
              refine lv_iconst (v := 0) hx hb dX8_next_41 (by decide) ?_
              refine lv_goto (tgt := 47) hx hb dX8_next_42 (by decide) ?_
              refine va_iast hx hb hK hP hD hS 31 0 rfl rfl (i := (nI jL25)) (x := 0) (vp_in_nI (show jL25 < 8 by omega) (by decide)) dX8_next_47 (fun H locs hP2 hD2 hS => ?_)
              obtain ⟨F10, e10, hP, hD, hI10⟩ : ∃ F10 : Nat → Nat → Int32, F10 = up2 FL25 36 (nI jL25).toNatClampNeg 0 ∧ va_P (dC, dI) vwCl (mw_ h0 q n (F10 44 0) cI cZ F10) H ∧ va_D A (mw_ h0 q n (F10 44 0) cI cZ F10) ∧ mi_ n F10 := ⟨_, rfl, hP2, hD2, hIz25⟩
              rw [(nI_clamp (by omega))] at e10
              refine lv_iinc (v := (nI (jL25 + 1))) (lv' := [(3, .int (nI (jL25 + 1))), (0, .ref h0), (1, .int a1), (2, .int a2)]) hx hb dX8_next_48 hl (k := 0) rfl (show nI jL25 + 1 = nI (jL25 + 1) from nI_1 jL25) (by decide) rfl (fun ls hl => ?_)
              refine lv_goto (tgt := 25) hx hb dX8_next_51 (by decide) ?_
              have hI25 : (rM_next_L25 a2 (k + 1) jL25 FL25) = (rM_next_L25 a2 k (jL25 + 1) F10) := by subst e10; exact (if_pos h_8)
              exact ih25 (jL25 + 1) F10 H locs ls (by omega) hP hD hI10 hS (lv_sub hl [0, 1, 2, 3] rfl) (by rw [← hI25]; exact hex)
        refine key25 8 0 F H locs ls (by omega) hP hD hI hS (lv_sub hl [0, 1, 2, 3] rfl) (fun H locs ls hP hD hIz25 hS hl => ?_)
        obtain ⟨F11, e11, hP, hD, hI11⟩ : ∃ F11 : Nat → Nat → Int32, F11 = (rM_next_L25 a2 8 0 F) ∧ va_P (dC, dI) vwCl (mw_ h0 q n (F11 44 0) cI cZ F11) H ∧ va_D A (mw_ h0 q n (F11 44 0) cI cZ F11) ∧ mi_ n F11 := ⟨_, rfl, hP, hD, hIz25⟩
        refine lv_iconst (v := 0) hx hb dX8_next_54 (by decide) ?_
        refine lv_istore_n (lv' := [(3, .int 0), (0, .ref h0), (1, .int a1), (2, .int a2)]) hx hb dX8_next_55 rfl hl (by decide) rfl (fun ls hl => ?_)
        have key56 : ∀ (k jL56 : Nat) (FL56 : Nat → Nat → Int32) (H : Heap) (locs : List Loc) (ls : Array Slot), jL56 + k = 8 → va_P (dC, dI) vwCl (mw_ h0 q n (FL56 44 0) cI cZ FL56) H → va_D A (mw_ h0 q n (FL56 44 0) cI cZ FL56) → mi_ n FL56 → va_S A s.heap H locs → lv_has ls 5 [(3, .int (nI jL56)), (0, .ref h0), (1, .int a1), (2, .int a2)] → (∀ (H : Heap) (locs : List Loc) (ls : Array Slot), va_P (dC, dI) vwCl (mw_ h0 q n (((rM_next_L56 n k jL56 FL56)) 44 0) cI cZ ((rM_next_L56 n k jL56 FL56))) H → va_D A (mw_ h0 q n (((rM_next_L56 n k jL56 FL56)) 44 0) cI cZ ((rM_next_L56 n k jL56 FL56))) → mi_ n ((rM_next_L56 n k jL56 FL56)) → va_S A s.heap H locs → lv_has ls 5 [(3, .int (nI 8)), (0, .ref h0), (1, .int a1), (2, .int a2)] → W p l e (headSpec wsX8_next ({ frames := 2, cells := 0, slots := 0, locals := 43 })).room s m [.ref h0, .int a1, .int a2].toArray below meth c H locs 0 0 (MQ below (va_Qi (fun r (u : Nat → Nat → Int32) => (r, u) = rM_next n F a1 a2 ∧ va_D A (mw_ h0 q n (u 44 0) cI cZ u) ∧ mi_ n u) (fun u s' => va_P (dC, dI) vwCl (mw_ h0 q n (u 44 0) cI cZ u) s'.heap) A) [.ref h0, .int a1, .int a2].toArray s 0 0 A) (F0 m 196 ls [])) → 
            W p l e (headSpec wsX8_next ({ frames := 2, cells := 0, slots := 0, locals := 43 })).room s m [.ref h0, .int a1, .int a2].toArray below meth c H locs 0 0 (MQ below (va_Qi (fun r (u : Nat → Nat → Int32) => (r, u) = rM_next n F a1 a2 ∧ va_D A (mw_ h0 q n (u 44 0) cI cZ u) ∧ mi_ n u) (fun u s' => va_P (dC, dI) vwCl (mw_ h0 q n (u 44 0) cI cZ u) s'.heap) A) [.ref h0, .int a1, .int a2].toArray s 0 0 A) (F0 m 56 ls []) := by
          intro k
          induction k with
          | zero =>
            intro jL56 FL56 H locs ls hj hP hD hIz56 hS hl hex
            have hj : jL56 = 8 := by omega
            subst jL56
            refine lv_iload_n hx hb dX8_next_56 rfl (lv_at hl 0 rfl) ?_
            refine lv_bipush (v := 8) hx hb dX8_next_57 (by decide) ?_
            refine lv_icmp_ge (tgt := 196) hx hb dX8_next_59 (by decide) (fun h_12 => ?_) (fun h_12 => absurd (lp_ge0 (B := 8) rfl) h_12)
            exact hex H locs ls hP hD hIz56 hS (lv_sub hl [0, 1, 2, 3] rfl)
          | succ k ih56 =>
            intro jL56 FL56 H locs ls hj hP hD hIz56 hS hl hex
            have hj56 : jL56 < 8 := by omega
            refine lv_iload_n hx hb dX8_next_56 rfl (lv_at hl 0 rfl) ?_
            refine lv_bipush (v := 8) hx hb dX8_next_57 (by decide) ?_
            refine lv_icmp_ge (tgt := 196) hx hb dX8_next_59 (by decide) (fun h_13 => absurd h_13 (lp_ge (B := 8) (by omega) (by omega) rfl)) (fun h_13 => ?_)
            refine lv_iconst (v := 0) hx hb dX8_next_62 (by decide) ?_
            refine lv_istore (lv' := [(4, .int 0), (3, .int (nI jL56)), (0, .ref h0), (1, .int a1), (2, .int a2)]) hx hb dX8_next_63 hl (by decide) rfl (fun ls hl => ?_)
            have key65 : ∀ (k jL65 : Nat) (FL65 : Nat → Nat → Int32) (H : Heap) (locs : List Loc) (ls : Array Slot), jL65 + k = (n 2) → va_P (dC, dI) vwCl (mw_ h0 q n (FL65 44 0) cI cZ FL65) H → va_D A (mw_ h0 q n (FL65 44 0) cI cZ FL65) → mi_ n FL65 → va_S A s.heap H locs → lv_has ls 5 [(4, .int (nI jL65)), (3, .int (nI jL56)), (0, .ref h0), (1, .int a1), (2, .int a2)] → (∀ (H : Heap) (locs : List Loc) (ls : Array Slot), va_P (dC, dI) vwCl (mw_ h0 q n (((rM_next_L65  k jL65 FL65)) 44 0) cI cZ ((rM_next_L65  k jL65 FL65))) H → va_D A (mw_ h0 q n (((rM_next_L65  k jL65 FL65)) 44 0) cI cZ ((rM_next_L65  k jL65 FL65))) → mi_ n ((rM_next_L65  k jL65 FL65)) → va_S A s.heap H locs → lv_has ls 5 [(4, .int (nI (n 2))), (3, .int (nI jL56)), (0, .ref h0), (1, .int a1), (2, .int a2)] → W p l e (headSpec wsX8_next ({ frames := 2, cells := 0, slots := 0, locals := 43 })).room s m [.ref h0, .int a1, .int a2].toArray below meth c H locs 0 0 (MQ below (va_Qi (fun r (u : Nat → Nat → Int32) => (r, u) = rM_next n F a1 a2 ∧ va_D A (mw_ h0 q n (u 44 0) cI cZ u) ∧ mi_ n u) (fun u s' => va_P (dC, dI) vwCl (mw_ h0 q n (u 44 0) cI cZ u) s'.heap) A) [.ref h0, .int a1, .int a2].toArray s 0 0 A) (F0 m 190 ls [])) → 
                W p l e (headSpec wsX8_next ({ frames := 2, cells := 0, slots := 0, locals := 43 })).room s m [.ref h0, .int a1, .int a2].toArray below meth c H locs 0 0 (MQ below (va_Qi (fun r (u : Nat → Nat → Int32) => (r, u) = rM_next n F a1 a2 ∧ va_D A (mw_ h0 q n (u 44 0) cI cZ u) ∧ mi_ n u) (fun u s' => va_P (dC, dI) vwCl (mw_ h0 q n (u 44 0) cI cZ u) s'.heap) A) [.ref h0, .int a1, .int a2].toArray s 0 0 A) (F0 m 65 ls []) := by
              intro k
              induction k with
              | zero =>
                intro jL65 FL65 H locs ls hj hP hD hIz65 hS hl hex
                have hj : jL65 = (n 2) := by omega
                subst jL65
                refine lv_iload hx hb dX8_next_65 (lv_at hl 0 rfl) ?_
                refine lv_aload_n hx hb dX8_next_67 rfl (lv_at hl 2 rfl) ?_
                refine va_get (D := (dC, dI)) (ci := 7) (v := .int (nI (n 2))) (C := RX8) (T := TX8) (N := 37) hx hb hts hinX8 hown hK hP 0 rfl rfl 5 (by decide) (hts (.fieldLink RX8 115 "FurPostsModel" "ways" "I") (by decide +kernel)) (fun _ h9 => h9) rfl dX8_next_68 ?_
                refine lv_icmp_ge (tgt := 190) hx hb dX8_next_71 (by decide) (fun h_14 => ?_) (fun h_14 => absurd (lp_ge0 (B := (n 2)) rfl) h_14)
                exact hex H locs ls hP hD hIz65 hS (lv_sub hl [0, 1, 2, 3, 4] rfl)
              | succ k ih65 =>
                intro jL65 FL65 H locs ls hj hP hD hIz65 hS hl hex
                have hj65 : jL65 < (n 2) := by omega
                refine lv_iload hx hb dX8_next_65 (lv_at hl 0 rfl) ?_
                refine lv_aload_n hx hb dX8_next_67 rfl (lv_at hl 2 rfl) ?_
                refine va_get (D := (dC, dI)) (ci := 7) (v := .int (nI (n 2))) (C := RX8) (T := TX8) (N := 37) hx hb hts hinX8 hown hK hP 0 rfl rfl 5 (by decide) (hts (.fieldLink RX8 115 "FurPostsModel" "ways" "I") (by decide +kernel)) (fun _ h9 => h9) rfl dX8_next_68 ?_
                refine lv_icmp_ge (tgt := 190) hx hb dX8_next_71 (by decide) (fun h_15 => absurd h_15 (lp_ge (B := (n 2)) (by omega) (by omega) rfl)) (fun h_15 => ?_)
                refine lv_aload_n hx hb dX8_next_74 rfl (lv_at hl 2 rfl) ?_
                refine va_get (D := (dC, dI)) (ci := 7) (v := .ref (q 36)) (C := RX8) (T := TX8) (N := 37) hx hb hts hinX8 hown hK hP 0 rfl rfl 36 (by decide) (hts (.fieldLink RX8 101 "FurPostsModel" "far" "[I") (by decide +kernel)) (fun _ h9 => h9) rfl dX8_next_75 ?_
                refine lv_aload_n hx hb dX8_next_78 rfl (lv_at hl 2 rfl) ?_
                refine va_get (D := (dC, dI)) (ci := 7) (v := .ref (q 6)) (C := RX8) (T := TX8) (N := 37) hx hb hts hinX8 hown hK hP 0 rfl rfl 6 (by decide) (hts (.fieldLink RX8 19 "FurPostsModel" "wayA" "[I") (by decide +kernel)) (fun _ h9 => h9) rfl dX8_next_79 ?_
                refine lv_iload hx hb dX8_next_82 (lv_at hl 0 rfl) ?_
                refine va_iald hx hb hK hP 4 0 rfl rfl (i := (nI jL65)) (vp_in_nI (show jL65 < 12 by omega) (by decide)) dX8_next_84 ?_
                refine lv_topi (fun v16 (e16 : v16 = FL65 6 (nI jL65).toNatClampNeg) => ?_)
                rw [(nI_clamp (by omega))] at e16
                refine va_iald hx hb hK hP 31 0 rfl rfl (i := v16) (by rw [e16]; exact hIz65.1 _) dX8_next_85 ?_
                refine lv_topi (fun v17 (e17 : v17 = FL65 36 v16.toNatClampNeg) => ?_)
                refine lv_iconst (v := 1) hx hb dX8_next_86 (by decide) ?_
                refine lv_iadd hx hb dX8_next_87 ?_
                refine lv_aload_n hx hb dX8_next_88 rfl (lv_at hl 2 rfl) ?_
                refine va_get (D := (dC, dI)) (ci := 7) (v := .ref (q 36)) (C := RX8) (T := TX8) (N := 37) hx hb hts hinX8 hown hK hP 0 rfl rfl 36 (by decide) (hts (.fieldLink RX8 101 "FurPostsModel" "far" "[I") (by decide +kernel)) (fun _ h9 => h9) rfl dX8_next_89 ?_
                refine lv_aload_n hx hb dX8_next_92 rfl (lv_at hl 2 rfl) ?_
                refine va_get (D := (dC, dI)) (ci := 7) (v := .ref (q 7)) (C := RX8) (T := TX8) (N := 37) hx hb hts hinX8 hown hK hP 0 rfl rfl 7 (by decide) (hts (.fieldLink RX8 22 "FurPostsModel" "wayB" "[I") (by decide +kernel)) (fun _ h9 => h9) rfl dX8_next_93 ?_
                refine lv_iload hx hb dX8_next_96 (lv_at hl 0 rfl) ?_
                refine va_iald hx hb hK hP 5 0 rfl rfl (i := (nI jL65)) (vp_in_nI (show jL65 < 12 by omega) (by decide)) dX8_next_98 ?_
                refine lv_topi (fun v18 (e18 : v18 = FL65 7 (nI jL65).toNatClampNeg) => ?_)
                rw [(nI_clamp (by omega))] at e18
                refine va_iald hx hb hK hP 31 0 rfl rfl (i := v18) (by rw [e18]; exact hIz65.2.1 _) dX8_next_99 ?_
                refine lv_topi (fun v19 (e19 : v19 = FL65 36 v18.toNatClampNeg) => ?_)
                refine lv_icmp_ge (tgt := 129) hx hb dX8_next_100 (by decide) (fun h_20 => ?_) (fun h_20 => ?_)
                · skip
                  refine lv_aload_n hx hb dX8_next_129 rfl (lv_at hl 2 rfl) ?_
                  refine va_get (D := (dC, dI)) (ci := 7) (v := .ref (q 36)) (C := RX8) (T := TX8) (N := 37) hx hb hts hinX8 hown hK hP 0 rfl rfl 36 (by decide) (hts (.fieldLink RX8 101 "FurPostsModel" "far" "[I") (by decide +kernel)) (fun _ h9 => h9) rfl dX8_next_130 ?_
                  refine lv_aload_n hx hb dX8_next_133 rfl (lv_at hl 2 rfl) ?_
                  refine va_get (D := (dC, dI)) (ci := 7) (v := .ref (q 7)) (C := RX8) (T := TX8) (N := 37) hx hb hts hinX8 hown hK hP 0 rfl rfl 7 (by decide) (hts (.fieldLink RX8 22 "FurPostsModel" "wayB" "[I") (by decide +kernel)) (fun _ h9 => h9) rfl dX8_next_134 ?_
                  refine lv_iload hx hb dX8_next_137 (lv_at hl 0 rfl) ?_
                  refine va_iald hx hb hK hP 5 0 rfl rfl (i := (nI jL65)) (vp_in_nI (show jL65 < 12 by omega) (by decide)) dX8_next_139 ?_
                  refine lv_topi (fun v21 (e21 : v21 = FL65 7 (nI jL65).toNatClampNeg) => ?_)
                  rw [(nI_clamp (by omega))] at e21
                  refine va_iald hx hb hK hP 31 0 rfl rfl (i := v21) (by rw [e21]; exact hIz65.2.1 _) dX8_next_140 ?_
                  refine lv_topi (fun v22 (e22 : v22 = FL65 36 v21.toNatClampNeg) => ?_)
                  refine lv_iconst (v := 1) hx hb dX8_next_141 (by decide) ?_
                  refine lv_iadd hx hb dX8_next_142 ?_
                  refine lv_aload_n hx hb dX8_next_143 rfl (lv_at hl 2 rfl) ?_
                  refine va_get (D := (dC, dI)) (ci := 7) (v := .ref (q 36)) (C := RX8) (T := TX8) (N := 37) hx hb hts hinX8 hown hK hP 0 rfl rfl 36 (by decide) (hts (.fieldLink RX8 101 "FurPostsModel" "far" "[I") (by decide +kernel)) (fun _ h9 => h9) rfl dX8_next_144 ?_
                  refine lv_aload_n hx hb dX8_next_147 rfl (lv_at hl 2 rfl) ?_
                  refine va_get (D := (dC, dI)) (ci := 7) (v := .ref (q 6)) (C := RX8) (T := TX8) (N := 37) hx hb hts hinX8 hown hK hP 0 rfl rfl 6 (by decide) (hts (.fieldLink RX8 19 "FurPostsModel" "wayA" "[I") (by decide +kernel)) (fun _ h9 => h9) rfl dX8_next_148 ?_
                  refine lv_iload hx hb dX8_next_151 (lv_at hl 0 rfl) ?_
                  refine va_iald hx hb hK hP 4 0 rfl rfl (i := (nI jL65)) (vp_in_nI (show jL65 < 12 by omega) (by decide)) dX8_next_153 ?_
                  refine lv_topi (fun v23 (e23 : v23 = FL65 6 (nI jL65).toNatClampNeg) => ?_)
                  rw [(nI_clamp (by omega))] at e23
                  refine va_iald hx hb hK hP 31 0 rfl rfl (i := v23) (by rw [e23]; exact hIz65.1 _) dX8_next_154 ?_
                  refine lv_topi (fun v24 (e24 : v24 = FL65 36 v23.toNatClampNeg) => ?_)
                  refine lv_icmp_ge (tgt := 184) hx hb dX8_next_155 (by decide) (fun h_25 => ?_) (fun h_25 => ?_)
                  · skip
                    refine lv_iinc (v := (nI (jL65 + 1))) (lv' := [(4, .int (nI (jL65 + 1))), (3, .int (nI jL56)), (0, .ref h0), (1, .int a1), (2, .int a2)]) hx hb dX8_next_184 hl (k := 0) rfl (show nI jL65 + 1 = nI (jL65 + 1) from nI_1 jL65) (by decide) rfl (fun ls hl => ?_)
                    refine lv_goto (tgt := 65) hx hb dX8_next_187 (by decide) ?_
                    have hI65 : (rM_next_L65  (k + 1) jL65 FL65) = (rM_next_L65  k (jL65 + 1) FL65) := by subst e24 e23 e22 e21 e19 e18 e17 e16 e11; exact (if_pos h_20).trans (if_pos h_25)
                    exact ih65 (jL65 + 1) FL65 H locs ls (by omega) hP hD hIz65 hS (lv_sub hl [0, 1, 2, 3, 4] rfl) (by rw [← hI65]; exact hex)
                  · skip
                    refine lv_aload_n hx hb dX8_next_158 rfl (lv_at hl 2 rfl) ?_
                    refine va_get (D := (dC, dI)) (ci := 7) (v := .ref (q 36)) (C := RX8) (T := TX8) (N := 37) hx hb hts hinX8 hown hK hP 0 rfl rfl 36 (by decide) (hts (.fieldLink RX8 101 "FurPostsModel" "far" "[I") (by decide +kernel)) (fun _ h9 => h9) rfl dX8_next_159 ?_
                    refine lv_aload_n hx hb dX8_next_162 rfl (lv_at hl 2 rfl) ?_
                    refine va_get (D := (dC, dI)) (ci := 7) (v := .ref (q 6)) (C := RX8) (T := TX8) (N := 37) hx hb hts hinX8 hown hK hP 0 rfl rfl 6 (by decide) (hts (.fieldLink RX8 19 "FurPostsModel" "wayA" "[I") (by decide +kernel)) (fun _ h9 => h9) rfl dX8_next_163 ?_
                    refine lv_iload hx hb dX8_next_166 (lv_at hl 0 rfl) ?_
                    refine va_iald hx hb hK hP 4 0 rfl rfl (i := (nI jL65)) (vp_in_nI (show jL65 < 12 by omega) (by decide)) dX8_next_168 ?_
                    refine lv_topi (fun v26 (e26 : v26 = FL65 6 (nI jL65).toNatClampNeg) => ?_)
                    rw [(nI_clamp (by omega))] at e26
                    refine lv_aload_n hx hb dX8_next_169 rfl (lv_at hl 2 rfl) ?_
                    refine va_get (D := (dC, dI)) (ci := 7) (v := .ref (q 36)) (C := RX8) (T := TX8) (N := 37) hx hb hts hinX8 hown hK hP 0 rfl rfl 36 (by decide) (hts (.fieldLink RX8 101 "FurPostsModel" "far" "[I") (by decide +kernel)) (fun _ h9 => h9) rfl dX8_next_170 ?_
                    refine lv_aload_n hx hb dX8_next_173 rfl (lv_at hl 2 rfl) ?_
                    refine va_get (D := (dC, dI)) (ci := 7) (v := .ref (q 7)) (C := RX8) (T := TX8) (N := 37) hx hb hts hinX8 hown hK hP 0 rfl rfl 7 (by decide) (hts (.fieldLink RX8 22 "FurPostsModel" "wayB" "[I") (by decide +kernel)) (fun _ h9 => h9) rfl dX8_next_174 ?_
                    refine lv_iload hx hb dX8_next_177 (lv_at hl 0 rfl) ?_
                    refine va_iald hx hb hK hP 5 0 rfl rfl (i := (nI jL65)) (vp_in_nI (show jL65 < 12 by omega) (by decide)) dX8_next_179 ?_
                    refine lv_topi (fun v27 (e27 : v27 = FL65 7 (nI jL65).toNatClampNeg) => ?_)
                    rw [(nI_clamp (by omega))] at e27
                    refine va_iald hx hb hK hP 31 0 rfl rfl (i := v27) (by rw [e27]; exact hIz65.2.1 _) dX8_next_180 ?_
                    refine lv_topi (fun v28 (e28 : v28 = FL65 36 v27.toNatClampNeg) => ?_)
                    refine lv_iconst (v := 1) hx hb dX8_next_181 (by decide) ?_
                    refine lv_iadd hx hb dX8_next_182 ?_
                    refine va_iast hx hb hK hP hD hS 31 0 rfl rfl (i := v26) (x := (v28 + 1)) (by rw [e26]; exact hIz65.1 _) dX8_next_183 (fun H locs hP2 hD2 hS => ?_)
                    obtain ⟨F29, e29, hP, hD, hI29⟩ : ∃ F29 : Nat → Nat → Int32, F29 = up2 FL65 36 v26.toNatClampNeg (v28 + 1) ∧ va_P (dC, dI) vwCl (mw_ h0 q n (F29 44 0) cI cZ F29) H ∧ va_D A (mw_ h0 q n (F29 44 0) cI cZ F29) ∧ mi_ n F29 := ⟨_, rfl, hP2, hD2, hIz65⟩
                    refine lv_iinc (v := (nI (jL65 + 1))) (lv' := [(4, .int (nI (jL65 + 1))), (3, .int (nI jL56)), (0, .ref h0), (1, .int a1), (2, .int a2)]) hx hb dX8_next_184 hl (k := 0) rfl (show nI jL65 + 1 = nI (jL65 + 1) from nI_1 jL65) (by decide) rfl (fun ls hl => ?_)
                    refine lv_goto (tgt := 65) hx hb dX8_next_187 (by decide) ?_
                    have hI65 : (rM_next_L65  (k + 1) jL65 FL65) = (rM_next_L65  k (jL65 + 1) F29) := by subst e29 e28 e27 e26 e24 e23 e22 e21 e19 e18 e17 e16 e11; exact (if_pos h_20).trans (if_neg h_25)
                    exact ih65 (jL65 + 1) F29 H locs ls (by omega) hP hD hI29 hS (lv_sub hl [0, 1, 2, 3, 4] rfl) (by rw [← hI65]; exact hex)
                · skip
                  refine lv_aload_n hx hb dX8_next_103 rfl (lv_at hl 2 rfl) ?_
                  refine va_get (D := (dC, dI)) (ci := 7) (v := .ref (q 36)) (C := RX8) (T := TX8) (N := 37) hx hb hts hinX8 hown hK hP 0 rfl rfl 36 (by decide) (hts (.fieldLink RX8 101 "FurPostsModel" "far" "[I") (by decide +kernel)) (fun _ h9 => h9) rfl dX8_next_104 ?_
                  refine lv_aload_n hx hb dX8_next_107 rfl (lv_at hl 2 rfl) ?_
                  refine va_get (D := (dC, dI)) (ci := 7) (v := .ref (q 7)) (C := RX8) (T := TX8) (N := 37) hx hb hts hinX8 hown hK hP 0 rfl rfl 7 (by decide) (hts (.fieldLink RX8 22 "FurPostsModel" "wayB" "[I") (by decide +kernel)) (fun _ h9 => h9) rfl dX8_next_108 ?_
                  refine lv_iload hx hb dX8_next_111 (lv_at hl 0 rfl) ?_
                  refine va_iald hx hb hK hP 5 0 rfl rfl (i := (nI jL65)) (vp_in_nI (show jL65 < 12 by omega) (by decide)) dX8_next_113 ?_
                  refine lv_topi (fun v30 (e30 : v30 = FL65 7 (nI jL65).toNatClampNeg) => ?_)
                  rw [(nI_clamp (by omega))] at e30
                  refine lv_aload_n hx hb dX8_next_114 rfl (lv_at hl 2 rfl) ?_
                  refine va_get (D := (dC, dI)) (ci := 7) (v := .ref (q 36)) (C := RX8) (T := TX8) (N := 37) hx hb hts hinX8 hown hK hP 0 rfl rfl 36 (by decide) (hts (.fieldLink RX8 101 "FurPostsModel" "far" "[I") (by decide +kernel)) (fun _ h9 => h9) rfl dX8_next_115 ?_
                  refine lv_aload_n hx hb dX8_next_118 rfl (lv_at hl 2 rfl) ?_
                  refine va_get (D := (dC, dI)) (ci := 7) (v := .ref (q 6)) (C := RX8) (T := TX8) (N := 37) hx hb hts hinX8 hown hK hP 0 rfl rfl 6 (by decide) (hts (.fieldLink RX8 19 "FurPostsModel" "wayA" "[I") (by decide +kernel)) (fun _ h9 => h9) rfl dX8_next_119 ?_
                  refine lv_iload hx hb dX8_next_122 (lv_at hl 0 rfl) ?_
                  refine va_iald hx hb hK hP 4 0 rfl rfl (i := (nI jL65)) (vp_in_nI (show jL65 < 12 by omega) (by decide)) dX8_next_124 ?_
                  refine lv_topi (fun v31 (e31 : v31 = FL65 6 (nI jL65).toNatClampNeg) => ?_)
                  rw [(nI_clamp (by omega))] at e31
                  refine va_iald hx hb hK hP 31 0 rfl rfl (i := v31) (by rw [e31]; exact hIz65.1 _) dX8_next_125 ?_
                  refine lv_topi (fun v32 (e32 : v32 = FL65 36 v31.toNatClampNeg) => ?_)
                  refine lv_iconst (v := 1) hx hb dX8_next_126 (by decide) ?_
                  refine lv_iadd hx hb dX8_next_127 ?_
                  refine va_iast hx hb hK hP hD hS 31 0 rfl rfl (i := v30) (x := (v32 + 1)) (by rw [e30]; exact hIz65.2.1 _) dX8_next_128 (fun H locs hP2 hD2 hS => ?_)
                  obtain ⟨F33, e33, hP, hD, hI33⟩ : ∃ F33 : Nat → Nat → Int32, F33 = up2 FL65 36 v30.toNatClampNeg (v32 + 1) ∧ va_P (dC, dI) vwCl (mw_ h0 q n (F33 44 0) cI cZ F33) H ∧ va_D A (mw_ h0 q n (F33 44 0) cI cZ F33) ∧ mi_ n F33 := ⟨_, rfl, hP2, hD2, hIz65⟩
                  refine lv_aload_n hx hb dX8_next_129 rfl (lv_at hl 2 rfl) ?_
                  refine va_get (D := (dC, dI)) (ci := 7) (v := .ref (q 36)) (C := RX8) (T := TX8) (N := 37) hx hb hts hinX8 hown hK hP 0 rfl rfl 36 (by decide) (hts (.fieldLink RX8 101 "FurPostsModel" "far" "[I") (by decide +kernel)) (fun _ h9 => h9) rfl dX8_next_130 ?_
                  refine lv_aload_n hx hb dX8_next_133 rfl (lv_at hl 2 rfl) ?_
                  refine va_get (D := (dC, dI)) (ci := 7) (v := .ref (q 7)) (C := RX8) (T := TX8) (N := 37) hx hb hts hinX8 hown hK hP 0 rfl rfl 7 (by decide) (hts (.fieldLink RX8 22 "FurPostsModel" "wayB" "[I") (by decide +kernel)) (fun _ h9 => h9) rfl dX8_next_134 ?_
                  refine lv_iload hx hb dX8_next_137 (lv_at hl 0 rfl) ?_
                  refine va_iald hx hb hK hP 5 0 rfl rfl (i := (nI jL65)) (vp_in_nI (show jL65 < 12 by omega) (by decide)) dX8_next_139 ?_
                  refine lv_topi (fun v34 (e34 : v34 = F33 7 (nI jL65).toNatClampNeg) => ?_)
                  rw [(nI_clamp (by omega))] at e34
                  refine va_iald hx hb hK hP 31 0 rfl rfl (i := v34) (by rw [e34]; exact hI33.2.1 _) dX8_next_140 ?_
                  refine lv_topi (fun v35 (e35 : v35 = F33 36 v34.toNatClampNeg) => ?_)
                  refine lv_iconst (v := 1) hx hb dX8_next_141 (by decide) ?_
                  refine lv_iadd hx hb dX8_next_142 ?_
                  refine lv_aload_n hx hb dX8_next_143 rfl (lv_at hl 2 rfl) ?_
                  refine va_get (D := (dC, dI)) (ci := 7) (v := .ref (q 36)) (C := RX8) (T := TX8) (N := 37) hx hb hts hinX8 hown hK hP 0 rfl rfl 36 (by decide) (hts (.fieldLink RX8 101 "FurPostsModel" "far" "[I") (by decide +kernel)) (fun _ h9 => h9) rfl dX8_next_144 ?_
                  refine lv_aload_n hx hb dX8_next_147 rfl (lv_at hl 2 rfl) ?_
                  refine va_get (D := (dC, dI)) (ci := 7) (v := .ref (q 6)) (C := RX8) (T := TX8) (N := 37) hx hb hts hinX8 hown hK hP 0 rfl rfl 6 (by decide) (hts (.fieldLink RX8 19 "FurPostsModel" "wayA" "[I") (by decide +kernel)) (fun _ h9 => h9) rfl dX8_next_148 ?_
                  refine lv_iload hx hb dX8_next_151 (lv_at hl 0 rfl) ?_
                  refine va_iald hx hb hK hP 4 0 rfl rfl (i := (nI jL65)) (vp_in_nI (show jL65 < 12 by omega) (by decide)) dX8_next_153 ?_
                  refine lv_topi (fun v36 (e36 : v36 = F33 6 (nI jL65).toNatClampNeg) => ?_)
                  rw [(nI_clamp (by omega))] at e36
                  refine va_iald hx hb hK hP 31 0 rfl rfl (i := v36) (by rw [e36]; exact hI33.1 _) dX8_next_154 ?_
                  refine lv_topi (fun v37 (e37 : v37 = F33 36 v36.toNatClampNeg) => ?_)
                  refine lv_icmp_ge (tgt := 184) hx hb dX8_next_155 (by decide) (fun h_38 => ?_) (fun h_38 => ?_)
                  · skip
                    refine lv_iinc (v := (nI (jL65 + 1))) (lv' := [(4, .int (nI (jL65 + 1))), (3, .int (nI jL56)), (0, .ref h0), (1, .int a1), (2, .int a2)]) hx hb dX8_next_184 hl (k := 0) rfl (show nI jL65 + 1 = nI (jL65 + 1) from nI_1 jL65) (by decide) rfl (fun ls hl => ?_)
                    refine lv_goto (tgt := 65) hx hb dX8_next_187 (by decide) ?_
                    have hI65 : (rM_next_L65  (k + 1) jL65 FL65) = (rM_next_L65  k (jL65 + 1) F33) := by subst e37 e36 e35 e34 e33 e32 e31 e30 e19 e18 e17 e16 e11; exact (if_neg h_20).trans (if_pos h_38)
                    exact ih65 (jL65 + 1) F33 H locs ls (by omega) hP hD hI33 hS (lv_sub hl [0, 1, 2, 3, 4] rfl) (by rw [← hI65]; exact hex)
                  · skip
                    refine lv_aload_n hx hb dX8_next_158 rfl (lv_at hl 2 rfl) ?_
                    refine va_get (D := (dC, dI)) (ci := 7) (v := .ref (q 36)) (C := RX8) (T := TX8) (N := 37) hx hb hts hinX8 hown hK hP 0 rfl rfl 36 (by decide) (hts (.fieldLink RX8 101 "FurPostsModel" "far" "[I") (by decide +kernel)) (fun _ h9 => h9) rfl dX8_next_159 ?_
                    refine lv_aload_n hx hb dX8_next_162 rfl (lv_at hl 2 rfl) ?_
                    refine va_get (D := (dC, dI)) (ci := 7) (v := .ref (q 6)) (C := RX8) (T := TX8) (N := 37) hx hb hts hinX8 hown hK hP 0 rfl rfl 6 (by decide) (hts (.fieldLink RX8 19 "FurPostsModel" "wayA" "[I") (by decide +kernel)) (fun _ h9 => h9) rfl dX8_next_163 ?_
                    refine lv_iload hx hb dX8_next_166 (lv_at hl 0 rfl) ?_
                    refine va_iald hx hb hK hP 4 0 rfl rfl (i := (nI jL65)) (vp_in_nI (show jL65 < 12 by omega) (by decide)) dX8_next_168 ?_
                    refine lv_topi (fun v39 (e39 : v39 = F33 6 (nI jL65).toNatClampNeg) => ?_)
                    rw [(nI_clamp (by omega))] at e39
                    refine lv_aload_n hx hb dX8_next_169 rfl (lv_at hl 2 rfl) ?_
                    refine va_get (D := (dC, dI)) (ci := 7) (v := .ref (q 36)) (C := RX8) (T := TX8) (N := 37) hx hb hts hinX8 hown hK hP 0 rfl rfl 36 (by decide) (hts (.fieldLink RX8 101 "FurPostsModel" "far" "[I") (by decide +kernel)) (fun _ h9 => h9) rfl dX8_next_170 ?_
                    refine lv_aload_n hx hb dX8_next_173 rfl (lv_at hl 2 rfl) ?_
                    refine va_get (D := (dC, dI)) (ci := 7) (v := .ref (q 7)) (C := RX8) (T := TX8) (N := 37) hx hb hts hinX8 hown hK hP 0 rfl rfl 7 (by decide) (hts (.fieldLink RX8 22 "FurPostsModel" "wayB" "[I") (by decide +kernel)) (fun _ h9 => h9) rfl dX8_next_174 ?_
                    refine lv_iload hx hb dX8_next_177 (lv_at hl 0 rfl) ?_
                    refine va_iald hx hb hK hP 5 0 rfl rfl (i := (nI jL65)) (vp_in_nI (show jL65 < 12 by omega) (by decide)) dX8_next_179 ?_
                    refine lv_topi (fun v40 (e40 : v40 = F33 7 (nI jL65).toNatClampNeg) => ?_)
                    rw [(nI_clamp (by omega))] at e40
                    refine va_iald hx hb hK hP 31 0 rfl rfl (i := v40) (by rw [e40]; exact hI33.2.1 _) dX8_next_180 ?_
                    refine lv_topi (fun v41 (e41 : v41 = F33 36 v40.toNatClampNeg) => ?_)
                    refine lv_iconst (v := 1) hx hb dX8_next_181 (by decide) ?_
                    refine lv_iadd hx hb dX8_next_182 ?_
                    refine va_iast hx hb hK hP hD hS 31 0 rfl rfl (i := v39) (x := (v41 + 1)) (by rw [e39]; exact hI33.1 _) dX8_next_183 (fun H locs hP2 hD2 hS => ?_)
                    obtain ⟨F42, e42, hP, hD, hI42⟩ : ∃ F42 : Nat → Nat → Int32, F42 = up2 F33 36 v39.toNatClampNeg (v41 + 1) ∧ va_P (dC, dI) vwCl (mw_ h0 q n (F42 44 0) cI cZ F42) H ∧ va_D A (mw_ h0 q n (F42 44 0) cI cZ F42) ∧ mi_ n F42 := ⟨_, rfl, hP2, hD2, hI33⟩
                    refine lv_iinc (v := (nI (jL65 + 1))) (lv' := [(4, .int (nI (jL65 + 1))), (3, .int (nI jL56)), (0, .ref h0), (1, .int a1), (2, .int a2)]) hx hb dX8_next_184 hl (k := 0) rfl (show nI jL65 + 1 = nI (jL65 + 1) from nI_1 jL65) (by decide) rfl (fun ls hl => ?_)
                    refine lv_goto (tgt := 65) hx hb dX8_next_187 (by decide) ?_
                    have hI65 : (rM_next_L65  (k + 1) jL65 FL65) = (rM_next_L65  k (jL65 + 1) F42) := by subst e42 e41 e40 e39 e37 e36 e35 e34 e33 e32 e31 e30 e19 e18 e17 e16 e11; exact (if_neg h_20).trans (if_neg h_38)
                    exact ih65 (jL65 + 1) F42 H locs ls (by omega) hP hD hI42 hS (lv_sub hl [0, 1, 2, 3, 4] rfl) (by rw [← hI65]; exact hex)
            refine key65 (n 2) 0 FL56 H locs ls (by omega) hP hD hIz56 hS (lv_sub hl [0, 1, 2, 3, 4] rfl) (fun H locs ls hP hD hIz65 hS hl => ?_)
            obtain ⟨F43, e43, hP, hD, hI43⟩ : ∃ F43 : Nat → Nat → Int32, F43 = (rM_next_L65  (n 2) 0 FL56) ∧ va_P (dC, dI) vwCl (mw_ h0 q n (F43 44 0) cI cZ F43) H ∧ va_D A (mw_ h0 q n (F43 44 0) cI cZ F43) ∧ mi_ n F43 := ⟨_, rfl, hP, hD, hIz65⟩
            refine lv_iinc (v := (nI (jL56 + 1))) (lv' := [(3, .int (nI (jL56 + 1))), (4, .int (nI (n 2))), (0, .ref h0), (1, .int a1), (2, .int a2)]) hx hb dX8_next_190 hl (k := 1) rfl (show nI jL56 + 1 = nI (jL56 + 1) from nI_1 jL56) (by decide) rfl (fun ls hl => ?_)
            refine lv_goto (tgt := 56) hx hb dX8_next_193 (by decide) ?_
            have hI56 : (rM_next_L56 n (k + 1) jL56 FL56) = (rM_next_L56 n k (jL56 + 1) F43) := by subst e43 e11; exact rfl
            exact ih56 (jL56 + 1) F43 H locs ls (by omega) hP hD hI43 hS (lv_sub hl [0, 2, 3, 4] rfl) (by rw [← hI56]; exact hex)
        refine key56 8 0 F11 H locs ls (by omega) hP hD hI11 hS (lv_sub hl [0, 1, 2, 3] rfl) (fun H locs ls hP hD hIz56 hS hl => ?_)
        obtain ⟨F44, e44, hP, hD, hI44⟩ : ∃ F44 : Nat → Nat → Int32, F44 = (rM_next_L56 n 8 0 F11) ∧ va_P (dC, dI) vwCl (mw_ h0 q n (F44 44 0) cI cZ F44) H ∧ va_D A (mw_ h0 q n (F44 44 0) cI cZ F44) ∧ mi_ n F44 := ⟨_, rfl, hP, hD, hIz56⟩
        refine lv_iconst (v := (-1)) hx hb dX8_next_196 (by decide) ?_
        refine lv_istore_n (lv' := [(3, .int (-1)), (0, .ref h0), (1, .int a1), (2, .int a2)]) hx hb dX8_next_197 rfl hl (by decide) rfl (fun ls hl => ?_)
        refine lv_iconst (v := 0) hx hb dX8_next_198 (by decide) ?_
        refine lv_istore (lv' := [(4, .int 0), (3, .int (-1)), (0, .ref h0), (1, .int a1), (2, .int a2)]) hx hb dX8_next_199 hl (by decide) rfl (fun ls hl => ?_)
        have key201 : ∀ (k jL201 : Nat) (xL201_3 : Int32) (ls : Array Slot), jL201 + k = (n 1) → (xL201_3 = -1 ∨ vp_in xL201_3 8) → lv_has ls 5 [(4, .int (nI jL201)), (3, .int xL201_3), (0, .ref h0), (1, .int a1), (2, .int a2)] → (∀ (ls : Array Slot), ((rM_next_L201 n a2 F a1 k jL201 xL201_3) = -1 ∨ vp_in (rM_next_L201 n a2 F a1 k jL201 xL201_3) 8) → lv_has ls 5 [(4, .int (nI (n 1))), (3, .int (rM_next_L201 n a2 F a1 k jL201 xL201_3)), (0, .ref h0), (1, .int a1), (2, .int a2)] → W p l e (headSpec wsX8_next ({ frames := 2, cells := 0, slots := 0, locals := 43 })).room s m [.ref h0, .int a1, .int a2].toArray below meth c H locs 0 0 (MQ below (va_Qi (fun r (u : Nat → Nat → Int32) => (r, u) = rM_next n F a1 a2 ∧ va_D A (mw_ h0 q n (u 44 0) cI cZ u) ∧ mi_ n u) (fun u s' => va_P (dC, dI) vwCl (mw_ h0 q n (u 44 0) cI cZ u) s'.heap) A) [.ref h0, .int a1, .int a2].toArray s 0 0 A) (F0 m 263 ls [])) → 
            W p l e (headSpec wsX8_next ({ frames := 2, cells := 0, slots := 0, locals := 43 })).room s m [.ref h0, .int a1, .int a2].toArray below meth c H locs 0 0 (MQ below (va_Qi (fun r (u : Nat → Nat → Int32) => (r, u) = rM_next n F a1 a2 ∧ va_D A (mw_ h0 q n (u 44 0) cI cZ u) ∧ mi_ n u) (fun u s' => va_P (dC, dI) vwCl (mw_ h0 q n (u 44 0) cI cZ u) s'.heap) A) [.ref h0, .int a1, .int a2].toArray s 0 0 A) (F0 m 201 ls []) := by
          intro k
          induction k with
          | zero =>
            intro jL201 xL201_3 ls hj hv201_3 hl hex
            have hj : jL201 = (n 1) := by omega
            subst jL201
            refine lv_iload hx hb dX8_next_201 (lv_at hl 0 rfl) ?_
            refine lv_aload_n hx hb dX8_next_203 rfl (lv_at hl 2 rfl) ?_
            refine va_get (D := (dC, dI)) (ci := 7) (v := .int (nI (n 1))) (C := RX8) (T := TX8) (N := 37) hx hb hts hinX8 hown hK hP 0 rfl rfl 1 (by decide) (hts (.fieldLink RX8 104 "FurPostsModel" "posts" "I") (by decide +kernel)) (fun _ h9 => h9) rfl dX8_next_204 ?_
            refine lv_icmp_ge (tgt := 263) hx hb dX8_next_207 (by decide) (fun h_45 => ?_) (fun h_45 => absurd (lp_ge0 (B := (n 1)) rfl) h_45)
            exact hex ls hv201_3 (lv_sub hl [0, 1, 2, 3, 4] rfl)
          | succ k ih201 =>
            intro jL201 xL201_3 ls hj hv201_3 hl hex
            have hj201 : jL201 < (n 1) := by omega
            refine lv_iload hx hb dX8_next_201 (lv_at hl 0 rfl) ?_
            refine lv_aload_n hx hb dX8_next_203 rfl (lv_at hl 2 rfl) ?_
            refine va_get (D := (dC, dI)) (ci := 7) (v := .int (nI (n 1))) (C := RX8) (T := TX8) (N := 37) hx hb hts hinX8 hown hK hP 0 rfl rfl 1 (by decide) (hts (.fieldLink RX8 104 "FurPostsModel" "posts" "I") (by decide +kernel)) (fun _ h9 => h9) rfl dX8_next_204 ?_
            refine lv_icmp_ge (tgt := 263) hx hb dX8_next_207 (by decide) (fun h_46 => absurd h_46 (lp_ge (B := (n 1)) (by omega) (by omega) rfl)) (fun h_46 => ?_)
            refine lv_aload_n hx hb dX8_next_210 rfl (lv_at hl 2 rfl) ?_
            refine lv_iload_n hx hb dX8_next_211 rfl (lv_at hl 3 rfl) ?_
            refine lv_iload hx hb dX8_next_212 (lv_at hl 0 rfl) ?_
            refine pu_call (va_runV (As := [.int a1, .int (nI jL201)]) (rest := []) ⟨hx, hb, hml, hown, hts⟩ (k_X8_between l dC dI h0 q n cI cZ F44 hI44 hN a1 (nI jL201)) (cwV 2 hts gX8_next_X8_between rfl rfl rfl (by decide +kernel) ⟨Nat.le_of_ble_eq_true rfl, Nat.le_of_ble_eq_true rfl⟩) (pu_pre hP hK (ci := 7) (q0 := 0) rfl rfl) rfl rfl hl.1 rfl (lv_room (Nat.le_of_ble_eq_true rfl)) dX8_next_214 ⟨Nat.le_of_ble_eq_true rfl, Nat.le_of_ble_eq_true rfl⟩) ?_
            refine lv_topi (fun r47 (e47 : r47 = rM_between n F44 a1 (nI jL201)) => ?_)
            refine lv_iconst (v := (-1)) hx hb dX8_next_217 (by decide) ?_
            refine lv_icmp_eq (tgt := 257) hx hb dX8_next_218 (by decide) (fun h_48 => ?_) (fun h_48 => ?_)
            · skip
              refine lv_iinc (v := (nI (jL201 + 1))) (lv' := [(4, .int (nI (jL201 + 1))), (3, .int xL201_3), (0, .ref h0), (1, .int a1), (2, .int a2)]) hx hb dX8_next_257 hl (k := 0) rfl (show nI jL201 + 1 = nI (jL201 + 1) from nI_1 jL201) (by decide) rfl (fun ls hl => ?_)
              refine lv_goto (tgt := 201) hx hb dX8_next_260 (by decide) ?_
              have hI201 : (rM_next_L201 n a2 F a1 (k + 1) jL201 xL201_3) = (rM_next_L201 n a2 F a1 k (jL201 + 1) xL201_3) := by subst e47 e44 e11; exact (if_pos h_48)
              exact ih201 (jL201 + 1) xL201_3 ls (by omega) hv201_3 (lv_sub hl [0, 1, 2, 3, 4] rfl) (by rw [← hI201]; exact hex)
            · skip
              refine lv_aload_n hx hb dX8_next_221 rfl (lv_at hl 2 rfl) ?_
              refine va_get (D := (dC, dI)) (ci := 7) (v := .ref (q 36)) (C := RX8) (T := TX8) (N := 37) hx hb hts hinX8 hown hK hP 0 rfl rfl 36 (by decide) (hts (.fieldLink RX8 101 "FurPostsModel" "far" "[I") (by decide +kernel)) (fun _ h9 => h9) rfl dX8_next_222 ?_
              refine lv_iload hx hb dX8_next_225 (lv_at hl 0 rfl) ?_
              refine va_iald hx hb hK hP 31 0 rfl rfl (i := (nI jL201)) (vp_in_nI (show jL201 < 8 by omega) (by decide)) dX8_next_227 ?_
              refine lv_topi (fun v49 (e49 : v49 = F44 36 (nI jL201).toNatClampNeg) => ?_)
              rw [(nI_clamp (by omega))] at e49
              refine lv_bipush (v := 100) hx hb dX8_next_228 (by decide) ?_
              refine lv_icmp_ge (tgt := 257) hx hb dX8_next_230 (by decide) (fun h_50 => ?_) (fun h_50 => ?_)
              · skip
                refine lv_iinc (v := (nI (jL201 + 1))) (lv' := [(4, .int (nI (jL201 + 1))), (3, .int xL201_3), (0, .ref h0), (1, .int a1), (2, .int a2)]) hx hb dX8_next_257 hl (k := 0) rfl (show nI jL201 + 1 = nI (jL201 + 1) from nI_1 jL201) (by decide) rfl (fun ls hl => ?_)
                refine lv_goto (tgt := 201) hx hb dX8_next_260 (by decide) ?_
                have hI201 : (rM_next_L201 n a2 F a1 (k + 1) jL201 xL201_3) = (rM_next_L201 n a2 F a1 k (jL201 + 1) xL201_3) := by subst e49 e47 e44 e11; exact (if_neg h_48).trans (if_pos h_50)
                exact ih201 (jL201 + 1) xL201_3 ls (by omega) hv201_3 (lv_sub hl [0, 1, 2, 3, 4] rfl) (by rw [← hI201]; exact hex)
              · skip
                refine lv_iload_n hx hb dX8_next_233 rfl (lv_at hl 1 rfl) ?_
                refine lv_iconst (v := (-1)) hx hb dX8_next_234 (by decide) ?_
                refine lv_icmp_eq (tgt := 254) hx hb dX8_next_235 (by decide) (fun h_51 => ?_) (fun h_51 => ?_)
                · skip
                  refine lv_iload hx hb dX8_next_254 (lv_at hl 0 rfl) ?_
                  refine lv_istore_n (lv' := [(3, .int (nI jL201)), (4, .int (nI jL201)), (0, .ref h0), (1, .int a1), (2, .int a2)]) hx hb dX8_next_256 rfl hl (by decide) rfl (fun ls hl => ?_)
                  refine lv_iinc (v := (nI (jL201 + 1))) (lv' := [(4, .int (nI (jL201 + 1))), (3, .int (nI jL201)), (0, .ref h0), (1, .int a1), (2, .int a2)]) hx hb dX8_next_257 hl (k := 1) rfl (show nI jL201 + 1 = nI (jL201 + 1) from nI_1 jL201) (by decide) rfl (fun ls hl => ?_)
                  refine lv_goto (tgt := 201) hx hb dX8_next_260 (by decide) ?_
                  have hI201 : (rM_next_L201 n a2 F a1 (k + 1) jL201 xL201_3) = (rM_next_L201 n a2 F a1 k (jL201 + 1) (nI jL201)) := by subst e49 e47 e44 e11; exact (if_neg h_48).trans ((if_neg h_50).trans (if_pos h_51))
                  exact ih201 (jL201 + 1) (nI jL201) ls (by omega) (Or.inr (vp_in_nI (show jL201 < 8 by omega) (by decide))) (lv_sub hl [0, 1, 2, 3, 4] rfl) (by rw [← hI201]; exact hex)
                · skip
                  refine lv_aload_n hx hb dX8_next_238 rfl (lv_at hl 2 rfl) ?_
                  refine va_get (D := (dC, dI)) (ci := 7) (v := .ref (q 36)) (C := RX8) (T := TX8) (N := 37) hx hb hts hinX8 hown hK hP 0 rfl rfl 36 (by decide) (hts (.fieldLink RX8 101 "FurPostsModel" "far" "[I") (by decide +kernel)) (fun _ h9 => h9) rfl dX8_next_239 ?_
                  refine lv_iload hx hb dX8_next_242 (lv_at hl 0 rfl) ?_
                  refine va_iald hx hb hK hP 31 0 rfl rfl (i := (nI jL201)) (vp_in_nI (show jL201 < 8 by omega) (by decide)) dX8_next_244 ?_
                  refine lv_topi (fun v52 (e52 : v52 = F44 36 (nI jL201).toNatClampNeg) => ?_)
                  rw [(nI_clamp (by omega))] at e52
                  refine lv_aload_n hx hb dX8_next_245 rfl (lv_at hl 2 rfl) ?_
                  refine va_get (D := (dC, dI)) (ci := 7) (v := .ref (q 36)) (C := RX8) (T := TX8) (N := 37) hx hb hts hinX8 hown hK hP 0 rfl rfl 36 (by decide) (hts (.fieldLink RX8 101 "FurPostsModel" "far" "[I") (by decide +kernel)) (fun _ h9 => h9) rfl dX8_next_246 ?_
                  refine lv_iload_n hx hb dX8_next_249 rfl (lv_at hl 1 rfl) ?_
                  refine va_iald hx hb hK hP 31 0 rfl rfl (i := xL201_3) (hv201_3.resolve_left h_51) dX8_next_250 ?_
                  refine lv_topi (fun v53 (e53 : v53 = F44 36 xL201_3.toNatClampNeg) => ?_)
                  refine lv_icmp_ge (tgt := 257) hx hb dX8_next_251 (by decide) (fun h_54 => ?_) (fun h_54 => ?_)
                  · skip
                    refine lv_iinc (v := (nI (jL201 + 1))) (lv' := [(4, .int (nI (jL201 + 1))), (3, .int xL201_3), (0, .ref h0), (1, .int a1), (2, .int a2)]) hx hb dX8_next_257 hl (k := 0) rfl (show nI jL201 + 1 = nI (jL201 + 1) from nI_1 jL201) (by decide) rfl (fun ls hl => ?_)
                    refine lv_goto (tgt := 201) hx hb dX8_next_260 (by decide) ?_
                    have hI201 : (rM_next_L201 n a2 F a1 (k + 1) jL201 xL201_3) = (rM_next_L201 n a2 F a1 k (jL201 + 1) xL201_3) := by subst e53 e52 e49 e47 e44 e11; exact (if_neg h_48).trans ((if_neg h_50).trans ((if_neg h_51).trans (if_pos h_54)))
                    exact ih201 (jL201 + 1) xL201_3 ls (by omega) hv201_3 (lv_sub hl [0, 1, 2, 3, 4] rfl) (by rw [← hI201]; exact hex)
                  · skip
                    refine lv_iload hx hb dX8_next_254 (lv_at hl 0 rfl) ?_
                    refine lv_istore_n (lv' := [(3, .int (nI jL201)), (4, .int (nI jL201)), (0, .ref h0), (1, .int a1), (2, .int a2)]) hx hb dX8_next_256 rfl hl (by decide) rfl (fun ls hl => ?_)
                    refine lv_iinc (v := (nI (jL201 + 1))) (lv' := [(4, .int (nI (jL201 + 1))), (3, .int (nI jL201)), (0, .ref h0), (1, .int a1), (2, .int a2)]) hx hb dX8_next_257 hl (k := 1) rfl (show nI jL201 + 1 = nI (jL201 + 1) from nI_1 jL201) (by decide) rfl (fun ls hl => ?_)
                    refine lv_goto (tgt := 201) hx hb dX8_next_260 (by decide) ?_
                    have hI201 : (rM_next_L201 n a2 F a1 (k + 1) jL201 xL201_3) = (rM_next_L201 n a2 F a1 k (jL201 + 1) (nI jL201)) := by subst e53 e52 e49 e47 e44 e11; exact (if_neg h_48).trans ((if_neg h_50).trans ((if_neg h_51).trans (if_neg h_54)))
                    exact ih201 (jL201 + 1) (nI jL201) ls (by omega) (Or.inr (vp_in_nI (show jL201 < 8 by omega) (by decide))) (lv_sub hl [0, 1, 2, 3, 4] rfl) (by rw [← hI201]; exact hex)
        refine key201 (n 1) 0 (-1) ls (by omega) (Or.inl rfl) (lv_sub hl [0, 1, 2, 3, 4] rfl) (fun ls hv201_3 hl => ?_)
        obtain ⟨v55, e55, hv55⟩ : ∃ v55 : Int32, v55 = (rM_next_L201 n a2 F a1 (n 1) 0 (-1)) ∧ (v55 = -1 ∨ vp_in v55 8) := ⟨_, rfl, hv201_3⟩
        rw [← e55] at hl
        refine lv_iload_n hx hb dX8_next_263 rfl (lv_at hl 1 rfl) ?_
        have hq56 : rM_next n F a1 a2 = (v55, F44) := by subst e55 e44 e11; exact (if_neg h_1).trans ((if_neg h_3).trans (if_neg h_5))
        exact W.iret (v := v55) hx hb hr (fun t9 ht hW => ⟨⟨v55, F44, rfl, ⟨hq56.symm, hD, hI44⟩, by show va_P (dC, dI) vwCl _ t9.heap; rw [ht]; exact hP⟩, hS.F ht⟩) hS.2.2 dX8_next_264
      · skip
        refine lv_iconst (v := (-1)) hx hb dX8_next_21 (by decide) ?_
        have hq57 : rM_next n F a1 a2 = ((-1), F) := by exact (if_neg h_1).trans ((if_neg h_3).trans (if_pos h_5))
        exact W.iret (v := (-1)) hx hb hr (fun t9 ht hW => ⟨⟨(-1), F, rfl, ⟨hq57.symm, hD, hI⟩, by show va_P (dC, dI) vwCl _ t9.heap; rw [ht]; exact hP⟩, hS.F ht⟩) hS.2.2 dX8_next_22

set_option maxHeartbeats 8000000 in
set_option maxRecDepth 100000 in
theorem m_X8_reads (l : Launch) (dC : Nat → ClassId) (dI : Nat → Nat → Nat) (h0 : Nat) (q n : Nat → Nat) (cI cZ : ClassId) (F : Nat → Nat → Int32) (hI : mi_ n F) (hN : nb_ n) (A : Nat → Prop) (hD : va_D A (mw_ h0 q n (F 44 0) cI cZ F)) (a1 : Int32) (hb0 : vp_in a1 300) (hx4 : Int32.toNatClampNeg a1 < n 4) : Met l yX8_reads wsX8_reads ({ frames := 0, cells := 0, slots := 0, locals := 0 }) (va_Pc [.ref h0, .int a1] (pu_P (dC, dI) vwCl (mt_ cI cZ) (mw_ h0 q n (F 44 0) cI cZ F))) (va_Qv (fun u : Nat → Nat → Int32 => u = rM_reads n F a1 ∧ va_D A (mw_ h0 q n (u 44 0) cI cZ u) ∧ mi_ n u) (fun u s' => va_P (dC, dI) vwCl (mw_ h0 q n (u 44 0) cI cZ u) s'.heap) A) 0 0 A := by
  refine Met.ofW (cc := cX8_reads) (maxL := 4) (ret := none) (by decide) rfl ?_
  intro p e s m args below meth c s₁ B hml hv
  obtain ⟨rfl, hP, hK⟩ := hv
  have hx := B.exec
  have hb := B.bytes
  have hr := B.returns
  have hts := atoms_spec (ws := wsX8_reads) B.pre
  have hown : s.vm.findClass RX8 = some m.cls := findClass_of_methodNamed B.named
  have hlocks := B.notSynchronized
  have hinX8 : ∀ w ∈ u_ws RX8 TX8 37, w ∈ wsX8_reads := by decide +kernel
  have hS : va_S A s.heap s.heap [] := va_S.rf
  have hl := lv_entry ([.ref h0, .int a1]) (n := 4) (Nat.le_of_ble_eq_true rfl)
  rw [lg_entry_eq]
  generalize (lg_sl ([.ref h0, .int a1]) ++ List.replicate (4 - (lg_sl ([.ref h0, .int a1])).length) Slot.unset).toArray = ls at hl ⊢
  have hl : lv_has ls 4 [(0, .ref h0), (1, .int a1)] := hl
  obtain ⟨H, hH, hP, hS⟩ : ∃ H, H = s.heap ∧ va_P (dC, dI) vwCl (mw_ h0 q n (F 44 0) cI cZ F) H ∧ va_S A s.heap H [] := ⟨_, rfl, hP, hS⟩
  rw [← hH]
  generalize ([] : List Loc) = locs at hS ⊢
  refine lv_aload_n hx hb dX8_reads_0 rfl (lv_at hl 0 rfl) ?_
  refine va_get (D := (dC, dI)) (ci := 7) (v := .ref (q 27)) (C := RX8) (T := TX8) (N := 37) hx hb hts hinX8 hown hK hP 0 rfl rfl 27 (by decide) (hts (.fieldLink RX8 77 "FurPostsModel" "letterTo" "[I") (by decide +kernel)) (fun _ h9 => h9) rfl dX8_reads_1 ?_
  refine lv_iload_n hx hb dX8_reads_4 rfl (lv_at hl 1 rfl) ?_
  refine va_iald hx hb hK hP 23 0 rfl rfl (i := a1) hb0 dX8_reads_5 ?_
  refine lv_topi (fun v1 (e1 : v1 = F 27 a1.toNatClampNeg) => ?_)
  refine lv_istore_n (lv' := [(2, .int v1), (0, .ref h0), (1, .int a1)]) hx hb dX8_reads_6 rfl hl (by decide) rfl (fun ls hl => ?_)
  refine lv_aload_n hx hb dX8_reads_7 rfl (lv_at hl 1 rfl) ?_
  refine va_get (D := (dC, dI)) (ci := 7) (v := .ref (q 28)) (C := RX8) (T := TX8) (N := 37) hx hb hts hinX8 hown hK hP 0 rfl rfl 28 (by decide) (hts (.fieldLink RX8 80 "FurPostsModel" "letterAt" "[I") (by decide +kernel)) (fun _ h9 => h9) rfl dX8_reads_8 ?_
  refine lv_iload_n hx hb dX8_reads_11 rfl (lv_at hl 2 rfl) ?_
  refine lv_sipush (v := 1000) hx hb dX8_reads_12 (by decide) ?_
  refine va_iast hx hb hK hP hD hS 24 0 rfl rfl (i := a1) (x := 1000) hb0 dX8_reads_15 (fun H locs hP2 hD2 hS => ?_)
  obtain ⟨F2, e2, hP, hD, hI2⟩ : ∃ F2 : Nat → Nat → Int32, F2 = up2 F 28 a1.toNatClampNeg 1000 ∧ va_P (dC, dI) vwCl (mw_ h0 q n (F2 44 0) cI cZ F2) H ∧ va_D A (mw_ h0 q n (F2 44 0) cI cZ F2) ∧ mi_ n F2 := ⟨_, rfl, hP2, hD2, hI⟩
  refine lv_aload_n hx hb dX8_reads_16 rfl (lv_at hl 1 rfl) ?_
  refine va_get (D := (dC, dI)) (ci := 7) (v := .ref (q 26)) (C := RX8) (T := TX8) (N := 37) hx hb hts hinX8 hown hK hP 0 rfl rfl 26 (by decide) (hts (.fieldLink RX8 74 "FurPostsModel" "letterKind" "[I") (by decide +kernel)) (fun _ h9 => h9) rfl dX8_reads_17 ?_
  refine lv_iload_n hx hb dX8_reads_20 rfl (lv_at hl 2 rfl) ?_
  refine va_iald hx hb hK hP 22 0 rfl rfl (i := a1) hb0 dX8_reads_21 ?_
  refine lv_topi (fun v3 (e3 : v3 = F2 26 a1.toNatClampNeg) => ?_)
  refine lv_if_ne (tgt := 50) hx hb dX8_reads_22 (by decide) (fun h_4 => ?_) (fun h_4 => ?_)
  · skip
    refine lv_aload_n hx hb dX8_reads_50 rfl (lv_at hl 1 rfl) ?_
    refine va_get (D := (dC, dI)) (ci := 7) (v := .ref (q 26)) (C := RX8) (T := TX8) (N := 37) hx hb hts hinX8 hown hK hP 0 rfl rfl 26 (by decide) (hts (.fieldLink RX8 74 "FurPostsModel" "letterKind" "[I") (by decide +kernel)) (fun _ h9 => h9) rfl dX8_reads_51 ?_
    refine lv_iload_n hx hb dX8_reads_54 rfl (lv_at hl 2 rfl) ?_
    refine va_iald hx hb hK hP 22 0 rfl rfl (i := a1) hb0 dX8_reads_55 ?_
    refine lv_topi (fun v5 (e5 : v5 = F2 26 a1.toNatClampNeg) => ?_)
    refine lv_iconst (v := 1) hx hb dX8_reads_56 (by decide) ?_
    refine lv_icmp_ne (tgt := 88) hx hb dX8_reads_57 (by decide) (fun h_6 => ?_) (fun h_6 => ?_)
    · skip
      refine lv_bipush (v := 8) hx hb dX8_reads_88 (by decide) ?_
      refine lv_iload_n hx hb dX8_reads_90 rfl (lv_at hl 0 rfl) ?_
      refine lv_imul hx hb dX8_reads_91 ?_
      refine lv_aload_n hx hb dX8_reads_92 rfl (lv_at hl 1 rfl) ?_
      refine va_get (D := (dC, dI)) (ci := 7) (v := .ref (q 29)) (C := RX8) (T := TX8) (N := 37) hx hb hts hinX8 hown hK hP 0 rfl rfl 29 (by decide) (hts (.fieldLink RX8 83 "FurPostsModel" "letterOne" "[I") (by decide +kernel)) (fun _ h9 => h9) rfl dX8_reads_93 ?_
      refine lv_iload_n hx hb dX8_reads_96 rfl (lv_at hl 2 rfl) ?_
      refine va_iald hx hb hK hP 25 0 rfl rfl (i := a1) hb0 dX8_reads_97 ?_
      refine lv_topi (fun v7 (e7 : v7 = F2 29 a1.toNatClampNeg) => ?_)
      refine lv_iadd hx hb dX8_reads_98 ?_
      refine lv_istore_n (lv' := [(3, .int ((8 * v1) + v7)), (2, .int v1), (0, .ref h0), (1, .int a1)]) hx hb dX8_reads_99 rfl hl (by decide) rfl (fun ls hl => ?_)
      refine lv_aload_n hx hb dX8_reads_100 rfl (lv_at hl 2 rfl) ?_
      refine va_get (D := (dC, dI)) (ci := 7) (v := .ref (q 32)) (C := RX8) (T := TX8) (N := 37) hx hb hts hinX8 hown hK hP 0 rfl rfl 32 (by decide) (hts (.fieldLink RX8 92 "FurPostsModel" "reported" "[I") (by decide +kernel)) (fun _ h9 => h9) rfl dX8_reads_101 ?_
      refine lv_iload_n hx hb dX8_reads_104 rfl (lv_at hl 0 rfl) ?_
      refine va_iald hx hb hK hP 28 0 rfl rfl (i := ((8 * v1) + v7)) (vp_lin (a := 8) (b := 8) (m := 8) (by rw [e1]; exact hI.2.2.2.2.1 _) (by rw [e7]; exact (hI2.2.2.2.2.2.2 _ hx4).2.2 (by rw [← e3]; exact h_4) (by rw [← e5]; exact h_6)) rfl (by decide)) dX8_reads_105 ?_
      refine lv_topi (fun v8 (e8 : v8 = F2 32 ((8 * v1) + v7).toNatClampNeg) => ?_)
      rw [(tn_lin (k := 8) (a := 8) (b := 8) (m := 8) (by rw [e1]; exact hI.2.2.2.2.1 _) (by rw [e7]; exact (hI2.2.2.2.2.2.2 _ hx4).2.2 (by rw [← e3]; exact h_4) (by rw [← e5]; exact h_6)) rfl (by decide))] at e8
      refine lv_iconst (v := (-1)) hx hb dX8_reads_106 (by decide) ?_
      refine lv_icmp_eq (tgt := 130) hx hb dX8_reads_107 (by decide) (fun h_9 => ?_) (fun h_9 => ?_)
      · skip
        refine lv_aload_n hx hb dX8_reads_130 rfl (lv_at hl 2 rfl) ?_
        refine va_get (D := (dC, dI)) (ci := 7) (v := .ref (q 32)) (C := RX8) (T := TX8) (N := 37) hx hb hts hinX8 hown hK hP 0 rfl rfl 32 (by decide) (hts (.fieldLink RX8 92 "FurPostsModel" "reported" "[I") (by decide +kernel)) (fun _ h9 => h9) rfl dX8_reads_131 ?_
        refine lv_iload_n hx hb dX8_reads_134 rfl (lv_at hl 0 rfl) ?_
        refine lv_iload_n hx hb dX8_reads_135 rfl (lv_at hl 3 rfl) ?_
        refine va_iast hx hb hK hP hD hS 28 0 rfl rfl (i := ((8 * v1) + v7)) (x := a1) (vp_lin (a := 8) (b := 8) (m := 8) (by rw [e1]; exact hI.2.2.2.2.1 _) (by rw [e7]; exact (hI2.2.2.2.2.2.2 _ hx4).2.2 (by rw [← e3]; exact h_4) (by rw [← e5]; exact h_6)) rfl (by decide)) dX8_reads_136 (fun H locs hP2 hD2 hS => ?_)
        obtain ⟨F10, e10, hP, hD, hI10⟩ : ∃ F10 : Nat → Nat → Int32, F10 = up2 F2 32 ((8 * v1) + v7).toNatClampNeg a1 ∧ va_P (dC, dI) vwCl (mw_ h0 q n (F10 44 0) cI cZ F10) H ∧ va_D A (mw_ h0 q n (F10 44 0) cI cZ F10) ∧ mi_ n F10 := ⟨_, rfl, hP2, hD2, mi_up32 hI2 (Or.inr hb0)⟩
        rw [(tn_lin (k := 8) (a := 8) (b := 8) (m := 8) (by rw [e1]; exact hI.2.2.2.2.1 _) (by rw [e7]; exact (hI2.2.2.2.2.2.2 _ hx4).2.2 (by rw [← e3]; exact h_4) (by rw [← e5]; exact h_6)) rfl (by decide))] at e10
        have hq11 : rM_reads n F a1 = F10 := by subst e10 e8 e7 e5 e3 e2 e1; exact (if_neg h_4).trans ((if_neg h_6).trans (if_pos h_9))
        exact W.vret hx hb hr (fun t9 ht hW => ⟨⟨F10, rfl, ⟨hq11.symm, hD, hI10⟩, by show va_P (dC, dI) vwCl _ t9.heap; rw [ht]; exact hP⟩, hS.F ht⟩) hS.2.2 dX8_reads_137
      · skip
        refine lv_aload_n hx hb dX8_reads_110 rfl (lv_at hl 2 rfl) ?_
        refine va_get (D := (dC, dI)) (ci := 7) (v := .ref (q 30)) (C := RX8) (T := TX8) (N := 37) hx hb hts hinX8 hown hK hP 0 rfl rfl 30 (by decide) (hts (.fieldLink RX8 86 "FurPostsModel" "letterTwo" "[I") (by decide +kernel)) (fun _ h9 => h9) rfl dX8_reads_111 ?_
        refine lv_iload_n hx hb dX8_reads_114 rfl (lv_at hl 3 rfl) ?_
        refine va_iald hx hb hK hP 26 0 rfl rfl (i := a1) hb0 dX8_reads_115 ?_
        refine lv_topi (fun v12 (e12 : v12 = F2 30 a1.toNatClampNeg) => ?_)
        refine lv_aload_n hx hb dX8_reads_116 rfl (lv_at hl 2 rfl) ?_
        refine va_get (D := (dC, dI)) (ci := 7) (v := .ref (q 30)) (C := RX8) (T := TX8) (N := 37) hx hb hts hinX8 hown hK hP 0 rfl rfl 30 (by decide) (hts (.fieldLink RX8 86 "FurPostsModel" "letterTwo" "[I") (by decide +kernel)) (fun _ h9 => h9) rfl dX8_reads_117 ?_
        refine lv_aload_n hx hb dX8_reads_120 rfl (lv_at hl 2 rfl) ?_
        refine va_get (D := (dC, dI)) (ci := 7) (v := .ref (q 32)) (C := RX8) (T := TX8) (N := 37) hx hb hts hinX8 hown hK hP 0 rfl rfl 32 (by decide) (hts (.fieldLink RX8 92 "FurPostsModel" "reported" "[I") (by decide +kernel)) (fun _ h9 => h9) rfl dX8_reads_121 ?_
        refine lv_iload_n hx hb dX8_reads_124 rfl (lv_at hl 0 rfl) ?_
        refine va_iald hx hb hK hP 28 0 rfl rfl (i := ((8 * v1) + v7)) (vp_lin (a := 8) (b := 8) (m := 8) (by rw [e1]; exact hI.2.2.2.2.1 _) (by rw [e7]; exact (hI2.2.2.2.2.2.2 _ hx4).2.2 (by rw [← e3]; exact h_4) (by rw [← e5]; exact h_6)) rfl (by decide)) dX8_reads_125 ?_
        refine lv_topi (fun v13 (e13 : v13 = F2 32 ((8 * v1) + v7).toNatClampNeg) => ?_)
        rw [(tn_lin (k := 8) (a := 8) (b := 8) (m := 8) (by rw [e1]; exact hI.2.2.2.2.1 _) (by rw [e7]; exact (hI2.2.2.2.2.2.2 _ hx4).2.2 (by rw [← e3]; exact h_4) (by rw [← e5]; exact h_6)) rfl (by decide))] at e13
        refine va_iald hx hb hK hP 26 0 rfl rfl (i := v13) (by have z9 := h_9; rw [e8] at z9; rw [e13]; exact (hI2.2.2.2.2.2.1 _).resolve_left z9) dX8_reads_126 ?_
        refine lv_topi (fun v14 (e14 : v14 = F2 30 v13.toNatClampNeg) => ?_)
        refine lv_icmp_lt (tgt := 137) hx hb dX8_reads_127 (by decide) (fun h_15 => ?_) (fun h_15 => ?_)
        · skip
          have hq16 : rM_reads n F a1 = F2 := by subst e14 e13 e12 e8 e7 e5 e3 e2 e1; exact (if_neg h_4).trans ((if_neg h_6).trans ((if_neg h_9).trans (if_pos h_15)))
          exact W.vret hx hb hr (fun t9 ht hW => ⟨⟨F2, rfl, ⟨hq16.symm, hD, hI2⟩, by show va_P (dC, dI) vwCl _ t9.heap; rw [ht]; exact hP⟩, hS.F ht⟩) hS.2.2 dX8_reads_137
        · skip
          refine lv_aload_n hx hb dX8_reads_130 rfl (lv_at hl 2 rfl) ?_
          refine va_get (D := (dC, dI)) (ci := 7) (v := .ref (q 32)) (C := RX8) (T := TX8) (N := 37) hx hb hts hinX8 hown hK hP 0 rfl rfl 32 (by decide) (hts (.fieldLink RX8 92 "FurPostsModel" "reported" "[I") (by decide +kernel)) (fun _ h9 => h9) rfl dX8_reads_131 ?_
          refine lv_iload_n hx hb dX8_reads_134 rfl (lv_at hl 0 rfl) ?_
          refine lv_iload_n hx hb dX8_reads_135 rfl (lv_at hl 3 rfl) ?_
          refine va_iast hx hb hK hP hD hS 28 0 rfl rfl (i := ((8 * v1) + v7)) (x := a1) (vp_lin (a := 8) (b := 8) (m := 8) (by rw [e1]; exact hI.2.2.2.2.1 _) (by rw [e7]; exact (hI2.2.2.2.2.2.2 _ hx4).2.2 (by rw [← e3]; exact h_4) (by rw [← e5]; exact h_6)) rfl (by decide)) dX8_reads_136 (fun H locs hP2 hD2 hS => ?_)
          obtain ⟨F17, e17, hP, hD, hI17⟩ : ∃ F17 : Nat → Nat → Int32, F17 = up2 F2 32 ((8 * v1) + v7).toNatClampNeg a1 ∧ va_P (dC, dI) vwCl (mw_ h0 q n (F17 44 0) cI cZ F17) H ∧ va_D A (mw_ h0 q n (F17 44 0) cI cZ F17) ∧ mi_ n F17 := ⟨_, rfl, hP2, hD2, mi_up32 hI2 (Or.inr hb0)⟩
          rw [(tn_lin (k := 8) (a := 8) (b := 8) (m := 8) (by rw [e1]; exact hI.2.2.2.2.1 _) (by rw [e7]; exact (hI2.2.2.2.2.2.2 _ hx4).2.2 (by rw [← e3]; exact h_4) (by rw [← e5]; exact h_6)) rfl (by decide))] at e17
          have hq18 : rM_reads n F a1 = F17 := by subst e17 e14 e13 e12 e8 e7 e5 e3 e2 e1; exact (if_neg h_4).trans ((if_neg h_6).trans ((if_neg h_9).trans (if_neg h_15)))
          exact W.vret hx hb hr (fun t9 ht hW => ⟨⟨F17, rfl, ⟨hq18.symm, hD, hI17⟩, by show va_P (dC, dI) vwCl _ t9.heap; rw [ht]; exact hP⟩, hS.F ht⟩) hS.2.2 dX8_reads_137
    · skip
      refine lv_aload_n hx hb dX8_reads_60 rfl (lv_at hl 1 rfl) ?_
      refine va_get (D := (dC, dI)) (ci := 7) (v := .ref (q 4)) (C := RX8) (T := TX8) (N := 37) hx hb hts hinX8 hown hK hP 0 rfl rfl 4 (by decide) (hts (.fieldLink RX8 16 "FurPostsModel" "owes" "[I") (by decide +kernel)) (fun _ h9 => h9) rfl dX8_reads_61 ?_
      refine lv_bipush (v := 12) hx hb dX8_reads_64 (by decide) ?_
      refine lv_iload_n hx hb dX8_reads_66 rfl (lv_at hl 0 rfl) ?_
      refine lv_imul hx hb dX8_reads_67 ?_
      refine lv_aload_n hx hb dX8_reads_68 rfl (lv_at hl 1 rfl) ?_
      refine va_get (D := (dC, dI)) (ci := 7) (v := .ref (q 29)) (C := RX8) (T := TX8) (N := 37) hx hb hts hinX8 hown hK hP 0 rfl rfl 29 (by decide) (hts (.fieldLink RX8 83 "FurPostsModel" "letterOne" "[I") (by decide +kernel)) (fun _ h9 => h9) rfl dX8_reads_69 ?_
      refine lv_iload_n hx hb dX8_reads_72 rfl (lv_at hl 2 rfl) ?_
      refine va_iald hx hb hK hP 25 0 rfl rfl (i := a1) hb0 dX8_reads_73 ?_
      refine lv_topi (fun v19 (e19 : v19 = F2 29 a1.toNatClampNeg) => ?_)
      refine lv_iadd hx hb dX8_reads_74 ?_
      refine lv_dup2_11 hx hb dX8_reads_75 rfl rfl ?_
      refine va_iald hx hb hK hP 3 0 rfl rfl (i := ((12 * v1) + v19)) (vp_lin (a := 8) (b := 12) (m := 12) (by rw [e1]; exact hI.2.2.2.2.1 _) (by rw [e19]; exact (hI2.2.2.2.2.2.2 _ hx4).2.1 (by rw [← e5]; exact h_6)) rfl (by decide)) dX8_reads_76 ?_
      refine lv_topi (fun v20 (e20 : v20 = F2 4 ((12 * v1) + v19).toNatClampNeg) => ?_)
      rw [(tn_lin (k := 12) (a := 8) (b := 12) (m := 12) (by rw [e1]; exact hI.2.2.2.2.1 _) (by rw [e19]; exact (hI2.2.2.2.2.2.2 _ hx4).2.1 (by rw [← e5]; exact h_6)) rfl (by decide))] at e20
      refine lv_aload_n hx hb dX8_reads_77 rfl (lv_at hl 1 rfl) ?_
      refine va_get (D := (dC, dI)) (ci := 7) (v := .ref (q 30)) (C := RX8) (T := TX8) (N := 37) hx hb hts hinX8 hown hK hP 0 rfl rfl 30 (by decide) (hts (.fieldLink RX8 86 "FurPostsModel" "letterTwo" "[I") (by decide +kernel)) (fun _ h9 => h9) rfl dX8_reads_78 ?_
      refine lv_iload_n hx hb dX8_reads_81 rfl (lv_at hl 2 rfl) ?_
      refine va_iald hx hb hK hP 26 0 rfl rfl (i := a1) hb0 dX8_reads_82 ?_
      refine lv_topi (fun v21 (e21 : v21 = F2 30 a1.toNatClampNeg) => ?_)
      refine lv_iadd hx hb dX8_reads_83 ?_
      refine va_iast hx hb hK hP hD hS 3 0 rfl rfl (i := ((12 * v1) + v19)) (x := (v20 + v21)) (vp_lin (a := 8) (b := 12) (m := 12) (by rw [e1]; exact hI.2.2.2.2.1 _) (by rw [e19]; exact (hI2.2.2.2.2.2.2 _ hx4).2.1 (by rw [← e5]; exact h_6)) rfl (by decide)) dX8_reads_84 (fun H locs hP2 hD2 hS => ?_)
      obtain ⟨F22, e22, hP, hD, hI22⟩ : ∃ F22 : Nat → Nat → Int32, F22 = up2 F2 4 ((12 * v1) + v19).toNatClampNeg (v20 + v21) ∧ va_P (dC, dI) vwCl (mw_ h0 q n (F22 44 0) cI cZ F22) H ∧ va_D A (mw_ h0 q n (F22 44 0) cI cZ F22) ∧ mi_ n F22 := ⟨_, rfl, hP2, hD2, hI2⟩
      rw [(tn_lin (k := 12) (a := 8) (b := 12) (m := 12) (by rw [e1]; exact hI.2.2.2.2.1 _) (by rw [e19]; exact (hI2.2.2.2.2.2.2 _ hx4).2.1 (by rw [← e5]; exact h_6)) rfl (by decide))] at e22
      refine lv_goto (tgt := 137) hx hb dX8_reads_85 (by decide) ?_
      have hq23 : rM_reads n F a1 = F22 := by subst e22 e21 e20 e19 e5 e3 e2 e1; exact (if_neg h_4).trans (if_pos h_6)
      exact W.vret hx hb hr (fun t9 ht hW => ⟨⟨F22, rfl, ⟨hq23.symm, hD, hI22⟩, by show va_P (dC, dI) vwCl _ t9.heap; rw [ht]; exact hP⟩, hS.F ht⟩) hS.2.2 dX8_reads_137
  · skip
    refine lv_aload_n hx hb dX8_reads_25 rfl (lv_at hl 1 rfl) ?_
    refine va_get (D := (dC, dI)) (ci := 7) (v := .ref (q 3)) (C := RX8) (T := TX8) (N := 37) hx hb hts hinX8 hown hK hP 0 rfl rfl 3 (by decide) (hts (.fieldLink RX8 13 "FurPostsModel" "price" "[I") (by decide +kernel)) (fun _ h9 => h9) rfl dX8_reads_26 ?_
    refine lv_bipush (v := 6) hx hb dX8_reads_29 (by decide) ?_
    refine lv_iload_n hx hb dX8_reads_31 rfl (lv_at hl 0 rfl) ?_
    refine lv_imul hx hb dX8_reads_32 ?_
    refine lv_aload_n hx hb dX8_reads_33 rfl (lv_at hl 1 rfl) ?_
    refine va_get (D := (dC, dI)) (ci := 7) (v := .ref (q 29)) (C := RX8) (T := TX8) (N := 37) hx hb hts hinX8 hown hK hP 0 rfl rfl 29 (by decide) (hts (.fieldLink RX8 83 "FurPostsModel" "letterOne" "[I") (by decide +kernel)) (fun _ h9 => h9) rfl dX8_reads_34 ?_
    refine lv_iload_n hx hb dX8_reads_37 rfl (lv_at hl 2 rfl) ?_
    refine va_iald hx hb hK hP 25 0 rfl rfl (i := a1) hb0 dX8_reads_38 ?_
    refine lv_topi (fun v24 (e24 : v24 = F2 29 a1.toNatClampNeg) => ?_)
    refine lv_iadd hx hb dX8_reads_39 ?_
    refine lv_aload_n hx hb dX8_reads_40 rfl (lv_at hl 1 rfl) ?_
    refine va_get (D := (dC, dI)) (ci := 7) (v := .ref (q 30)) (C := RX8) (T := TX8) (N := 37) hx hb hts hinX8 hown hK hP 0 rfl rfl 30 (by decide) (hts (.fieldLink RX8 86 "FurPostsModel" "letterTwo" "[I") (by decide +kernel)) (fun _ h9 => h9) rfl dX8_reads_41 ?_
    refine lv_iload_n hx hb dX8_reads_44 rfl (lv_at hl 2 rfl) ?_
    refine va_iald hx hb hK hP 26 0 rfl rfl (i := a1) hb0 dX8_reads_45 ?_
    refine lv_topi (fun v25 (e25 : v25 = F2 30 a1.toNatClampNeg) => ?_)
    refine va_iast hx hb hK hP hD hS 2 0 rfl rfl (i := ((6 * v1) + v24)) (x := v25) (vp_lin (a := 8) (b := 6) (m := 6) (by rw [e1]; exact hI.2.2.2.2.1 _) (by rw [e24]; exact (hI2.2.2.2.2.2.2 _ hx4).1 (by rw [← e3]; exact h_4)) rfl (by decide)) dX8_reads_46 (fun H locs hP2 hD2 hS => ?_)
    obtain ⟨F26, e26, hP, hD, hI26⟩ : ∃ F26 : Nat → Nat → Int32, F26 = up2 F2 3 ((6 * v1) + v24).toNatClampNeg v25 ∧ va_P (dC, dI) vwCl (mw_ h0 q n (F26 44 0) cI cZ F26) H ∧ va_D A (mw_ h0 q n (F26 44 0) cI cZ F26) ∧ mi_ n F26 := ⟨_, rfl, hP2, hD2, hI2⟩
    rw [(tn_lin (k := 6) (a := 8) (b := 6) (m := 6) (by rw [e1]; exact hI.2.2.2.2.1 _) (by rw [e24]; exact (hI2.2.2.2.2.2.2 _ hx4).1 (by rw [← e3]; exact h_4)) rfl (by decide))] at e26
    refine lv_goto (tgt := 137) hx hb dX8_reads_47 (by decide) ?_
    have hq27 : rM_reads n F a1 = F26 := by subst e26 e25 e24 e3 e2 e1; exact (if_pos h_4)
    exact W.vret hx hb hr (fun t9 ht hW => ⟨⟨F26, rfl, ⟨hq27.symm, hD, hI26⟩, by show va_P (dC, dI) vwCl _ t9.heap; rw [ht]; exact hP⟩, hS.F ht⟩) hS.2.2 dX8_reads_137

set_option maxHeartbeats 8000000 in
set_option maxRecDepth 100000 in
theorem m_X8_comes (l : Launch) (dC : Nat → ClassId) (dI : Nat → Nat → Nat) (h0 : Nat) (q n : Nat → Nat) (cI cZ : ClassId) (F : Nat → Nat → Int32) (hI : mi_ n F) (hN : nb_ n) (A : Nat → Prop) (hD : va_D A (mw_ h0 q n (F 44 0) cI cZ F)) (a1 : Int32) (hb0 : vp_in a1 120) : Met l yX8_comes wsX8_comes ({ frames := 1, cells := 0, slots := 0, locals := 23 }) (va_Pc [.ref h0, .int a1] (pu_P (dC, dI) vwCl (mt_ cI cZ) (mw_ h0 q n (F 44 0) cI cZ F))) (va_Qv (fun u : Nat → Nat → Int32 => u = rM_comes n F a1 ∧ va_D A (mw_ h0 q n (u 44 0) cI cZ u) ∧ mi_ n u) (fun u s' => va_P (dC, dI) vwCl (mw_ h0 q n (u 44 0) cI cZ u) s'.heap) A) 0 0 A := by
  refine Met.ofW (cc := cX8_comes) (maxL := 4) (ret := none) (by decide) rfl ?_
  intro p e s m args below meth c s₁ B hml hv
  obtain ⟨rfl, hP, hK⟩ := hv
  have hx := B.exec
  have hb := B.bytes
  have hr := B.returns
  have hts := atoms_spec (ws := wsX8_comes) B.pre
  have hown : s.vm.findClass RX8 = some m.cls := findClass_of_methodNamed B.named
  have hlocks := B.notSynchronized
  have hinX8 : ∀ w ∈ u_ws RX8 TX8 37, w ∈ wsX8_comes := by decide +kernel
  have hS : va_S A s.heap s.heap [] := va_S.rf
  have hl := lv_entry ([.ref h0, .int a1]) (n := 4) (Nat.le_of_ble_eq_true rfl)
  rw [lg_entry_eq]
  generalize (lg_sl ([.ref h0, .int a1]) ++ List.replicate (4 - (lg_sl ([.ref h0, .int a1])).length) Slot.unset).toArray = ls at hl ⊢
  have hl : lv_has ls 4 [(0, .ref h0), (1, .int a1)] := hl
  obtain ⟨H, hH, hP, hS⟩ : ∃ H, H = s.heap ∧ va_P (dC, dI) vwCl (mw_ h0 q n (F 44 0) cI cZ F) H ∧ va_S A s.heap H [] := ⟨_, rfl, hP, hS⟩
  rw [← hH]
  generalize ([] : List Loc) = locs at hS ⊢
  refine lv_aload_n hx hb dX8_comes_0 rfl (lv_at hl 0 rfl) ?_
  refine va_get (D := (dC, dI)) (ci := 7) (v := .ref (q 18)) (C := RX8) (T := TX8) (N := 37) hx hb hts hinX8 hown hK hP 0 rfl rfl 18 (by decide) (hts (.fieldLink RX8 52 "FurPostsModel" "state" "[I") (by decide +kernel)) (fun _ h9 => h9) rfl dX8_comes_1 ?_
  refine lv_iload_n hx hb dX8_comes_4 rfl (lv_at hl 1 rfl) ?_
  refine lv_iconst (v := 1) hx hb dX8_comes_5 (by decide) ?_
  refine va_iast hx hb hK hP hD hS 15 0 rfl rfl (i := a1) (x := 1) hb0 dX8_comes_6 (fun H locs hP2 hD2 hS => ?_)
  obtain ⟨F1, e1, hP, hD, hI1⟩ : ∃ F1 : Nat → Nat → Int32, F1 = up2 F 18 a1.toNatClampNeg 1 ∧ va_P (dC, dI) vwCl (mw_ h0 q n (F1 44 0) cI cZ F1) H ∧ va_D A (mw_ h0 q n (F1 44 0) cI cZ F1) ∧ mi_ n F1 := ⟨_, rfl, hP2, hD2, hI⟩
  refine lv_aload_n hx hb dX8_comes_7 rfl (lv_at hl 0 rfl) ?_
  refine va_get (D := (dC, dI)) (ci := 7) (v := .ref (q 20)) (C := RX8) (T := TX8) (N := 37) hx hb hts hinX8 hown hK hP 0 rfl rfl 20 (by decide) (hts (.fieldLink RX8 58 "FurPostsModel" "cameOn" "[I") (by decide +kernel)) (fun _ h9 => h9) rfl dX8_comes_8 ?_
  refine lv_iload_n hx hb dX8_comes_11 rfl (lv_at hl 1 rfl) ?_
  refine lv_aload_n hx hb dX8_comes_12 rfl (lv_at hl 0 rfl) ?_
  refine va_get (D := (dC, dI)) (ci := 7) (v := .int (nI (n 0))) (C := RX8) (T := TX8) (N := 37) hx hb hts hinX8 hown hK hP 0 rfl rfl 0 (by decide) (hts (.fieldLink RX8 137 "FurPostsModel" "now" "I") (by decide +kernel)) (fun _ h9 => h9) rfl dX8_comes_13 ?_
  refine va_iast hx hb hK hP hD hS 17 0 rfl rfl (i := a1) (x := (nI (n 0))) hb0 dX8_comes_16 (fun H locs hP2 hD2 hS => ?_)
  obtain ⟨F2, e2, hP, hD, hI2⟩ : ∃ F2 : Nat → Nat → Int32, F2 = up2 F1 20 a1.toNatClampNeg (nI (n 0)) ∧ va_P (dC, dI) vwCl (mw_ h0 q n (F2 44 0) cI cZ F2) H ∧ va_D A (mw_ h0 q n (F2 44 0) cI cZ F2) ∧ mi_ n F2 := ⟨_, rfl, hP2, hD2, hI1⟩
  refine lv_iconst (v := 0) hx hb dX8_comes_17 (by decide) ?_
  refine lv_istore_n (lv' := [(2, .int 0), (0, .ref h0), (1, .int a1)]) hx hb dX8_comes_18 rfl hl (by decide) rfl (fun ls hl => ?_)
  have key19 : ∀ (k jL19 : Nat) (FL19 : Nat → Nat → Int32) (H : Heap) (locs : List Loc) (ls : Array Slot), jL19 + k = 6 → va_P (dC, dI) vwCl (mw_ h0 q n (FL19 44 0) cI cZ FL19) H → va_D A (mw_ h0 q n (FL19 44 0) cI cZ FL19) → mi_ n FL19 → va_S A s.heap H locs → lv_has ls 4 [(2, .int (nI jL19)), (0, .ref h0), (1, .int a1)] → (∀ (H : Heap) (locs : List Loc) (ls : Array Slot), va_P (dC, dI) vwCl (mw_ h0 q n (((rM_comes_L19 a1 k jL19 FL19)) 44 0) cI cZ ((rM_comes_L19 a1 k jL19 FL19))) H → va_D A (mw_ h0 q n (((rM_comes_L19 a1 k jL19 FL19)) 44 0) cI cZ ((rM_comes_L19 a1 k jL19 FL19))) → mi_ n ((rM_comes_L19 a1 k jL19 FL19)) → va_S A s.heap H locs → lv_has ls 4 [(2, .int (nI 6)), (0, .ref h0), (1, .int a1)] → W p l e (headSpec wsX8_comes ({ frames := 1, cells := 0, slots := 0, locals := 23 })).room s m [.ref h0, .int a1].toArray below meth c H locs 0 0 (MQ below (va_Qv (fun u : Nat → Nat → Int32 => u = rM_comes n F a1 ∧ va_D A (mw_ h0 q n (u 44 0) cI cZ u) ∧ mi_ n u) (fun u s' => va_P (dC, dI) vwCl (mw_ h0 q n (u 44 0) cI cZ u) s'.heap) A) [.ref h0, .int a1].toArray s 0 0 A) (F0 m 92 ls [])) → 
      W p l e (headSpec wsX8_comes ({ frames := 1, cells := 0, slots := 0, locals := 23 })).room s m [.ref h0, .int a1].toArray below meth c H locs 0 0 (MQ below (va_Qv (fun u : Nat → Nat → Int32 => u = rM_comes n F a1 ∧ va_D A (mw_ h0 q n (u 44 0) cI cZ u) ∧ mi_ n u) (fun u s' => va_P (dC, dI) vwCl (mw_ h0 q n (u 44 0) cI cZ u) s'.heap) A) [.ref h0, .int a1].toArray s 0 0 A) (F0 m 19 ls []) := by
    intro k
    induction k with
    | zero =>
      intro jL19 FL19 H locs ls hj hP hD hIz19 hS hl hex
      have hj : jL19 = 6 := by omega
      subst jL19
      refine lv_iload_n hx hb dX8_comes_19 rfl (lv_at hl 0 rfl) ?_
      refine lv_bipush (v := 6) hx hb dX8_comes_20 (by decide) ?_
      refine lv_icmp_ge (tgt := 92) hx hb dX8_comes_22 (by decide) (fun h_3 => ?_) (fun h_3 => absurd (lp_ge0 (B := 6) rfl) h_3)
      exact hex H locs ls hP hD hIz19 hS (lv_sub hl [0, 1, 2] rfl)
    | succ k ih19 =>
      intro jL19 FL19 H locs ls hj hP hD hIz19 hS hl hex
      have hj19 : jL19 < 6 := by omega
      refine lv_iload_n hx hb dX8_comes_19 rfl (lv_at hl 0 rfl) ?_
      refine lv_bipush (v := 6) hx hb dX8_comes_20 (by decide) ?_
      refine lv_icmp_ge (tgt := 92) hx hb dX8_comes_22 (by decide) (fun h_4 => absurd h_4 (lp_ge (B := 6) (by omega) (by omega) rfl)) (fun h_4 => ?_)
      refine lv_bipush (v := 6) hx hb dX8_comes_25 (by decide) ?_
      refine lv_iload_n hx hb dX8_comes_27 rfl (lv_at hl 2 rfl) ?_
      refine lv_imul hx hb dX8_comes_28 ?_
      refine lv_iload_n hx hb dX8_comes_29 rfl (lv_at hl 0 rfl) ?_
      refine lv_iadd hx hb dX8_comes_30 ?_
      refine lv_istore_n (lv' := [(3, .int ((6 * a1) + (nI jL19))), (2, .int (nI jL19)), (0, .ref h0), (1, .int a1)]) hx hb dX8_comes_31 rfl hl (by decide) rfl (fun ls hl => ?_)
      refine lv_aload_n hx hb dX8_comes_32 rfl (lv_at hl 2 rfl) ?_
      refine va_get (D := (dC, dI)) (ci := 7) (v := .ref (q 22)) (C := RX8) (T := TX8) (N := 37) hx hb hts hinX8 hown hK hP 0 rfl rfl 22 (by decide) (hts (.fieldLink RX8 64 "FurPostsModel" "has" "[I") (by decide +kernel)) (fun _ h9 => h9) rfl dX8_comes_33 ?_
      refine lv_iload_n hx hb dX8_comes_36 rfl (lv_at hl 0 rfl) ?_
      refine va_iald hx hb hK hP 19 0 rfl rfl (i := ((6 * a1) + (nI jL19))) (vp_lin (a := 120) (b := 6) (m := 6) hb0 (vp_in_nI (show jL19 < 6 by omega) (by decide)) rfl (by decide)) dX8_comes_37 ?_
      refine lv_topi (fun v5 (e5 : v5 = FL19 22 ((6 * a1) + (nI jL19)).toNatClampNeg) => ?_)
      rw [((tn_lin (k := 6) (a := 120) (b := 6) (m := 6) hb0 (vp_in_nI (show jL19 < 6 by omega) (by decide)) rfl (by decide)).trans (by rw [(nI_clamp (by omega))]))] at e5
      refine lv_aload_n hx hb dX8_comes_38 rfl (lv_at hl 2 rfl) ?_
      refine va_get (D := (dC, dI)) (ci := 7) (v := .ref (q 23)) (C := RX8) (T := TX8) (N := 37) hx hb hts hinX8 hown hK hP 0 rfl rfl 23 (by decide) (hts (.fieldLink RX8 67 "FurPostsModel" "sent" "[I") (by decide +kernel)) (fun _ h9 => h9) rfl dX8_comes_39 ?_
      refine lv_iload_n hx hb dX8_comes_42 rfl (lv_at hl 0 rfl) ?_
      refine va_iald hx hb hK hP 20 0 rfl rfl (i := ((6 * a1) + (nI jL19))) (vp_lin (a := 120) (b := 6) (m := 6) hb0 (vp_in_nI (show jL19 < 6 by omega) (by decide)) rfl (by decide)) dX8_comes_43 ?_
      refine lv_topi (fun v6 (e6 : v6 = FL19 23 ((6 * a1) + (nI jL19)).toNatClampNeg) => ?_)
      rw [((tn_lin (k := 6) (a := 120) (b := 6) (m := 6) hb0 (vp_in_nI (show jL19 < 6 by omega) (by decide)) rfl (by decide)).trans (by rw [(nI_clamp (by omega))]))] at e6
      refine lv_icmp_eq (tgt := 54) hx hb dX8_comes_44 (by decide) (fun h_7 => ?_) (fun h_7 => ?_)
      · skip
        refine lv_aload_n hx hb dX8_comes_54 rfl (lv_at hl 2 rfl) ?_
        refine va_get (D := (dC, dI)) (ci := 7) (v := .ref (q 2)) (C := RX8) (T := TX8) (N := 37) hx hb hts hinX8 hown hK hP 0 rfl rfl 2 (by decide) (hts (.fieldLink RX8 9 "FurPostsModel" "store" "[I") (by decide +kernel)) (fun _ h9 => h9) rfl dX8_comes_55 ?_
        refine lv_bipush (v := 6) hx hb dX8_comes_58 (by decide) ?_
        refine lv_aload_n hx hb dX8_comes_60 rfl (lv_at hl 2 rfl) ?_
        refine va_get (D := (dC, dI)) (ci := 7) (v := .ref (q 15)) (C := RX8) (T := TX8) (N := 37) hx hb hts hinX8 hown hK hP 0 rfl rfl 15 (by decide) (hts (.fieldLink RX8 43 "FurPostsModel" "to" "[I") (by decide +kernel)) (fun _ h9 => h9) rfl dX8_comes_61 ?_
        refine lv_iload_n hx hb dX8_comes_64 rfl (lv_at hl 3 rfl) ?_
        refine va_iald hx hb hK hP 12 0 rfl rfl (i := a1) hb0 dX8_comes_65 ?_
        refine lv_topi (fun v8 (e8 : v8 = FL19 15 a1.toNatClampNeg) => ?_)
        refine lv_imul hx hb dX8_comes_66 ?_
        refine lv_iload_n hx hb dX8_comes_67 rfl (lv_at hl 1 rfl) ?_
        refine lv_iadd hx hb dX8_comes_68 ?_
        refine lv_dup2_11 hx hb dX8_comes_69 rfl rfl ?_
        refine va_iald hx hb hK hP 1 0 rfl rfl (i := ((6 * v8) + (nI jL19))) (vp_lin (a := 8) (b := 6) (m := 6) (by rw [e8]; exact hIz19.2.2.1 _) (vp_in_nI (show jL19 < 6 by omega) (by decide)) rfl (by decide)) dX8_comes_70 ?_
        refine lv_topi (fun v9 (e9 : v9 = FL19 2 ((6 * v8) + (nI jL19)).toNatClampNeg) => ?_)
        rw [((tn_lin (k := 6) (a := 8) (b := 6) (m := 6) (by rw [e8]; exact hIz19.2.2.1 _) (vp_in_nI (show jL19 < 6 by omega) (by decide)) rfl (by decide)).trans (by rw [(nI_clamp (by omega))]))] at e9
        refine lv_aload_n hx hb dX8_comes_71 rfl (lv_at hl 2 rfl) ?_
        refine va_get (D := (dC, dI)) (ci := 7) (v := .ref (q 22)) (C := RX8) (T := TX8) (N := 37) hx hb hts hinX8 hown hK hP 0 rfl rfl 22 (by decide) (hts (.fieldLink RX8 64 "FurPostsModel" "has" "[I") (by decide +kernel)) (fun _ h9 => h9) rfl dX8_comes_72 ?_
        refine lv_iload_n hx hb dX8_comes_75 rfl (lv_at hl 0 rfl) ?_
        refine va_iald hx hb hK hP 19 0 rfl rfl (i := ((6 * a1) + (nI jL19))) (vp_lin (a := 120) (b := 6) (m := 6) hb0 (vp_in_nI (show jL19 < 6 by omega) (by decide)) rfl (by decide)) dX8_comes_76 ?_
        refine lv_topi (fun v10 (e10 : v10 = FL19 22 ((6 * a1) + (nI jL19)).toNatClampNeg) => ?_)
        rw [((tn_lin (k := 6) (a := 120) (b := 6) (m := 6) hb0 (vp_in_nI (show jL19 < 6 by omega) (by decide)) rfl (by decide)).trans (by rw [(nI_clamp (by omega))]))] at e10
        refine lv_iadd hx hb dX8_comes_77 ?_
        refine va_iast hx hb hK hP hD hS 1 0 rfl rfl (i := ((6 * v8) + (nI jL19))) (x := (v9 + v10)) (vp_lin (a := 8) (b := 6) (m := 6) (by rw [e8]; exact hIz19.2.2.1 _) (vp_in_nI (show jL19 < 6 by omega) (by decide)) rfl (by decide)) dX8_comes_78 (fun H locs hP2 hD2 hS => ?_)
        obtain ⟨F11, e11, hP, hD, hI11⟩ : ∃ F11 : Nat → Nat → Int32, F11 = up2 FL19 2 ((6 * v8) + (nI jL19)).toNatClampNeg (v9 + v10) ∧ va_P (dC, dI) vwCl (mw_ h0 q n (F11 44 0) cI cZ F11) H ∧ va_D A (mw_ h0 q n (F11 44 0) cI cZ F11) ∧ mi_ n F11 := ⟨_, rfl, hP2, hD2, hIz19⟩
        rw [((tn_lin (k := 6) (a := 8) (b := 6) (m := 6) (by rw [e8]; exact hIz19.2.2.1 _) (vp_in_nI (show jL19 < 6 by omega) (by decide)) rfl (by decide)).trans (by rw [(nI_clamp (by omega))]))] at e11
        refine lv_aload_n hx hb dX8_comes_79 rfl (lv_at hl 2 rfl) ?_
        refine va_get (D := (dC, dI)) (ci := 7) (v := .ref (q 22)) (C := RX8) (T := TX8) (N := 37) hx hb hts hinX8 hown hK hP 0 rfl rfl 22 (by decide) (hts (.fieldLink RX8 64 "FurPostsModel" "has" "[I") (by decide +kernel)) (fun _ h9 => h9) rfl dX8_comes_80 ?_
        refine lv_iload_n hx hb dX8_comes_83 rfl (lv_at hl 0 rfl) ?_
        refine lv_iconst (v := 0) hx hb dX8_comes_84 (by decide) ?_
        refine va_iast hx hb hK hP hD hS 19 0 rfl rfl (i := ((6 * a1) + (nI jL19))) (x := 0) (vp_lin (a := 120) (b := 6) (m := 6) hb0 (vp_in_nI (show jL19 < 6 by omega) (by decide)) rfl (by decide)) dX8_comes_85 (fun H locs hP2 hD2 hS => ?_)
        obtain ⟨F12, e12, hP, hD, hI12⟩ : ∃ F12 : Nat → Nat → Int32, F12 = up2 F11 22 ((6 * a1) + (nI jL19)).toNatClampNeg 0 ∧ va_P (dC, dI) vwCl (mw_ h0 q n (F12 44 0) cI cZ F12) H ∧ va_D A (mw_ h0 q n (F12 44 0) cI cZ F12) ∧ mi_ n F12 := ⟨_, rfl, hP2, hD2, hI11⟩
        rw [((tn_lin (k := 6) (a := 120) (b := 6) (m := 6) hb0 (vp_in_nI (show jL19 < 6 by omega) (by decide)) rfl (by decide)).trans (by rw [(nI_clamp (by omega))]))] at e12
        refine lv_iinc (v := (nI (jL19 + 1))) (lv' := [(2, .int (nI (jL19 + 1))), (3, .int ((6 * a1) + (nI jL19))), (0, .ref h0), (1, .int a1)]) hx hb dX8_comes_86 hl (k := 1) rfl (show nI jL19 + 1 = nI (jL19 + 1) from nI_1 jL19) (by decide) rfl (fun ls hl => ?_)
        refine lv_goto (tgt := 19) hx hb dX8_comes_89 (by decide) ?_
        have hI19 : (rM_comes_L19 a1 (k + 1) jL19 FL19) = (rM_comes_L19 a1 k (jL19 + 1) F12) := by subst e12 e11 e10 e9 e8 e6 e5 e2 e1; exact (if_pos h_7)
        exact ih19 (jL19 + 1) F12 H locs ls (by omega) hP hD hI12 hS (lv_sub hl [0, 2, 3] rfl) (by rw [← hI19]; exact hex)
      · skip
        refine lv_aload_n hx hb dX8_comes_47 rfl (lv_at hl 2 rfl) ?_
        refine va_get (D := (dC, dI)) (ci := 7) (v := .ref (q 24)) (C := RX8) (T := TX8) (N := 37) hx hb hts hinX8 hown hK hP 0 rfl rfl 24 (by decide) (hts (.fieldLink RX8 70 "FurPostsModel" "isOther" "[Z") (by decide +kernel)) (fun _ h9 => h9) rfl dX8_comes_48 ?_
        refine lv_iload_n hx hb dX8_comes_51 rfl (lv_at hl 3 rfl) ?_
        refine lv_iconst (v := 1) hx hb dX8_comes_52 (by decide) ?_
        refine va_zast hx hb hK hP hD hS 21 1 rfl rfl (i := a1) (x := 1) hb0 dX8_comes_53 (fun H locs hP2 hD2 hS => ?_)
        obtain ⟨F13, e13, hP, hD, hI13⟩ : ∃ F13 : Nat → Nat → Int32, F13 = up2 FL19 24 a1.toNatClampNeg 1 ∧ va_P (dC, dI) vwCl (mw_ h0 q n (F13 44 0) cI cZ F13) H ∧ va_D A (mw_ h0 q n (F13 44 0) cI cZ F13) ∧ mi_ n F13 := ⟨_, rfl, hP2, hD2, hIz19⟩
        refine lv_aload_n hx hb dX8_comes_54 rfl (lv_at hl 2 rfl) ?_
        refine va_get (D := (dC, dI)) (ci := 7) (v := .ref (q 2)) (C := RX8) (T := TX8) (N := 37) hx hb hts hinX8 hown hK hP 0 rfl rfl 2 (by decide) (hts (.fieldLink RX8 9 "FurPostsModel" "store" "[I") (by decide +kernel)) (fun _ h9 => h9) rfl dX8_comes_55 ?_
        refine lv_bipush (v := 6) hx hb dX8_comes_58 (by decide) ?_
        refine lv_aload_n hx hb dX8_comes_60 rfl (lv_at hl 2 rfl) ?_
        refine va_get (D := (dC, dI)) (ci := 7) (v := .ref (q 15)) (C := RX8) (T := TX8) (N := 37) hx hb hts hinX8 hown hK hP 0 rfl rfl 15 (by decide) (hts (.fieldLink RX8 43 "FurPostsModel" "to" "[I") (by decide +kernel)) (fun _ h9 => h9) rfl dX8_comes_61 ?_
        refine lv_iload_n hx hb dX8_comes_64 rfl (lv_at hl 3 rfl) ?_
        refine va_iald hx hb hK hP 12 0 rfl rfl (i := a1) hb0 dX8_comes_65 ?_
        refine lv_topi (fun v14 (e14 : v14 = F13 15 a1.toNatClampNeg) => ?_)
        refine lv_imul hx hb dX8_comes_66 ?_
        refine lv_iload_n hx hb dX8_comes_67 rfl (lv_at hl 1 rfl) ?_
        refine lv_iadd hx hb dX8_comes_68 ?_
        refine lv_dup2_11 hx hb dX8_comes_69 rfl rfl ?_
        refine va_iald hx hb hK hP 1 0 rfl rfl (i := ((6 * v14) + (nI jL19))) (vp_lin (a := 8) (b := 6) (m := 6) (by rw [e14]; exact hI13.2.2.1 _) (vp_in_nI (show jL19 < 6 by omega) (by decide)) rfl (by decide)) dX8_comes_70 ?_
        refine lv_topi (fun v15 (e15 : v15 = F13 2 ((6 * v14) + (nI jL19)).toNatClampNeg) => ?_)
        rw [((tn_lin (k := 6) (a := 8) (b := 6) (m := 6) (by rw [e14]; exact hI13.2.2.1 _) (vp_in_nI (show jL19 < 6 by omega) (by decide)) rfl (by decide)).trans (by rw [(nI_clamp (by omega))]))] at e15
        refine lv_aload_n hx hb dX8_comes_71 rfl (lv_at hl 2 rfl) ?_
        refine va_get (D := (dC, dI)) (ci := 7) (v := .ref (q 22)) (C := RX8) (T := TX8) (N := 37) hx hb hts hinX8 hown hK hP 0 rfl rfl 22 (by decide) (hts (.fieldLink RX8 64 "FurPostsModel" "has" "[I") (by decide +kernel)) (fun _ h9 => h9) rfl dX8_comes_72 ?_
        refine lv_iload_n hx hb dX8_comes_75 rfl (lv_at hl 0 rfl) ?_
        refine va_iald hx hb hK hP 19 0 rfl rfl (i := ((6 * a1) + (nI jL19))) (vp_lin (a := 120) (b := 6) (m := 6) hb0 (vp_in_nI (show jL19 < 6 by omega) (by decide)) rfl (by decide)) dX8_comes_76 ?_
        refine lv_topi (fun v16 (e16 : v16 = F13 22 ((6 * a1) + (nI jL19)).toNatClampNeg) => ?_)
        rw [((tn_lin (k := 6) (a := 120) (b := 6) (m := 6) hb0 (vp_in_nI (show jL19 < 6 by omega) (by decide)) rfl (by decide)).trans (by rw [(nI_clamp (by omega))]))] at e16
        refine lv_iadd hx hb dX8_comes_77 ?_
        refine va_iast hx hb hK hP hD hS 1 0 rfl rfl (i := ((6 * v14) + (nI jL19))) (x := (v15 + v16)) (vp_lin (a := 8) (b := 6) (m := 6) (by rw [e14]; exact hI13.2.2.1 _) (vp_in_nI (show jL19 < 6 by omega) (by decide)) rfl (by decide)) dX8_comes_78 (fun H locs hP2 hD2 hS => ?_)
        obtain ⟨F17, e17, hP, hD, hI17⟩ : ∃ F17 : Nat → Nat → Int32, F17 = up2 F13 2 ((6 * v14) + (nI jL19)).toNatClampNeg (v15 + v16) ∧ va_P (dC, dI) vwCl (mw_ h0 q n (F17 44 0) cI cZ F17) H ∧ va_D A (mw_ h0 q n (F17 44 0) cI cZ F17) ∧ mi_ n F17 := ⟨_, rfl, hP2, hD2, hI13⟩
        rw [((tn_lin (k := 6) (a := 8) (b := 6) (m := 6) (by rw [e14]; exact hI13.2.2.1 _) (vp_in_nI (show jL19 < 6 by omega) (by decide)) rfl (by decide)).trans (by rw [(nI_clamp (by omega))]))] at e17
        refine lv_aload_n hx hb dX8_comes_79 rfl (lv_at hl 2 rfl) ?_
        refine va_get (D := (dC, dI)) (ci := 7) (v := .ref (q 22)) (C := RX8) (T := TX8) (N := 37) hx hb hts hinX8 hown hK hP 0 rfl rfl 22 (by decide) (hts (.fieldLink RX8 64 "FurPostsModel" "has" "[I") (by decide +kernel)) (fun _ h9 => h9) rfl dX8_comes_80 ?_
        refine lv_iload_n hx hb dX8_comes_83 rfl (lv_at hl 0 rfl) ?_
        refine lv_iconst (v := 0) hx hb dX8_comes_84 (by decide) ?_
        refine va_iast hx hb hK hP hD hS 19 0 rfl rfl (i := ((6 * a1) + (nI jL19))) (x := 0) (vp_lin (a := 120) (b := 6) (m := 6) hb0 (vp_in_nI (show jL19 < 6 by omega) (by decide)) rfl (by decide)) dX8_comes_85 (fun H locs hP2 hD2 hS => ?_)
        obtain ⟨F18, e18, hP, hD, hI18⟩ : ∃ F18 : Nat → Nat → Int32, F18 = up2 F17 22 ((6 * a1) + (nI jL19)).toNatClampNeg 0 ∧ va_P (dC, dI) vwCl (mw_ h0 q n (F18 44 0) cI cZ F18) H ∧ va_D A (mw_ h0 q n (F18 44 0) cI cZ F18) ∧ mi_ n F18 := ⟨_, rfl, hP2, hD2, hI17⟩
        rw [((tn_lin (k := 6) (a := 120) (b := 6) (m := 6) hb0 (vp_in_nI (show jL19 < 6 by omega) (by decide)) rfl (by decide)).trans (by rw [(nI_clamp (by omega))]))] at e18
        refine lv_iinc (v := (nI (jL19 + 1))) (lv' := [(2, .int (nI (jL19 + 1))), (3, .int ((6 * a1) + (nI jL19))), (0, .ref h0), (1, .int a1)]) hx hb dX8_comes_86 hl (k := 1) rfl (show nI jL19 + 1 = nI (jL19 + 1) from nI_1 jL19) (by decide) rfl (fun ls hl => ?_)
        refine lv_goto (tgt := 19) hx hb dX8_comes_89 (by decide) ?_
        have hI19 : (rM_comes_L19 a1 (k + 1) jL19 FL19) = (rM_comes_L19 a1 k (jL19 + 1) F18) := by subst e18 e17 e16 e15 e14 e13 e6 e5 e2 e1; exact (if_neg h_7)
        exact ih19 (jL19 + 1) F18 H locs ls (by omega) hP hD hI18 hS (lv_sub hl [0, 2, 3] rfl) (by rw [← hI19]; exact hex)
  refine key19 6 0 F2 H locs ls (by omega) hP hD hI2 hS (lv_sub hl [0, 1, 2] rfl) (fun H locs ls hP hD hIz19 hS hl => ?_)
  obtain ⟨F19, e19, hP, hD, hI19⟩ : ∃ F19 : Nat → Nat → Int32, F19 = (rM_comes_L19 a1 6 0 F2) ∧ va_P (dC, dI) vwCl (mw_ h0 q n (F19 44 0) cI cZ F19) H ∧ va_D A (mw_ h0 q n (F19 44 0) cI cZ F19) ∧ mi_ n F19 := ⟨_, rfl, hP, hD, hIz19⟩
  refine lv_iconst (v := 0) hx hb dX8_comes_92 (by decide) ?_
  refine lv_istore_n (lv' := [(2, .int 0), (0, .ref h0), (1, .int a1)]) hx hb dX8_comes_93 rfl hl (by decide) rfl (fun ls hl => ?_)
  have key94 : ∀ (k jL94 : Nat) (FL94 : Nat → Nat → Int32) (H : Heap) (locs : List Loc) (ls : Array Slot), jL94 + k = (n 4) → va_P (dC, dI) vwCl (mw_ h0 q n (FL94 44 0) cI cZ FL94) H → va_D A (mw_ h0 q n (FL94 44 0) cI cZ FL94) → mi_ n FL94 → va_S A s.heap H locs → lv_has ls 4 [(2, .int (nI jL94)), (0, .ref h0), (1, .int a1)] → (∀ (H : Heap) (locs : List Loc) (ls : Array Slot), va_P (dC, dI) vwCl (mw_ h0 q n (((rM_comes_L94 a1 n k jL94 FL94)) 44 0) cI cZ ((rM_comes_L94 a1 n k jL94 FL94))) H → va_D A (mw_ h0 q n (((rM_comes_L94 a1 n k jL94 FL94)) 44 0) cI cZ ((rM_comes_L94 a1 n k jL94 FL94))) → mi_ n ((rM_comes_L94 a1 n k jL94 FL94)) → va_S A s.heap H locs → lv_has ls 4 [(2, .int (nI (n 4))), (0, .ref h0), (1, .int a1)] → W p l e (headSpec wsX8_comes ({ frames := 1, cells := 0, slots := 0, locals := 23 })).room s m [.ref h0, .int a1].toArray below meth c H locs 0 0 (MQ below (va_Qv (fun u : Nat → Nat → Int32 => u = rM_comes n F a1 ∧ va_D A (mw_ h0 q n (u 44 0) cI cZ u) ∧ mi_ n u) (fun u s' => va_P (dC, dI) vwCl (mw_ h0 q n (u 44 0) cI cZ u) s'.heap) A) [.ref h0, .int a1].toArray s 0 0 A) (F0 m 160 ls [])) → 
      W p l e (headSpec wsX8_comes ({ frames := 1, cells := 0, slots := 0, locals := 23 })).room s m [.ref h0, .int a1].toArray below meth c H locs 0 0 (MQ below (va_Qv (fun u : Nat → Nat → Int32 => u = rM_comes n F a1 ∧ va_D A (mw_ h0 q n (u 44 0) cI cZ u) ∧ mi_ n u) (fun u s' => va_P (dC, dI) vwCl (mw_ h0 q n (u 44 0) cI cZ u) s'.heap) A) [.ref h0, .int a1].toArray s 0 0 A) (F0 m 94 ls []) := by
    intro k
    induction k with
    | zero =>
      intro jL94 FL94 H locs ls hj hP hD hIz94 hS hl hex
      have hj : jL94 = (n 4) := by omega
      subst jL94
      refine lv_iload_n hx hb dX8_comes_94 rfl (lv_at hl 0 rfl) ?_
      refine lv_aload_n hx hb dX8_comes_95 rfl (lv_at hl 1 rfl) ?_
      refine va_get (D := (dC, dI)) (ci := 7) (v := .int (nI (n 4))) (C := RX8) (T := TX8) (N := 37) hx hb hts hinX8 hown hK hP 0 rfl rfl 25 (by decide) (hts (.fieldLink RX8 144 "FurPostsModel" "letters" "I") (by decide +kernel)) (fun _ h9 => h9) rfl dX8_comes_96 ?_
      refine lv_icmp_ge (tgt := 160) hx hb dX8_comes_99 (by decide) (fun h_20 => ?_) (fun h_20 => absurd (lp_ge0 (B := (n 4)) rfl) h_20)
      exact hex H locs ls hP hD hIz94 hS (lv_sub hl [0, 1, 2] rfl)
    | succ k ih94 =>
      intro jL94 FL94 H locs ls hj hP hD hIz94 hS hl hex
      have hj94 : jL94 < (n 4) := by omega
      refine lv_iload_n hx hb dX8_comes_94 rfl (lv_at hl 0 rfl) ?_
      refine lv_aload_n hx hb dX8_comes_95 rfl (lv_at hl 1 rfl) ?_
      refine va_get (D := (dC, dI)) (ci := 7) (v := .int (nI (n 4))) (C := RX8) (T := TX8) (N := 37) hx hb hts hinX8 hown hK hP 0 rfl rfl 25 (by decide) (hts (.fieldLink RX8 144 "FurPostsModel" "letters" "I") (by decide +kernel)) (fun _ h9 => h9) rfl dX8_comes_96 ?_
      refine lv_icmp_ge (tgt := 160) hx hb dX8_comes_99 (by decide) (fun h_21 => absurd h_21 (lp_ge (B := (n 4)) (by omega) (by omega) rfl)) (fun h_21 => ?_)
      refine lv_aload_n hx hb dX8_comes_102 rfl (lv_at hl 1 rfl) ?_
      refine va_get (D := (dC, dI)) (ci := 7) (v := .ref (q 28)) (C := RX8) (T := TX8) (N := 37) hx hb hts hinX8 hown hK hP 0 rfl rfl 28 (by decide) (hts (.fieldLink RX8 80 "FurPostsModel" "letterAt" "[I") (by decide +kernel)) (fun _ h9 => h9) rfl dX8_comes_103 ?_
      refine lv_iload_n hx hb dX8_comes_106 rfl (lv_at hl 0 rfl) ?_
      refine va_iald hx hb hK hP 24 0 rfl rfl (i := (nI jL94)) (vp_in_nI (show jL94 < 300 by omega) (by decide)) dX8_comes_107 ?_
      refine lv_topi (fun v22 (e22 : v22 = FL94 28 (nI jL94).toNatClampNeg) => ?_)
      rw [(nI_clamp (by omega))] at e22
      refine lv_sipush (v := 2000) hx hb dX8_comes_108 (by decide) ?_
      refine lv_iload_n hx hb dX8_comes_111 rfl (lv_at hl 2 rfl) ?_
      refine lv_iadd hx hb dX8_comes_112 ?_
      refine lv_icmp_eq (tgt := 119) hx hb dX8_comes_113 (by decide) (fun h_23 => ?_) (fun h_23 => ?_)
      · skip
        refine lv_aload_n hx hb dX8_comes_119 rfl (lv_at hl 1 rfl) ?_
        refine va_get (D := (dC, dI)) (ci := 7) (v := .ref (q 27)) (C := RX8) (T := TX8) (N := 37) hx hb hts hinX8 hown hK hP 0 rfl rfl 27 (by decide) (hts (.fieldLink RX8 77 "FurPostsModel" "letterTo" "[I") (by decide +kernel)) (fun _ h9 => h9) rfl dX8_comes_120 ?_
        refine lv_iload_n hx hb dX8_comes_123 rfl (lv_at hl 0 rfl) ?_
        refine va_iald hx hb hK hP 23 0 rfl rfl (i := (nI jL94)) (vp_in_nI (show jL94 < 300 by omega) (by decide)) dX8_comes_124 ?_
        refine lv_topi (fun v24 (e24 : v24 = FL94 27 (nI jL94).toNatClampNeg) => ?_)
        rw [(nI_clamp (by omega))] at e24
        refine lv_aload_n hx hb dX8_comes_125 rfl (lv_at hl 1 rfl) ?_
        refine va_get (D := (dC, dI)) (ci := 7) (v := .ref (q 15)) (C := RX8) (T := TX8) (N := 37) hx hb hts hinX8 hown hK hP 0 rfl rfl 15 (by decide) (hts (.fieldLink RX8 43 "FurPostsModel" "to" "[I") (by decide +kernel)) (fun _ h9 => h9) rfl dX8_comes_126 ?_
        refine lv_iload_n hx hb dX8_comes_129 rfl (lv_at hl 2 rfl) ?_
        refine va_iald hx hb hK hP 12 0 rfl rfl (i := a1) hb0 dX8_comes_130 ?_
        refine lv_topi (fun v25 (e25 : v25 = FL94 15 a1.toNatClampNeg) => ?_)
        refine lv_icmp_ne (tgt := 142) hx hb dX8_comes_131 (by decide) (fun h_26 => ?_) (fun h_26 => ?_)
        · skip
          refine lv_aload_n hx hb dX8_comes_142 rfl (lv_at hl 1 rfl) ?_
          refine va_get (D := (dC, dI)) (ci := 7) (v := .ref (q 28)) (C := RX8) (T := TX8) (N := 37) hx hb hts hinX8 hown hK hP 0 rfl rfl 28 (by decide) (hts (.fieldLink RX8 80 "FurPostsModel" "letterAt" "[I") (by decide +kernel)) (fun _ h9 => h9) rfl dX8_comes_143 ?_
          refine lv_iload_n hx hb dX8_comes_146 rfl (lv_at hl 0 rfl) ?_
          refine lv_aload_n hx hb dX8_comes_147 rfl (lv_at hl 1 rfl) ?_
          refine va_get (D := (dC, dI)) (ci := 7) (v := .ref (q 15)) (C := RX8) (T := TX8) (N := 37) hx hb hts hinX8 hown hK hP 0 rfl rfl 15 (by decide) (hts (.fieldLink RX8 43 "FurPostsModel" "to" "[I") (by decide +kernel)) (fun _ h9 => h9) rfl dX8_comes_148 ?_
          refine lv_iload_n hx hb dX8_comes_151 rfl (lv_at hl 2 rfl) ?_
          refine va_iald hx hb hK hP 12 0 rfl rfl (i := a1) hb0 dX8_comes_152 ?_
          refine lv_topi (fun v27 (e27 : v27 = FL94 15 a1.toNatClampNeg) => ?_)
          refine va_iast hx hb hK hP hD hS 24 0 rfl rfl (i := (nI jL94)) (x := v27) (vp_in_nI (show jL94 < 300 by omega) (by decide)) dX8_comes_153 (fun H locs hP2 hD2 hS => ?_)
          obtain ⟨F28, e28, hP, hD, hI28⟩ : ∃ F28 : Nat → Nat → Int32, F28 = up2 FL94 28 (nI jL94).toNatClampNeg v27 ∧ va_P (dC, dI) vwCl (mw_ h0 q n (F28 44 0) cI cZ F28) H ∧ va_D A (mw_ h0 q n (F28 44 0) cI cZ F28) ∧ mi_ n F28 := ⟨_, rfl, hP2, hD2, hIz94⟩
          rw [(nI_clamp (by omega))] at e28
          refine lv_iinc (v := (nI (jL94 + 1))) (lv' := [(2, .int (nI (jL94 + 1))), (0, .ref h0), (1, .int a1)]) hx hb dX8_comes_154 hl (k := 0) rfl (show nI jL94 + 1 = nI (jL94 + 1) from nI_1 jL94) (by decide) rfl (fun ls hl => ?_)
          refine lv_goto (tgt := 94) hx hb dX8_comes_157 (by decide) ?_
          have hI94 : (rM_comes_L94 a1 n (k + 1) jL94 FL94) = (rM_comes_L94 a1 n k (jL94 + 1) F28) := by subst e28 e27 e25 e24 e22 e19 e2 e1; exact (if_pos h_23).trans (if_neg h_26)
          exact ih94 (jL94 + 1) F28 H locs ls (by omega) hP hD hI28 hS (lv_sub hl [0, 1, 2] rfl) (by rw [← hI94]; exact hex)
        · skip
          refine lv_aload_n hx hb dX8_comes_134 rfl (lv_at hl 1 rfl) ?_
          refine lv_iload_n hx hb dX8_comes_135 rfl (lv_at hl 0 rfl) ?_
          refine va_callv (va_runV (As := [.int (nI jL94)]) (rest := []) ⟨hx, hb, hml, hown, hts⟩ (m_X8_reads l dC dI h0 q n cI cZ FL94 hIz94 hN A hD (nI jL94) (vp_in_nI (show jL94 < 300 by omega) (by decide)) (by rw [nI_clamp (by omega)]; omega)) (cwV 1 hts gX8_comes_X8_reads rfl rfl rfl (by decide +kernel) ⟨Nat.le_of_ble_eq_true rfl, Nat.le_of_ble_eq_true rfl⟩) (pu_pre hP hK (ci := 7) (q0 := 0) rfl rfl) rfl rfl hl.1 rfl (lv_room (Nat.le_of_ble_eq_true rfl)) dX8_comes_136 ⟨Nat.le_of_ble_eq_true rfl, Nat.le_of_ble_eq_true rfl⟩) hS (fun _ _ h => h) (fun _ h => h) (fun u29 st29 H locs ht29 hvm29 hw29 hB29 hz29 hk29 hS => ?_)
          obtain ⟨hq29, hD29, hI29⟩ := hw29
          obtain ⟨F29, e29, hP, hD, hI29⟩ : ∃ F29 : Nat → Nat → Int32, F29 = (rM_reads n FL94 (nI jL94)) ∧ va_P (dC, dI) vwCl (mw_ h0 q n (F29 44 0) cI cZ F29) H ∧ va_D A (mw_ h0 q n (F29 44 0) cI cZ F29) ∧ mi_ n F29 := ⟨u29, hq29, by rw [← ht29]; exact hB29, hD29, hI29⟩
          refine lv_goto (tgt := 154) hx hb dX8_comes_139 (by decide) ?_
          refine lv_iinc (v := (nI (jL94 + 1))) (lv' := [(2, .int (nI (jL94 + 1))), (0, .ref h0), (1, .int a1)]) hx hb dX8_comes_154 hl (k := 0) rfl (show nI jL94 + 1 = nI (jL94 + 1) from nI_1 jL94) (by decide) rfl (fun ls hl => ?_)
          refine lv_goto (tgt := 94) hx hb dX8_comes_157 (by decide) ?_
          have hI94 : (rM_comes_L94 a1 n (k + 1) jL94 FL94) = (rM_comes_L94 a1 n k (jL94 + 1) F29) := by subst e29 e25 e24 e22 e19 e2 e1; exact (if_pos h_23).trans (if_pos h_26)
          exact ih94 (jL94 + 1) F29 H locs ls (by omega) hP hD hI29 hS (lv_sub hl [0, 1, 2] rfl) (by rw [← hI94]; exact hex)
      · skip
        refine lv_goto (tgt := 154) hx hb dX8_comes_116 (by decide) ?_
        refine lv_iinc (v := (nI (jL94 + 1))) (lv' := [(2, .int (nI (jL94 + 1))), (0, .ref h0), (1, .int a1)]) hx hb dX8_comes_154 hl (k := 0) rfl (show nI jL94 + 1 = nI (jL94 + 1) from nI_1 jL94) (by decide) rfl (fun ls hl => ?_)
        refine lv_goto (tgt := 94) hx hb dX8_comes_157 (by decide) ?_
        have hI94 : (rM_comes_L94 a1 n (k + 1) jL94 FL94) = (rM_comes_L94 a1 n k (jL94 + 1) FL94) := by subst e22 e19 e2 e1; exact (if_neg h_23)
        exact ih94 (jL94 + 1) FL94 H locs ls (by omega) hP hD hIz94 hS (lv_sub hl [0, 1, 2] rfl) (by rw [← hI94]; exact hex)
  refine key94 (n 4) 0 F19 H locs ls (by omega) hP hD hI19 hS (lv_sub hl [0, 1, 2] rfl) (fun H locs ls hP hD hIz94 hS hl => ?_)
  obtain ⟨F30, e30, hP, hD, hI30⟩ : ∃ F30 : Nat → Nat → Int32, F30 = (rM_comes_L94 a1 n (n 4) 0 F19) ∧ va_P (dC, dI) vwCl (mw_ h0 q n (F30 44 0) cI cZ F30) H ∧ va_D A (mw_ h0 q n (F30 44 0) cI cZ F30) ∧ mi_ n F30 := ⟨_, rfl, hP, hD, hIz94⟩
  have hq31 : rM_comes n F a1 = F30 := by subst e30 e19 e2 e1; exact rfl
  exact W.vret hx hb hr (fun t9 ht hW => ⟨⟨F30, rfl, ⟨hq31.symm, hD, hI30⟩, by show va_P (dC, dI) vwCl _ t9.heap; rw [ht]; exact hP⟩, hS.F ht⟩) hS.2.2 dX8_comes_160

set_option maxHeartbeats 8000000 in
set_option maxRecDepth 100000 in
theorem m_X8_go (l : Launch) (dC : Nat → ClassId) (dI : Nat → Nat → Nat) (h0 : Nat) (q n : Nat → Nat) (cI cZ : ClassId) (F : Nat → Nat → Int32) (hI : mi_ n F) (hN : nb_ n) (A : Nat → Prop) (hD : va_D A (mw_ h0 q n (F 44 0) cI cZ F)) (a1 : Int32) : Met l yX8_go wsX8_go ({ frames := 2, cells := 0, slots := 0, locals := 46 }) (va_Pc [.ref h0, .int a1] (pu_P (dC, dI) vwCl (mt_ cI cZ) (mw_ h0 q n (F 44 0) cI cZ F))) (va_Qi (fun r (u : (Nat → Nat) × (Nat → Nat → Int32)) => (r, u) = rM_go n F a1 ∧ va_D A (mw_ h0 q u.1 (u.2 44 0) cI cZ u.2) ∧ mi_ u.1 u.2 ∧ nb_ u.1) (fun u s' => va_P (dC, dI) vwCl (mw_ h0 q u.1 (u.2 44 0) cI cZ u.2) s'.heap) A) 0 0 A := by
  refine Met.ofW (cc := cX8_go) (maxL := 4) (ret := (some .int)) (by decide) rfl ?_
  intro p e s m args below meth c s₁ B hml hv
  obtain ⟨rfl, hP, hK⟩ := hv
  have hx := B.exec
  have hb := B.bytes
  have hr := B.returns
  have hts := atoms_spec (ws := wsX8_go) B.pre
  have hown : s.vm.findClass RX8 = some m.cls := findClass_of_methodNamed B.named
  have hlocks := B.notSynchronized
  have hinX8 : ∀ w ∈ u_ws RX8 TX8 37, w ∈ wsX8_go := by decide +kernel
  have hS : va_S A s.heap s.heap [] := va_S.rf
  have hl := lv_entry ([.ref h0, .int a1]) (n := 4) (Nat.le_of_ble_eq_true rfl)
  rw [lg_entry_eq]
  generalize (lg_sl ([.ref h0, .int a1]) ++ List.replicate (4 - (lg_sl ([.ref h0, .int a1])).length) Slot.unset).toArray = ls at hl ⊢
  have hl : lv_has ls 4 [(0, .ref h0), (1, .int a1)] := hl
  obtain ⟨H, hH, hP, hS⟩ : ∃ H, H = s.heap ∧ va_P (dC, dI) vwCl (mw_ h0 q n (F 44 0) cI cZ F) H ∧ va_S A s.heap H [] := ⟨_, rfl, hP, hS⟩
  rw [← hH]
  generalize ([] : List Loc) = locs at hS ⊢
  refine lv_iload_n hx hb dX8_go_0 rfl (lv_at hl 1 rfl) ?_
  refine lv_iconst (v := 0) hx hb dX8_go_1 (by decide) ?_
  refine lv_sipush (v := 400) hx hb dX8_go_2 (by decide) ?_
  refine pu_call (va_runS (As := [.int a1, .int 0, .int 400]) (rest := []) ⟨hx, hb, hml, hown, hts⟩ (c_X8_in l a1 0 400) (va_cwS 3 hts gX8_go_X8_in rfl rfl rfl (by decide +kernel) ⟨Nat.le_of_ble_eq_true rfl, Nat.le_of_ble_eq_true rfl⟩) pu_preS rfl rfl hl.1 rfl (lv_room (Nat.le_of_ble_eq_true rfl)) dX8_go_5 ⟨Nat.le_of_ble_eq_true rfl, Nat.le_of_ble_eq_true rfl⟩) ?_
  refine lv_if_ne (tgt := 13) hx hb dX8_go_8 (by decide) (fun h_1 => ?_) (fun h_1 => ?_)
  · skip
    have hM := sp_tn h_1 (n := 400) (by decide)
    refine lv_iconst (v := 0) hx hb dX8_go_13 (by decide) ?_
    refine lv_istore_n (lv' := [(2, .int 0), (0, .ref h0), (1, .int a1)]) hx hb dX8_go_14 rfl hl (by decide) rfl (fun ls hl => ?_)
    have key15 : ∀ (k jL15 : Nat) (nL15 : Nat → Nat) (FL15 : Nat → Nat → Int32) (H : Heap) (locs : List Loc) (ls : Array Slot), jL15 + k = a1.toNatClampNeg → rM_go n F a1 = (rM_go_L15  k jL15 nL15 FL15) → nb_ nL15 → va_P (dC, dI) vwCl (mw_ h0 q nL15 (FL15 44 0) cI cZ FL15) H → va_D A (mw_ h0 q nL15 (FL15 44 0) cI cZ FL15) → mi_ nL15 FL15 → va_S A s.heap H locs → lv_has ls 4 [(2, .int (nI jL15)), (0, .ref h0), (1, .int a1)] → 
        W p l e (headSpec wsX8_go ({ frames := 2, cells := 0, slots := 0, locals := 46 })).room s m [.ref h0, .int a1].toArray below meth c H locs 0 0 (MQ below (va_Qi (fun r (u : (Nat → Nat) × (Nat → Nat → Int32)) => (r, u) = rM_go n F a1 ∧ va_D A (mw_ h0 q u.1 (u.2 44 0) cI cZ u.2) ∧ mi_ u.1 u.2 ∧ nb_ u.1) (fun u s' => va_P (dC, dI) vwCl (mw_ h0 q u.1 (u.2 44 0) cI cZ u.2) s'.heap) A) [.ref h0, .int a1].toArray s 0 0 A) (F0 m 15 ls []) := by
      intro k
      induction k with
      | zero =>
        intro jL15 nL15 FL15 H locs ls hj hE15 hN hP hD hIz15 hS hl
        have hj : jL15 = a1.toNatClampNeg := by omega
        subst jL15
        refine lv_iload_n hx hb dX8_go_15 rfl (lv_at hl 0 rfl) ?_
        refine lv_iload_n hx hb dX8_go_16 rfl (lv_at hl 2 rfl) ?_
        refine lv_icmp_ge (tgt := 115) hx hb dX8_go_17 (by decide) (fun h_2 => ?_) (fun h_2 => absurd (lp_ge0 (B := a1.toNatClampNeg) hM.2) h_2)
        refine lv_aload_n hx hb dX8_go_115 rfl (lv_at hl 1 rfl) ?_
        refine va_get (D := (dC, dI)) (ci := 7) (v := .int (nI (nL15 0))) (C := RX8) (T := TX8) (N := 37) hx hb hts hinX8 hown hK hP 0 rfl rfl 0 (by decide) (hts (.fieldLink RX8 137 "FurPostsModel" "now" "I") (by decide +kernel)) (fun _ h9 => h9) rfl dX8_go_116 ?_
        have hq3 : rM_go n F a1 = ((nI (nL15 0)), nL15, FL15) := by exact hE15
        exact W.iret (v := (nI (nL15 0))) hx hb hr (fun t9 ht hW => ⟨⟨(nI (nL15 0)), (nL15, FL15), rfl, ⟨hq3.symm, hD, hIz15, hN⟩, by show va_P (dC, dI) vwCl _ t9.heap; rw [ht]; exact hP⟩, hS.F ht⟩) hS.2.2 dX8_go_119
      | succ k ih15 =>
        intro jL15 nL15 FL15 H locs ls hj hE15 hN hP hD hIz15 hS hl
        have hj15 : jL15 < a1.toNatClampNeg := by omega
        refine lv_iload_n hx hb dX8_go_15 rfl (lv_at hl 0 rfl) ?_
        refine lv_iload_n hx hb dX8_go_16 rfl (lv_at hl 2 rfl) ?_
        refine lv_icmp_ge (tgt := 115) hx hb dX8_go_17 (by decide) (fun h_4 => absurd h_4 (lp_ge (B := a1.toNatClampNeg) (by omega) (by omega) hM.2)) (fun h_4 => ?_)
        refine lv_aload_n hx hb dX8_go_20 rfl (lv_at hl 1 rfl) ?_
        refine va_get (D := (dC, dI)) (ci := 7) (v := .int (nI (nL15 0))) (C := RX8) (T := TX8) (N := 37) hx hb hts hinX8 hown hK hP 0 rfl rfl 0 (by decide) (hts (.fieldLink RX8 137 "FurPostsModel" "now" "I") (by decide +kernel)) (fun _ h9 => h9) rfl dX8_go_21 ?_
        refine lv_sipush (v := 3000) hx hb dX8_go_24 (by decide) ?_
        refine lv_icmp_ge (tgt := 115) hx hb dX8_go_27 (by decide) (fun h_5 => ?_) (fun h_5 => ?_)
        · skip
          refine lv_aload_n hx hb dX8_go_115 rfl (lv_at hl 1 rfl) ?_
          refine va_get (D := (dC, dI)) (ci := 7) (v := .int (nI (nL15 0))) (C := RX8) (T := TX8) (N := 37) hx hb hts hinX8 hown hK hP 0 rfl rfl 0 (by decide) (hts (.fieldLink RX8 137 "FurPostsModel" "now" "I") (by decide +kernel)) (fun _ h9 => h9) rfl dX8_go_116 ?_
          have hq6 : rM_go n F a1 = ((nI (nL15 0)), nL15, FL15) := by exact hE15.trans (if_pos h_5)
          exact W.iret (v := (nI (nL15 0))) hx hb hr (fun t9 ht hW => ⟨⟨(nI (nL15 0)), (nL15, FL15), rfl, ⟨hq6.symm, hD, hIz15, hN⟩, by show va_P (dC, dI) vwCl _ t9.heap; rw [ht]; exact hP⟩, hS.F ht⟩) hS.2.2 dX8_go_119
        · skip
          have h3000 := h_5
          refine lv_iconst (v := 0) hx hb dX8_go_30 (by decide) ?_
          refine lv_istore_n (lv' := [(3, .int 0), (2, .int (nI jL15)), (0, .ref h0), (1, .int a1)]) hx hb dX8_go_31 rfl hl (by decide) rfl (fun ls hl => ?_)
          have key32 : ∀ (k jL32 : Nat) (FL32 : Nat → Nat → Int32) (H : Heap) (locs : List Loc) (ls : Array Slot), jL32 + k = (nL15 3) → va_P (dC, dI) vwCl (mw_ h0 q nL15 (FL32 44 0) cI cZ FL32) H → va_D A (mw_ h0 q nL15 (FL32 44 0) cI cZ FL32) → mi_ nL15 FL32 → va_S A s.heap H locs → lv_has ls 4 [(3, .int (nI jL32)), (2, .int (nI jL15)), (0, .ref h0), (1, .int a1)] → (∀ (H : Heap) (locs : List Loc) (ls : Array Slot), va_P (dC, dI) vwCl (mw_ h0 q nL15 (((rM_go_L32 nL15 k jL32 FL32)) 44 0) cI cZ ((rM_go_L32 nL15 k jL32 FL32))) H → va_D A (mw_ h0 q nL15 (((rM_go_L32 nL15 k jL32 FL32)) 44 0) cI cZ ((rM_go_L32 nL15 k jL32 FL32))) → mi_ nL15 ((rM_go_L32 nL15 k jL32 FL32)) → va_S A s.heap H locs → lv_has ls 4 [(3, .int (nI (nL15 3))), (2, .int (nI jL15)), (0, .ref h0), (1, .int a1)] → W p l e (headSpec wsX8_go ({ frames := 2, cells := 0, slots := 0, locals := 46 })).room s m [.ref h0, .int a1].toArray below meth c H locs 0 0 (MQ below (va_Qi (fun r (u : (Nat → Nat) × (Nat → Nat → Int32)) => (r, u) = rM_go n F a1 ∧ va_D A (mw_ h0 q u.1 (u.2 44 0) cI cZ u.2) ∧ mi_ u.1 u.2 ∧ nb_ u.1) (fun u s' => va_P (dC, dI) vwCl (mw_ h0 q u.1 (u.2 44 0) cI cZ u.2) s'.heap) A) [.ref h0, .int a1].toArray s 0 0 A) (F0 m 99 ls [])) → 
              W p l e (headSpec wsX8_go ({ frames := 2, cells := 0, slots := 0, locals := 46 })).room s m [.ref h0, .int a1].toArray below meth c H locs 0 0 (MQ below (va_Qi (fun r (u : (Nat → Nat) × (Nat → Nat → Int32)) => (r, u) = rM_go n F a1 ∧ va_D A (mw_ h0 q u.1 (u.2 44 0) cI cZ u.2) ∧ mi_ u.1 u.2 ∧ nb_ u.1) (fun u s' => va_P (dC, dI) vwCl (mw_ h0 q u.1 (u.2 44 0) cI cZ u.2) s'.heap) A) [.ref h0, .int a1].toArray s 0 0 A) (F0 m 32 ls []) := by
            intro k
            induction k with
            | zero =>
              intro jL32 FL32 H locs ls hj hP hD hIz32 hS hl hex
              have hj : jL32 = (nL15 3) := by omega
              subst jL32
              refine lv_iload_n hx hb dX8_go_32 rfl (lv_at hl 0 rfl) ?_
              refine lv_aload_n hx hb dX8_go_33 rfl (lv_at hl 2 rfl) ?_
              refine va_get (D := (dC, dI)) (ci := 7) (v := .int (nI (nL15 3))) (C := RX8) (T := TX8) (N := 37) hx hb hts hinX8 hown hK hP 0 rfl rfl 13 (by decide) (hts (.fieldLink RX8 112 "FurPostsModel" "canoes" "I") (by decide +kernel)) (fun _ h9 => h9) rfl dX8_go_34 ?_
              refine lv_icmp_ge (tgt := 99) hx hb dX8_go_37 (by decide) (fun h_7 => ?_) (fun h_7 => absurd (lp_ge0 (B := (nL15 3)) rfl) h_7)
              exact hex H locs ls hP hD hIz32 hS (lv_sub hl [0, 1, 2, 3] rfl)
            | succ k ih32 =>
              intro jL32 FL32 H locs ls hj hP hD hIz32 hS hl hex
              have hj32 : jL32 < (nL15 3) := by omega
              refine lv_iload_n hx hb dX8_go_32 rfl (lv_at hl 0 rfl) ?_
              refine lv_aload_n hx hb dX8_go_33 rfl (lv_at hl 2 rfl) ?_
              refine va_get (D := (dC, dI)) (ci := 7) (v := .int (nI (nL15 3))) (C := RX8) (T := TX8) (N := 37) hx hb hts hinX8 hown hK hP 0 rfl rfl 13 (by decide) (hts (.fieldLink RX8 112 "FurPostsModel" "canoes" "I") (by decide +kernel)) (fun _ h9 => h9) rfl dX8_go_34 ?_
              refine lv_icmp_ge (tgt := 99) hx hb dX8_go_37 (by decide) (fun h_8 => absurd h_8 (lp_ge (B := (nL15 3)) (by omega) (by omega) rfl)) (fun h_8 => ?_)
              refine lv_aload_n hx hb dX8_go_40 rfl (lv_at hl 2 rfl) ?_
              refine va_get (D := (dC, dI)) (ci := 7) (v := .ref (q 18)) (C := RX8) (T := TX8) (N := 37) hx hb hts hinX8 hown hK hP 0 rfl rfl 18 (by decide) (hts (.fieldLink RX8 52 "FurPostsModel" "state" "[I") (by decide +kernel)) (fun _ h9 => h9) rfl dX8_go_41 ?_
              refine lv_iload_n hx hb dX8_go_44 rfl (lv_at hl 0 rfl) ?_
              refine va_iald hx hb hK hP 15 0 rfl rfl (i := (nI jL32)) (vp_in_nI (show jL32 < 120 by omega) (by decide)) dX8_go_45 ?_
              refine lv_topi (fun v9 (e9 : v9 = FL32 18 (nI jL32).toNatClampNeg) => ?_)
              rw [(nI_clamp (by omega))] at e9
              refine lv_if_ne (tgt := 93) hx hb dX8_go_46 (by decide) (fun h_10 => ?_) (fun h_10 => ?_)
              · skip
                refine lv_iinc (v := (nI (jL32 + 1))) (lv' := [(3, .int (nI (jL32 + 1))), (2, .int (nI jL15)), (0, .ref h0), (1, .int a1)]) hx hb dX8_go_93 hl (k := 0) rfl (show nI jL32 + 1 = nI (jL32 + 1) from nI_1 jL32) (by decide) rfl (fun ls hl => ?_)
                refine lv_goto (tgt := 32) hx hb dX8_go_96 (by decide) ?_
                have hI32 : (rM_go_L32 nL15 (k + 1) jL32 FL32) = (rM_go_L32 nL15 k (jL32 + 1) FL32) := by subst e9; exact (if_neg h_10)
                exact ih32 (jL32 + 1) FL32 H locs ls (by omega) hP hD hIz32 hS (lv_sub hl [0, 1, 2, 3] rfl) (by rw [← hI32]; exact hex)
              · skip
                refine lv_aload_n hx hb dX8_go_49 rfl (lv_at hl 2 rfl) ?_
                refine lv_aload_n hx hb dX8_go_50 rfl (lv_at hl 2 rfl) ?_
                refine va_get (D := (dC, dI)) (ci := 7) (v := .ref (q 16)) (C := RX8) (T := TX8) (N := 37) hx hb hts hinX8 hown hK hP 0 rfl rfl 16 (by decide) (hts (.fieldLink RX8 46 "FurPostsModel" "wayOf" "[I") (by decide +kernel)) (fun _ h9 => h9) rfl dX8_go_51 ?_
                refine lv_iload_n hx hb dX8_go_54 rfl (lv_at hl 0 rfl) ?_
                refine va_iald hx hb hK hP 13 0 rfl rfl (i := (nI jL32)) (vp_in_nI (show jL32 < 120 by omega) (by decide)) dX8_go_55 ?_
                refine lv_topi (fun v11 (e11 : v11 = FL32 16 (nI jL32).toNatClampNeg) => ?_)
                rw [(nI_clamp (by omega))] at e11
                refine lv_aload_n hx hb dX8_go_56 rfl (lv_at hl 2 rfl) ?_
                refine va_get (D := (dC, dI)) (ci := 7) (v := .int (nI (nL15 0))) (C := RX8) (T := TX8) (N := 37) hx hb hts hinX8 hown hK hP 0 rfl rfl 0 (by decide) (hts (.fieldLink RX8 137 "FurPostsModel" "now" "I") (by decide +kernel)) (fun _ h9 => h9) rfl dX8_go_57 ?_
                refine pu_call (va_runV (As := [.int v11, .int (nI (nL15 0))]) (rest := []) ⟨hx, hb, hml, hown, hts⟩ (k_X8_isOpen l dC dI h0 q nL15 cI cZ FL32 hIz32 hN v11 (nI (nL15 0)) (by rw [e11]; exact hIz32.2.2.2.1 _)) (cwV 2 hts gX8_go_X8_isOpen rfl rfl rfl (by decide +kernel) ⟨Nat.le_of_ble_eq_true rfl, Nat.le_of_ble_eq_true rfl⟩) (pu_pre hP hK (ci := 7) (q0 := 0) rfl rfl) rfl rfl hl.1 rfl (lv_room (Nat.le_of_ble_eq_true rfl)) dX8_go_60 ⟨Nat.le_of_ble_eq_true rfl, Nat.le_of_ble_eq_true rfl⟩) ?_
                refine lv_topi (fun r12 (e12 : r12 = rM_isOpen nL15 FL32 v11 (nI (nL15 0))) => ?_)
                refine lv_if_ne (tgt := 69) hx hb dX8_go_63 (by decide) (fun h_13 => ?_) (fun h_13 => ?_)
                · skip
                  refine lv_aload_n hx hb dX8_go_69 rfl (lv_at hl 2 rfl) ?_
                  refine va_get (D := (dC, dI)) (ci := 7) (v := .ref (q 17)) (C := RX8) (T := TX8) (N := 37) hx hb hts hinX8 hown hK hP 0 rfl rfl 17 (by decide) (hts (.fieldLink RX8 49 "FurPostsModel" "toGo" "[I") (by decide +kernel)) (fun _ h9 => h9) rfl dX8_go_70 ?_
                  refine lv_iload_n hx hb dX8_go_73 rfl (lv_at hl 0 rfl) ?_
                  refine lv_dup2_11 hx hb dX8_go_74 rfl rfl ?_
                  refine va_iald hx hb hK hP 14 0 rfl rfl (i := (nI jL32)) (vp_in_nI (show jL32 < 120 by omega) (by decide)) dX8_go_75 ?_
                  refine lv_topi (fun v14 (e14 : v14 = FL32 17 (nI jL32).toNatClampNeg) => ?_)
                  rw [(nI_clamp (by omega))] at e14
                  refine lv_iconst (v := 1) hx hb dX8_go_76 (by decide) ?_
                  refine lv_isub hx hb dX8_go_77 ?_
                  refine va_iast hx hb hK hP hD hS 14 0 rfl rfl (i := (nI jL32)) (x := (v14 - 1)) (vp_in_nI (show jL32 < 120 by omega) (by decide)) dX8_go_78 (fun H locs hP2 hD2 hS => ?_)
                  obtain ⟨F15, e15, hP, hD, hI15⟩ : ∃ F15 : Nat → Nat → Int32, F15 = up2 FL32 17 (nI jL32).toNatClampNeg (v14 - 1) ∧ va_P (dC, dI) vwCl (mw_ h0 q nL15 (F15 44 0) cI cZ F15) H ∧ va_D A (mw_ h0 q nL15 (F15 44 0) cI cZ F15) ∧ mi_ nL15 F15 := ⟨_, rfl, hP2, hD2, hIz32⟩
                  rw [(nI_clamp (by omega))] at e15
                  refine lv_aload_n hx hb dX8_go_79 rfl (lv_at hl 2 rfl) ?_
                  refine va_get (D := (dC, dI)) (ci := 7) (v := .ref (q 17)) (C := RX8) (T := TX8) (N := 37) hx hb hts hinX8 hown hK hP 0 rfl rfl 17 (by decide) (hts (.fieldLink RX8 49 "FurPostsModel" "toGo" "[I") (by decide +kernel)) (fun _ h9 => h9) rfl dX8_go_80 ?_
                  refine lv_iload_n hx hb dX8_go_83 rfl (lv_at hl 0 rfl) ?_
                  refine va_iald hx hb hK hP 14 0 rfl rfl (i := (nI jL32)) (vp_in_nI (show jL32 < 120 by omega) (by decide)) dX8_go_84 ?_
                  refine lv_topi (fun v16 (e16 : v16 = F15 17 (nI jL32).toNatClampNeg) => ?_)
                  rw [(nI_clamp (by omega))] at e16
                  refine lv_if_ne (tgt := 93) hx hb dX8_go_85 (by decide) (fun h_17 => ?_) (fun h_17 => ?_)
                  · skip
                    refine lv_iinc (v := (nI (jL32 + 1))) (lv' := [(3, .int (nI (jL32 + 1))), (2, .int (nI jL15)), (0, .ref h0), (1, .int a1)]) hx hb dX8_go_93 hl (k := 0) rfl (show nI jL32 + 1 = nI (jL32 + 1) from nI_1 jL32) (by decide) rfl (fun ls hl => ?_)
                    refine lv_goto (tgt := 32) hx hb dX8_go_96 (by decide) ?_
                    have hI32 : (rM_go_L32 nL15 (k + 1) jL32 FL32) = (rM_go_L32 nL15 k (jL32 + 1) F15) := by subst e16 e15 e14 e12 e11 e9; exact (if_pos h_10).trans ((if_neg h_13).trans (if_neg h_17))
                    exact ih32 (jL32 + 1) F15 H locs ls (by omega) hP hD hI15 hS (lv_sub hl [0, 1, 2, 3] rfl) (by rw [← hI32]; exact hex)
                  · skip
                    refine lv_aload_n hx hb dX8_go_88 rfl (lv_at hl 2 rfl) ?_
                    refine lv_iload_n hx hb dX8_go_89 rfl (lv_at hl 0 rfl) ?_
                    refine va_callv (va_runV (As := [.int (nI jL32)]) (rest := []) ⟨hx, hb, hml, hown, hts⟩ (m_X8_comes l dC dI h0 q nL15 cI cZ F15 hI15 hN A hD (nI jL32) (vp_in_nI (show jL32 < 120 by omega) (by decide))) (cwV 1 hts gX8_go_X8_comes rfl rfl rfl (by decide +kernel) ⟨Nat.le_of_ble_eq_true rfl, Nat.le_of_ble_eq_true rfl⟩) (pu_pre hP hK (ci := 7) (q0 := 0) rfl rfl) rfl rfl hl.1 rfl (lv_room (Nat.le_of_ble_eq_true rfl)) dX8_go_90 ⟨Nat.le_of_ble_eq_true rfl, Nat.le_of_ble_eq_true rfl⟩) hS (fun _ _ h => h) (fun _ h => h) (fun u18 st18 H locs ht18 hvm18 hw18 hB18 hz18 hk18 hS => ?_)
                    obtain ⟨hq18, hD18, hI18⟩ := hw18
                    obtain ⟨F18, e18, hP, hD, hI18⟩ : ∃ F18 : Nat → Nat → Int32, F18 = (rM_comes nL15 F15 (nI jL32)) ∧ va_P (dC, dI) vwCl (mw_ h0 q nL15 (F18 44 0) cI cZ F18) H ∧ va_D A (mw_ h0 q nL15 (F18 44 0) cI cZ F18) ∧ mi_ nL15 F18 := ⟨u18, hq18, by rw [← ht18]; exact hB18, hD18, hI18⟩
                    refine lv_iinc (v := (nI (jL32 + 1))) (lv' := [(3, .int (nI (jL32 + 1))), (2, .int (nI jL15)), (0, .ref h0), (1, .int a1)]) hx hb dX8_go_93 hl (k := 0) rfl (show nI jL32 + 1 = nI (jL32 + 1) from nI_1 jL32) (by decide) rfl (fun ls hl => ?_)
                    refine lv_goto (tgt := 32) hx hb dX8_go_96 (by decide) ?_
                    have hI32 : (rM_go_L32 nL15 (k + 1) jL32 FL32) = (rM_go_L32 nL15 k (jL32 + 1) F18) := by subst e18 e16 e15 e14 e12 e11 e9; exact (if_pos h_10).trans ((if_neg h_13).trans (if_pos h_17))
                    exact ih32 (jL32 + 1) F18 H locs ls (by omega) hP hD hI18 hS (lv_sub hl [0, 1, 2, 3] rfl) (by rw [← hI32]; exact hex)
                · skip
                  refine lv_goto (tgt := 93) hx hb dX8_go_66 (by decide) ?_
                  refine lv_iinc (v := (nI (jL32 + 1))) (lv' := [(3, .int (nI (jL32 + 1))), (2, .int (nI jL15)), (0, .ref h0), (1, .int a1)]) hx hb dX8_go_93 hl (k := 0) rfl (show nI jL32 + 1 = nI (jL32 + 1) from nI_1 jL32) (by decide) rfl (fun ls hl => ?_)
                  refine lv_goto (tgt := 32) hx hb dX8_go_96 (by decide) ?_
                  have hI32 : (rM_go_L32 nL15 (k + 1) jL32 FL32) = (rM_go_L32 nL15 k (jL32 + 1) FL32) := by subst e12 e11 e9; exact (if_pos h_10).trans (if_pos h_13)
                  exact ih32 (jL32 + 1) FL32 H locs ls (by omega) hP hD hIz32 hS (lv_sub hl [0, 1, 2, 3] rfl) (by rw [← hI32]; exact hex)
          refine key32 (nL15 3) 0 FL15 H locs ls (by omega) hP hD hIz15 hS (lv_sub hl [0, 1, 2, 3] rfl) (fun H locs ls hP hD hIz32 hS hl => ?_)
          obtain ⟨F19, e19, hP, hD, hI19⟩ : ∃ F19 : Nat → Nat → Int32, F19 = (rM_go_L32 nL15 (nL15 3) 0 FL15) ∧ va_P (dC, dI) vwCl (mw_ h0 q nL15 (F19 44 0) cI cZ F19) H ∧ va_D A (mw_ h0 q nL15 (F19 44 0) cI cZ F19) ∧ mi_ nL15 F19 := ⟨_, rfl, hP, hD, hIz32⟩
          refine lv_aload_n hx hb dX8_go_99 rfl (lv_at hl 2 rfl) ?_
          refine lv_dup hx hb dX8_go_100 rfl ?_
          refine va_get (D := (dC, dI)) (ci := 7) (v := .int (nI (nL15 0))) (C := RX8) (T := TX8) (N := 37) hx hb hts hinX8 hown hK hP 0 rfl rfl 0 (by decide) (hts (.fieldLink RX8 137 "FurPostsModel" "now" "I") (by decide +kernel)) (fun _ h9 => h9) rfl dX8_go_101 ?_
          refine lv_iconst (v := 1) hx hb dX8_go_104 (by decide) ?_
          refine lv_iadd hx hb dX8_go_105 ?_
          rw [nI_1]
          refine va_put (D := (dC, dI)) (ci := 7) (v := .int (nI ((nL15 0) + 1))) (ty := .int) (C := RX8) (T := TX8) (N := 37) hx hb hts hinX8 tyX8 tyX8_ok nmX8 hown hK hP hD hS 0 rfl rfl 0 (by decide) (hts (.fieldLink RX8 137 "FurPostsModel" "now" "I") (by decide +kernel)) (fun _ h9 => h9) rfl (by decide +kernel) rfl rfl (Nat.le_of_ble_eq_true rfl) dX8_go_106 (fun H locs hP2 hD2 hS => ?_)
          obtain ⟨n20, e20, hP, hD⟩ : ∃ n20 : Nat → Nat, n20 = va_up nL15 0 ((nL15 0) + 1) ∧ va_P (dC, dI) vwCl (mw_ h0 q n20 (F19 44 0) cI cZ F19) H ∧ va_D A (mw_ h0 q n20 (F19 44 0) cI cZ F19) := ⟨_, rfl, hP2, hD2⟩
          have hN : nb_ n20 := by rw [e20]; exact ⟨(show ((nL15 0) + 1) ≤ 3000 by have := nI_linv (B := 3000) h3000 rfl (by omega); omega), hN.2.1, hN.2.2.1, hN.2.2.2.1, hN.2.2.2.2⟩
          have hI20 : mi_ n20 F19 := by rw [e20]; exact hI19
          refine lv_iinc (v := (nI (jL15 + 1))) (lv' := [(2, .int (nI (jL15 + 1))), (3, .int (nI (nL15 3))), (0, .ref h0), (1, .int a1)]) hx hb dX8_go_109 hl (k := 1) rfl (show nI jL15 + 1 = nI (jL15 + 1) from nI_1 jL15) (by decide) rfl (fun ls hl => ?_)
          refine lv_goto (tgt := 15) hx hb dX8_go_112 (by decide) ?_
          exact ih15 (jL15 + 1) n20 F19 H locs ls (by omega) (by subst e20 e19; exact hE15.trans (if_neg h_5)) hN hP hD hI20 hS (lv_sub hl [0, 2, 3] rfl)
    exact key15 a1.toNatClampNeg 0 n F H locs ls (by omega) (by exact (if_neg h_1)) hN hP hD hI hS (lv_sub hl [0, 1, 2] rfl)
  · skip
    refine lv_iconst (v := (-1)) hx hb dX8_go_11 (by decide) ?_
    have hq21 : rM_go n F a1 = ((-1), n, F) := by exact (if_pos h_1)
    exact W.iret (v := (-1)) hx hb hr (fun t9 ht hW => ⟨⟨(-1), (n, F), rfl, ⟨hq21.symm, hD, hI, hN⟩, by show va_P (dC, dI) vwCl _ t9.heap; rw [ht]; exact hP⟩, hS.F ht⟩) hS.2.2 dX8_go_12

set_option maxHeartbeats 8000000 in
set_option maxRecDepth 100000 in
theorem m_X8_writes (l : Launch) (dC : Nat → ClassId) (dI : Nat → Nat → Nat) (h0 : Nat) (q n : Nat → Nat) (cI cZ : ClassId) (F : Nat → Nat → Int32) (hI : mi_ n F) (hN : nb_ n) (A : Nat → Prop) (hD : va_D A (mw_ h0 q n (F 44 0) cI cZ F)) (a1 : Int32) (a2 : Int32) (a3 : Int32) (a4 : Int32) (a5 : Int32) (hb0 : vp_in a3 8) (hx4 : n 4 < 300) (hlk : lk_ a1 a4) : Met l yX8_writes wsX8_writes ({ frames := 0, cells := 0, slots := 0, locals := 0 }) (va_Pc [.ref h0, .int a1, .int a2, .int a3, .int a4, .int a5] (pu_P (dC, dI) vwCl (mt_ cI cZ) (mw_ h0 q n (F 44 0) cI cZ F))) (va_Qi (fun r (u : (Nat → Nat) × (Nat → Nat → Int32)) => (r, u) = rM_writes n F a1 a2 a3 a4 a5 ∧ va_D A (mw_ h0 q u.1 (u.2 44 0) cI cZ u.2) ∧ mi_ u.1 u.2 ∧ nb_ u.1) (fun u s' => va_P (dC, dI) vwCl (mw_ h0 q u.1 (u.2 44 0) cI cZ u.2) s'.heap) A) 0 0 A := by
  refine Met.ofW (cc := cX8_writes) (maxL := 6) (ret := (some .int)) (by decide) rfl ?_
  intro p e s m args below meth c s₁ B hml hv
  obtain ⟨rfl, hP, hK⟩ := hv
  have hx := B.exec
  have hb := B.bytes
  have hr := B.returns
  have hts := atoms_spec (ws := wsX8_writes) B.pre
  have hown : s.vm.findClass RX8 = some m.cls := findClass_of_methodNamed B.named
  have hlocks := B.notSynchronized
  have hinX8 : ∀ w ∈ u_ws RX8 TX8 37, w ∈ wsX8_writes := by decide +kernel
  have hS : va_S A s.heap s.heap [] := va_S.rf
  have hl := lv_entry ([.ref h0, .int a1, .int a2, .int a3, .int a4, .int a5]) (n := 6) (Nat.le_of_ble_eq_true rfl)
  rw [lg_entry_eq]
  generalize (lg_sl ([.ref h0, .int a1, .int a2, .int a3, .int a4, .int a5]) ++ List.replicate (6 - (lg_sl ([.ref h0, .int a1, .int a2, .int a3, .int a4, .int a5])).length) Slot.unset).toArray = ls at hl ⊢
  have hl : lv_has ls 6 [(0, .ref h0), (1, .int a1), (2, .int a2), (3, .int a3), (4, .int a4), (5, .int a5)] := hl
  obtain ⟨H, hH, hP, hS⟩ : ∃ H, H = s.heap ∧ va_P (dC, dI) vwCl (mw_ h0 q n (F 44 0) cI cZ F) H ∧ va_S A s.heap H [] := ⟨_, rfl, hP, hS⟩
  rw [← hH]
  generalize ([] : List Loc) = locs at hS ⊢
  refine lv_aload_n hx hb dX8_writes_0 rfl (lv_at hl 0 rfl) ?_
  refine va_get (D := (dC, dI)) (ci := 7) (v := .ref (q 26)) (C := RX8) (T := TX8) (N := 37) hx hb hts hinX8 hown hK hP 0 rfl rfl 26 (by decide) (hts (.fieldLink RX8 74 "FurPostsModel" "letterKind" "[I") (by decide +kernel)) (fun _ h9 => h9) rfl dX8_writes_1 ?_
  refine lv_aload_n hx hb dX8_writes_4 rfl (lv_at hl 0 rfl) ?_
  refine va_get (D := (dC, dI)) (ci := 7) (v := .int (nI (n 4))) (C := RX8) (T := TX8) (N := 37) hx hb hts hinX8 hown hK hP 0 rfl rfl 25 (by decide) (hts (.fieldLink RX8 144 "FurPostsModel" "letters" "I") (by decide +kernel)) (fun _ h9 => h9) rfl dX8_writes_5 ?_
  refine lv_iload_n hx hb dX8_writes_8 rfl (lv_at hl 1 rfl) ?_
  refine va_iast hx hb hK hP hD hS 22 0 rfl rfl (i := (nI (n 4))) (x := a1) (vp_in_nI hx4 (by decide)) dX8_writes_9 (fun H locs hP2 hD2 hS => ?_)
  obtain ⟨F1, e1, hP, hD, hI1⟩ : ∃ F1 : Nat → Nat → Int32, F1 = up2 F 26 (nI (n 4)).toNatClampNeg a1 ∧ va_P (dC, dI) vwCl (mw_ h0 q n (F1 44 0) cI cZ F1) H ∧ va_D A (mw_ h0 q n (F1 44 0) cI cZ F1) ∧ mi_ n F1 := ⟨_, rfl, hP2, hD2, mi_up26 hI (show n 4 ≤ (nI (n 4)).toNatClampNeg by rw [nI_clamp (by omega)]; omega)⟩
  rw [(nI_clamp (by omega))] at e1
  refine lv_aload_n hx hb dX8_writes_10 rfl (lv_at hl 0 rfl) ?_
  refine va_get (D := (dC, dI)) (ci := 7) (v := .ref (q 28)) (C := RX8) (T := TX8) (N := 37) hx hb hts hinX8 hown hK hP 0 rfl rfl 28 (by decide) (hts (.fieldLink RX8 80 "FurPostsModel" "letterAt" "[I") (by decide +kernel)) (fun _ h9 => h9) rfl dX8_writes_11 ?_
  refine lv_aload_n hx hb dX8_writes_14 rfl (lv_at hl 0 rfl) ?_
  refine va_get (D := (dC, dI)) (ci := 7) (v := .int (nI (n 4))) (C := RX8) (T := TX8) (N := 37) hx hb hts hinX8 hown hK hP 0 rfl rfl 25 (by decide) (hts (.fieldLink RX8 144 "FurPostsModel" "letters" "I") (by decide +kernel)) (fun _ h9 => h9) rfl dX8_writes_15 ?_
  refine lv_iload_n hx hb dX8_writes_18 rfl (lv_at hl 2 rfl) ?_
  refine va_iast hx hb hK hP hD hS 24 0 rfl rfl (i := (nI (n 4))) (x := a2) (vp_in_nI hx4 (by decide)) dX8_writes_19 (fun H locs hP2 hD2 hS => ?_)
  obtain ⟨F2, e2, hP, hD, hI2⟩ : ∃ F2 : Nat → Nat → Int32, F2 = up2 F1 28 (nI (n 4)).toNatClampNeg a2 ∧ va_P (dC, dI) vwCl (mw_ h0 q n (F2 44 0) cI cZ F2) H ∧ va_D A (mw_ h0 q n (F2 44 0) cI cZ F2) ∧ mi_ n F2 := ⟨_, rfl, hP2, hD2, hI1⟩
  rw [(nI_clamp (by omega))] at e2
  refine lv_aload_n hx hb dX8_writes_20 rfl (lv_at hl 0 rfl) ?_
  refine va_get (D := (dC, dI)) (ci := 7) (v := .ref (q 27)) (C := RX8) (T := TX8) (N := 37) hx hb hts hinX8 hown hK hP 0 rfl rfl 27 (by decide) (hts (.fieldLink RX8 77 "FurPostsModel" "letterTo" "[I") (by decide +kernel)) (fun _ h9 => h9) rfl dX8_writes_21 ?_
  refine lv_aload_n hx hb dX8_writes_24 rfl (lv_at hl 0 rfl) ?_
  refine va_get (D := (dC, dI)) (ci := 7) (v := .int (nI (n 4))) (C := RX8) (T := TX8) (N := 37) hx hb hts hinX8 hown hK hP 0 rfl rfl 25 (by decide) (hts (.fieldLink RX8 144 "FurPostsModel" "letters" "I") (by decide +kernel)) (fun _ h9 => h9) rfl dX8_writes_25 ?_
  refine lv_iload_n hx hb dX8_writes_28 rfl (lv_at hl 3 rfl) ?_
  refine va_iast hx hb hK hP hD hS 23 0 rfl rfl (i := (nI (n 4))) (x := a3) (vp_in_nI hx4 (by decide)) dX8_writes_29 (fun H locs hP2 hD2 hS => ?_)
  obtain ⟨F3, e3, hP, hD, hI3⟩ : ∃ F3 : Nat → Nat → Int32, F3 = up2 F2 27 (nI (n 4)).toNatClampNeg a3 ∧ va_P (dC, dI) vwCl (mw_ h0 q n (F3 44 0) cI cZ F3) H ∧ va_D A (mw_ h0 q n (F3 44 0) cI cZ F3) ∧ mi_ n F3 := ⟨_, rfl, hP2, hD2, mi_up27 hI2 hb0⟩
  rw [(nI_clamp (by omega))] at e3
  refine lv_aload_n hx hb dX8_writes_30 rfl (lv_at hl 0 rfl) ?_
  refine va_get (D := (dC, dI)) (ci := 7) (v := .ref (q 29)) (C := RX8) (T := TX8) (N := 37) hx hb hts hinX8 hown hK hP 0 rfl rfl 29 (by decide) (hts (.fieldLink RX8 83 "FurPostsModel" "letterOne" "[I") (by decide +kernel)) (fun _ h9 => h9) rfl dX8_writes_31 ?_
  refine lv_aload_n hx hb dX8_writes_34 rfl (lv_at hl 0 rfl) ?_
  refine va_get (D := (dC, dI)) (ci := 7) (v := .int (nI (n 4))) (C := RX8) (T := TX8) (N := 37) hx hb hts hinX8 hown hK hP 0 rfl rfl 25 (by decide) (hts (.fieldLink RX8 144 "FurPostsModel" "letters" "I") (by decide +kernel)) (fun _ h9 => h9) rfl dX8_writes_35 ?_
  refine lv_iload hx hb dX8_writes_38 (lv_at hl 4 rfl) ?_
  refine va_iast hx hb hK hP hD hS 25 0 rfl rfl (i := (nI (n 4))) (x := a4) (vp_in_nI hx4 (by decide)) dX8_writes_40 (fun H locs hP2 hD2 hS => ?_)
  obtain ⟨F4, e4, hP, hD, hI4⟩ : ∃ F4 : Nat → Nat → Int32, F4 = up2 F3 29 (nI (n 4)).toNatClampNeg a4 ∧ va_P (dC, dI) vwCl (mw_ h0 q n (F4 44 0) cI cZ F4) H ∧ va_D A (mw_ h0 q n (F4 44 0) cI cZ F4) ∧ mi_ n F4 := ⟨_, rfl, hP2, hD2, mi_up29 hI3 (show n 4 ≤ (nI (n 4)).toNatClampNeg by rw [nI_clamp (by omega)]; omega)⟩
  rw [(nI_clamp (by omega))] at e4
  refine lv_aload_n hx hb dX8_writes_41 rfl (lv_at hl 0 rfl) ?_
  refine va_get (D := (dC, dI)) (ci := 7) (v := .ref (q 30)) (C := RX8) (T := TX8) (N := 37) hx hb hts hinX8 hown hK hP 0 rfl rfl 30 (by decide) (hts (.fieldLink RX8 86 "FurPostsModel" "letterTwo" "[I") (by decide +kernel)) (fun _ h9 => h9) rfl dX8_writes_42 ?_
  refine lv_aload_n hx hb dX8_writes_45 rfl (lv_at hl 0 rfl) ?_
  refine va_get (D := (dC, dI)) (ci := 7) (v := .int (nI (n 4))) (C := RX8) (T := TX8) (N := 37) hx hb hts hinX8 hown hK hP 0 rfl rfl 25 (by decide) (hts (.fieldLink RX8 144 "FurPostsModel" "letters" "I") (by decide +kernel)) (fun _ h9 => h9) rfl dX8_writes_46 ?_
  refine lv_iload hx hb dX8_writes_49 (lv_at hl 5 rfl) ?_
  refine va_iast hx hb hK hP hD hS 26 0 rfl rfl (i := (nI (n 4))) (x := a5) (vp_in_nI hx4 (by decide)) dX8_writes_51 (fun H locs hP2 hD2 hS => ?_)
  obtain ⟨F5, e5, hP, hD, hI5⟩ : ∃ F5 : Nat → Nat → Int32, F5 = up2 F4 30 (nI (n 4)).toNatClampNeg a5 ∧ va_P (dC, dI) vwCl (mw_ h0 q n (F5 44 0) cI cZ F5) H ∧ va_D A (mw_ h0 q n (F5 44 0) cI cZ F5) ∧ mi_ n F5 := ⟨_, rfl, hP2, hD2, hI4⟩
  rw [(nI_clamp (by omega))] at e5
  refine lv_aload_n hx hb dX8_writes_52 rfl (lv_at hl 0 rfl) ?_
  refine lv_dup hx hb dX8_writes_53 rfl ?_
  refine va_get (D := (dC, dI)) (ci := 7) (v := .int (nI (n 4))) (C := RX8) (T := TX8) (N := 37) hx hb hts hinX8 hown hK hP 0 rfl rfl 25 (by decide) (hts (.fieldLink RX8 144 "FurPostsModel" "letters" "I") (by decide +kernel)) (fun _ h9 => h9) rfl dX8_writes_54 ?_
  refine lv_iconst (v := 1) hx hb dX8_writes_57 (by decide) ?_
  refine lv_iadd hx hb dX8_writes_58 ?_
  rw [nI_1]
  refine va_put (D := (dC, dI)) (ci := 7) (v := .int (nI ((n 4) + 1))) (ty := .int) (C := RX8) (T := TX8) (N := 37) hx hb hts hinX8 tyX8 tyX8_ok nmX8 hown hK hP hD hS 0 rfl rfl 25 (by decide) (hts (.fieldLink RX8 144 "FurPostsModel" "letters" "I") (by decide +kernel)) (fun _ h9 => h9) rfl (by decide +kernel) rfl rfl (Nat.le_of_ble_eq_true rfl) dX8_writes_59 (fun H locs hP2 hD2 hS => ?_)
  obtain ⟨n6, e6, hP, hD⟩ : ∃ n6 : Nat → Nat, n6 = va_up n 4 ((n 4) + 1) ∧ va_P (dC, dI) vwCl (mw_ h0 q n6 (F5 44 0) cI cZ F5) H ∧ va_D A (mw_ h0 q n6 (F5 44 0) cI cZ F5) := ⟨_, rfl, hP2, hD2⟩
  have hN : nb_ n6 := by rw [e6]; exact ⟨hN.1, hN.2.1, hN.2.2.1, hN.2.2.2.1, (show ((n 4) + 1) ≤ 300 by omega)⟩
  have hI6 : mi_ n6 F5 := by
      rw [e6]
      refine ⟨hI5.1, hI5.2.1, hI5.2.2.1, hI5.2.2.2.1, hI5.2.2.2.2.1, hI5.2.2.2.2.2.1, fun l hl => ?_⟩
      by_cases e : l = n 4
      · have e26 : F5 26 (n 4) = a1 := by
          rw [e5, e4, e3, e2, e1]
          show upd (F 26) (n 4) a1 (n 4) = a1
          exact pk_us
        have e29 : F5 29 (n 4) = a4 := by
          rw [e5, e4, e3, e2, e1]
          show upd (F 29) (n 4) a4 (n 4) = a4
          exact pk_us
        rw [e, e26, e29]; exact hlk
      · have hl2 : l < n 4 + 1 := hl
        exact hI5.2.2.2.2.2.2 l (by omega)
  refine lv_aload_n hx hb dX8_writes_62 rfl (lv_at hl 0 rfl) ?_
  refine va_get (D := (dC, dI)) (ci := 7) (v := .int (nI (n6 4))) (C := RX8) (T := TX8) (N := 37) hx hb hts hinX8 hown hK hP 0 rfl rfl 25 (by decide) (hts (.fieldLink RX8 144 "FurPostsModel" "letters" "I") (by decide +kernel)) (fun _ h9 => h9) rfl dX8_writes_63 ?_
  refine lv_iconst (v := 1) hx hb dX8_writes_66 (by decide) ?_
  refine lv_isub hx hb dX8_writes_67 ?_
  have hq7 : rM_writes n F a1 a2 a3 a4 a5 = (((nI (n6 4)) - 1), n6, F5) := by subst e6 e5 e4 e3 e2 e1; exact rfl
  exact W.iret (v := ((nI (n6 4)) - 1)) hx hb hr (fun t9 ht hW => ⟨⟨((nI (n6 4)) - 1), (n6, F5), rfl, ⟨hq7.symm, hD, hI6, hN⟩, by show va_P (dC, dI) vwCl _ t9.heap; rw [ht]; exact hP⟩, hS.F ht⟩) hS.2.2 dX8_writes_68

set_option maxHeartbeats 8000000 in
set_option maxRecDepth 100000 in
theorem m_X8_order (l : Launch) (dC : Nat → ClassId) (dI : Nat → Nat → Nat) (h0 : Nat) (q n : Nat → Nat) (cI cZ : ClassId) (F : Nat → Nat → Int32) (hI : mi_ n F) (hN : nb_ n) (A : Nat → Prop) (hD : va_D A (mw_ h0 q n (F 44 0) cI cZ F)) (a1 : Int32) (a2 : Int32) (a3 : Int32) (a4 : Int32) : Met l yX8_order wsX8_order ({ frames := 3, cells := 0, slots := 0, locals := 65 }) (va_Pc [.ref h0, .int a1, .int a2, .int a3, .int a4] (pu_P (dC, dI) vwCl (mt_ cI cZ) (mw_ h0 q n (F 44 0) cI cZ F))) (va_Qi (fun r (u : (Nat → Nat) × (Nat → Nat → Int32)) => (r, u) = rM_order n F a1 a2 a3 a4 ∧ va_D A (mw_ h0 q u.1 (u.2 44 0) cI cZ u.2) ∧ mi_ u.1 u.2 ∧ nb_ u.1) (fun u s' => va_P (dC, dI) vwCl (mw_ h0 q u.1 (u.2 44 0) cI cZ u.2) s'.heap) A) 0 0 A := by
  refine Met.ofW (cc := cX8_order) (maxL := 5) (ret := (some .int)) (by decide) rfl ?_
  intro p e s m args below meth c s₁ B hml hv
  obtain ⟨rfl, hP, hK⟩ := hv
  have hx := B.exec
  have hb := B.bytes
  have hr := B.returns
  have hts := atoms_spec (ws := wsX8_order) B.pre
  have hown : s.vm.findClass RX8 = some m.cls := findClass_of_methodNamed B.named
  have hlocks := B.notSynchronized
  have hS : va_S A s.heap s.heap [] := va_S.rf
  have hl := lv_entry ([.ref h0, .int a1, .int a2, .int a3, .int a4]) (n := 5) (Nat.le_of_ble_eq_true rfl)
  rw [lg_entry_eq]
  generalize (lg_sl ([.ref h0, .int a1, .int a2, .int a3, .int a4]) ++ List.replicate (5 - (lg_sl ([.ref h0, .int a1, .int a2, .int a3, .int a4])).length) Slot.unset).toArray = ls at hl ⊢
  have hl : lv_has ls 5 [(0, .ref h0), (1, .int a1), (2, .int a2), (3, .int a3), (4, .int a4)] := hl
  obtain ⟨H, hH, hP, hS⟩ : ∃ H, H = s.heap ∧ va_P (dC, dI) vwCl (mw_ h0 q n (F 44 0) cI cZ F) H ∧ va_S A s.heap H [] := ⟨_, rfl, hP, hS⟩
  rw [← hH]
  generalize ([] : List Loc) = locs at hS ⊢
  refine lv_aload_n hx hb dX8_order_0 rfl (lv_at hl 0 rfl) ?_
  refine lv_iload_n hx hb dX8_order_1 rfl (lv_at hl 1 rfl) ?_
  refine lv_iload_n hx hb dX8_order_2 rfl (lv_at hl 2 rfl) ?_
  refine pu_call (va_runV (As := [.int a1, .int a2]) (rest := []) ⟨hx, hb, hml, hown, hts⟩ (k_X8_canWrite l dC dI h0 q n cI cZ F hI hN a1 a2) (cwV 2 hts gX8_order_X8_canWrite rfl rfl rfl (by decide +kernel) ⟨Nat.le_of_ble_eq_true rfl, Nat.le_of_ble_eq_true rfl⟩) (pu_pre hP hK (ci := 7) (q0 := 0) rfl rfl) rfl rfl hl.1 rfl (lv_room (Nat.le_of_ble_eq_true rfl)) dX8_order_3 ⟨Nat.le_of_ble_eq_true rfl, Nat.le_of_ble_eq_true rfl⟩) ?_
  refine lv_topi (fun r1 (e1 : r1 = rM_canWrite n F a1 a2) => ?_)
  have hg1 : ¬ r1 = 0 → vp_in a1 8 ∧ vp_in a2 8 ∧ n 4 < 300 := by rw [e1]; exact rM_canWrite_b hN
  refine lv_if_eq (tgt := 40) hx hb dX8_order_6 (by decide) (fun h_2 => ?_) (fun h_2 => ?_)
  · skip
    refine lv_iconst (v := (-1)) hx hb dX8_order_40 (by decide) ?_
    have hq3 : rM_order n F a1 a2 a3 a4 = ((-1), n, F) := by subst e1; exact (if_pos h_2)
    exact W.iret (v := (-1)) hx hb hr (fun t9 ht hW => ⟨⟨(-1), (n, F), rfl, ⟨hq3.symm, hD, hI, hN⟩, by show va_P (dC, dI) vwCl _ t9.heap; rw [ht]; exact hP⟩, hS.F ht⟩) hS.2.2 dX8_order_41
  · skip
    refine lv_iload_n hx hb dX8_order_9 rfl (lv_at hl 3 rfl) ?_
    refine pu_call (va_runS (As := [.int a3]) (rest := []) ⟨hx, hb, hml, hown, hts⟩ (c_X8_isWare l a3) (va_cwS 1 hts gX8_order_X8_isWare rfl rfl rfl (by decide +kernel) ⟨Nat.le_of_ble_eq_true rfl, Nat.le_of_ble_eq_true rfl⟩) pu_preS rfl rfl hl.1 rfl (lv_room (Nat.le_of_ble_eq_true rfl)) dX8_order_10 ⟨Nat.le_of_ble_eq_true rfl, Nat.le_of_ble_eq_true rfl⟩) ?_
    refine lv_if_eq (tgt := 40) hx hb dX8_order_13 (by decide) (fun h_4 => ?_) (fun h_4 => ?_)
    · skip
      refine lv_iconst (v := (-1)) hx hb dX8_order_40 (by decide) ?_
      have hq5 : rM_order n F a1 a2 a3 a4 = ((-1), n, F) := by subst e1; exact (if_neg h_2).trans (if_pos h_4)
      exact W.iret (v := (-1)) hx hb hr (fun t9 ht hW => ⟨⟨(-1), (n, F), rfl, ⟨hq5.symm, hD, hI, hN⟩, by show va_P (dC, dI) vwCl _ t9.heap; rw [ht]; exact hP⟩, hS.F ht⟩) hS.2.2 dX8_order_41
    · skip
      refine lv_iload hx hb dX8_order_16 (lv_at hl 4 rfl) ?_
      refine lv_iconst (v := 1) hx hb dX8_order_18 (by decide) ?_
      refine lv_bipush (v := 100) hx hb dX8_order_19 (by decide) ?_
      refine pu_call (va_runS (As := [.int a4, .int 1, .int 100]) (rest := []) ⟨hx, hb, hml, hown, hts⟩ (c_X8_in l a4 1 100) (va_cwS 3 hts gX8_order_X8_in rfl rfl rfl (by decide +kernel) ⟨Nat.le_of_ble_eq_true rfl, Nat.le_of_ble_eq_true rfl⟩) pu_preS rfl rfl hl.1 rfl (lv_room (Nat.le_of_ble_eq_true rfl)) dX8_order_21 ⟨Nat.le_of_ble_eq_true rfl, Nat.le_of_ble_eq_true rfl⟩) ?_
      refine lv_if_eq (tgt := 40) hx hb dX8_order_24 (by decide) (fun h_6 => ?_) (fun h_6 => ?_)
      · skip
        refine lv_iconst (v := (-1)) hx hb dX8_order_40 (by decide) ?_
        have hq7 : rM_order n F a1 a2 a3 a4 = ((-1), n, F) := by subst e1; exact (if_neg h_2).trans ((if_neg h_4).trans (if_pos h_6))
        exact W.iret (v := (-1)) hx hb hr (fun t9 ht hW => ⟨⟨(-1), (n, F), rfl, ⟨hq7.symm, hD, hI, hN⟩, by show va_P (dC, dI) vwCl _ t9.heap; rw [ht]; exact hP⟩, hS.F ht⟩) hS.2.2 dX8_order_41
      · skip
        refine lv_aload_n hx hb dX8_order_27 rfl (lv_at hl 0 rfl) ?_
        refine lv_iconst (v := 0) hx hb dX8_order_28 (by decide) ?_
        refine lv_iload_n hx hb dX8_order_29 rfl (lv_at hl 1 rfl) ?_
        refine lv_iload_n hx hb dX8_order_30 rfl (lv_at hl 2 rfl) ?_
        refine lv_iload_n hx hb dX8_order_31 rfl (lv_at hl 3 rfl) ?_
        refine lv_iload hx hb dX8_order_32 (lv_at hl 4 rfl) ?_
        refine va_calli (va_runV (As := [.int 0, .int a1, .int a2, .int a3, .int a4]) (rest := []) ⟨hx, hb, hml, hown, hts⟩ (m_X8_writes l dC dI h0 q n cI cZ F hI hN A hD 0 a1 a2 a3 a4 ((hg1 h_2).2.1) ((hg1 h_2).2.2) ⟨fun _ => (sp_vp h_4 rfl), fun h => absurd h (by decide), fun h => absurd rfl h⟩) (cwV 5 hts gX8_order_X8_writes rfl rfl rfl (by decide +kernel) ⟨Nat.le_of_ble_eq_true rfl, Nat.le_of_ble_eq_true rfl⟩) (pu_pre hP hK (ci := 7) (q0 := 0) rfl rfl) rfl rfl hl.1 rfl (lv_room (Nat.le_of_ble_eq_true rfl)) dX8_order_34 ⟨Nat.le_of_ble_eq_true rfl, Nat.le_of_ble_eq_true rfl⟩) hS (fun _ _ h => h) (fun _ h => h) (fun r8 u8 st8 H locs ht8 hvm8 hw8 hB8 hz8 hk8 hS => ?_)
        obtain ⟨hq8, hD8, hI8, hN8⟩ := hw8
        obtain ⟨n8, F8, f8, e8, hP, hD, hI8, hN⟩ : ∃ (n8 : Nat → Nat) (F8 : Nat → Nat → Int32), n8 = (rM_writes n F 0 a1 a2 a3 a4).2.1 ∧ F8 = (rM_writes n F 0 a1 a2 a3 a4).2.2 ∧ va_P (dC, dI) vwCl (mw_ h0 q n8 (F8 44 0) cI cZ F8) H ∧ va_D A (mw_ h0 q n8 (F8 44 0) cI cZ F8) ∧ mi_ n8 F8 ∧ nb_ n8 := ⟨u8.1, u8.2, congrArg (fun z => z.2.1) hq8, congrArg (fun z => z.2.2) hq8, by rw [← ht8]; exact hB8, hD8, hI8, hN8⟩
        have g8 : r8 = (rM_writes n F 0 a1 a2 a3 a4).1 := congrArg Prod.fst hq8
        have hr8 : r8 = nI (n 4) := g8.trans (nI_pred _)
        refine lv_goto (tgt := 41) hx hb dX8_order_37 (by decide) ?_
        have hq9 : rM_order n F a1 a2 a3 a4 = (r8, n8, F8) := by subst g8 e8 f8 e1; exact (if_neg h_2).trans ((if_neg h_4).trans (if_neg h_6))
        exact W.iret (v := r8) hx hb hr (fun t9 ht hW => ⟨⟨r8, (n8, F8), rfl, ⟨hq9.symm, hD, hI8, hN⟩, by show va_P (dC, dI) vwCl _ t9.heap; rw [ht]; exact hP⟩, hS.F ht⟩) hS.2.2 dX8_order_41

set_option maxHeartbeats 8000000 in
set_option maxRecDepth 100000 in
theorem m_X8_debt (l : Launch) (dC : Nat → ClassId) (dI : Nat → Nat → Nat) (h0 : Nat) (q n : Nat → Nat) (cI cZ : ClassId) (F : Nat → Nat → Int32) (hI : mi_ n F) (hN : nb_ n) (A : Nat → Prop) (hD : va_D A (mw_ h0 q n (F 44 0) cI cZ F)) (a1 : Int32) (a2 : Int32) (a3 : Int32) : Met l yX8_debt wsX8_debt ({ frames := 3, cells := 0, slots := 0, locals := 65 }) (va_Pc [.ref h0, .int a1, .int a2, .int a3] (pu_P (dC, dI) vwCl (mt_ cI cZ) (mw_ h0 q n (F 44 0) cI cZ F))) (va_Qi (fun r (u : (Nat → Nat) × (Nat → Nat → Int32)) => (r, u) = rM_debt n F a1 a2 a3 ∧ va_D A (mw_ h0 q u.1 (u.2 44 0) cI cZ u.2) ∧ mi_ u.1 u.2 ∧ nb_ u.1) (fun u s' => va_P (dC, dI) vwCl (mw_ h0 q u.1 (u.2 44 0) cI cZ u.2) s'.heap) A) 0 0 A := by
  refine Met.ofW (cc := cX8_debt) (maxL := 5) (ret := (some .int)) (by decide) rfl ?_
  intro p e s m args below meth c s₁ B hml hv
  obtain ⟨rfl, hP, hK⟩ := hv
  have hx := B.exec
  have hb := B.bytes
  have hr := B.returns
  have hts := atoms_spec (ws := wsX8_debt) B.pre
  have hown : s.vm.findClass RX8 = some m.cls := findClass_of_methodNamed B.named
  have hlocks := B.notSynchronized
  have hinX8 : ∀ w ∈ u_ws RX8 TX8 37, w ∈ wsX8_debt := by decide +kernel
  have hS : va_S A s.heap s.heap [] := va_S.rf
  have hl := lv_entry ([.ref h0, .int a1, .int a2, .int a3]) (n := 5) (Nat.le_of_ble_eq_true rfl)
  rw [lg_entry_eq]
  generalize (lg_sl ([.ref h0, .int a1, .int a2, .int a3]) ++ List.replicate (5 - (lg_sl ([.ref h0, .int a1, .int a2, .int a3])).length) Slot.unset).toArray = ls at hl ⊢
  have hl : lv_has ls 5 [(0, .ref h0), (1, .int a1), (2, .int a2), (3, .int a3)] := hl
  obtain ⟨H, hH, hP, hS⟩ : ∃ H, H = s.heap ∧ va_P (dC, dI) vwCl (mw_ h0 q n (F 44 0) cI cZ F) H ∧ va_S A s.heap H [] := ⟨_, rfl, hP, hS⟩
  rw [← hH]
  generalize ([] : List Loc) = locs at hS ⊢
  refine lv_aload_n hx hb dX8_debt_0 rfl (lv_at hl 0 rfl) ?_
  refine lv_iload_n hx hb dX8_debt_1 rfl (lv_at hl 1 rfl) ?_
  refine lv_iload_n hx hb dX8_debt_2 rfl (lv_at hl 2 rfl) ?_
  refine pu_call (va_runV (As := [.int a1, .int a2]) (rest := []) ⟨hx, hb, hml, hown, hts⟩ (k_X8_canWrite l dC dI h0 q n cI cZ F hI hN a1 a2) (cwV 2 hts gX8_debt_X8_canWrite rfl rfl rfl (by decide +kernel) ⟨Nat.le_of_ble_eq_true rfl, Nat.le_of_ble_eq_true rfl⟩) (pu_pre hP hK (ci := 7) (q0 := 0) rfl rfl) rfl rfl hl.1 rfl (lv_room (Nat.le_of_ble_eq_true rfl)) dX8_debt_3 ⟨Nat.le_of_ble_eq_true rfl, Nat.le_of_ble_eq_true rfl⟩) ?_
  refine lv_topi (fun r1 (e1 : r1 = rM_canWrite n F a1 a2) => ?_)
  have hg1 : ¬ r1 = 0 → vp_in a1 8 ∧ vp_in a2 8 ∧ n 4 < 300 := by rw [e1]; exact rM_canWrite_b hN
  refine lv_if_eq (tgt := 28) hx hb dX8_debt_6 (by decide) (fun h_2 => ?_) (fun h_2 => ?_)
  · skip
    refine lv_iconst (v := (-1)) hx hb dX8_debt_28 (by decide) ?_
    have hq3 : rM_debt n F a1 a2 a3 = ((-1), n, F) := by subst e1; exact (if_pos h_2)
    exact W.iret (v := (-1)) hx hb hr (fun t9 ht hW => ⟨⟨(-1), (n, F), rfl, ⟨hq3.symm, hD, hI, hN⟩, by show va_P (dC, dI) vwCl _ t9.heap; rw [ht]; exact hP⟩, hS.F ht⟩) hS.2.2 dX8_debt_29
  · skip
    refine lv_iload_n hx hb dX8_debt_9 rfl (lv_at hl 3 rfl) ?_
    refine lv_iconst (v := 0) hx hb dX8_debt_10 (by decide) ?_
    refine lv_bipush (v := 11) hx hb dX8_debt_11 (by decide) ?_
    refine pu_call (va_runS (As := [.int a3, .int 0, .int 11]) (rest := []) ⟨hx, hb, hml, hown, hts⟩ (c_X8_in l a3 0 11) (va_cwS 3 hts gX8_debt_X8_in rfl rfl rfl (by decide +kernel) ⟨Nat.le_of_ble_eq_true rfl, Nat.le_of_ble_eq_true rfl⟩) pu_preS rfl rfl hl.1 rfl (lv_room (Nat.le_of_ble_eq_true rfl)) dX8_debt_13 ⟨Nat.le_of_ble_eq_true rfl, Nat.le_of_ble_eq_true rfl⟩) ?_
    refine lv_if_eq (tgt := 28) hx hb dX8_debt_16 (by decide) (fun h_4 => ?_) (fun h_4 => ?_)
    · skip
      refine lv_iconst (v := (-1)) hx hb dX8_debt_28 (by decide) ?_
      have hq5 : rM_debt n F a1 a2 a3 = ((-1), n, F) := by subst e1; exact (if_neg h_2).trans (if_pos h_4)
      exact W.iret (v := (-1)) hx hb hr (fun t9 ht hW => ⟨⟨(-1), (n, F), rfl, ⟨hq5.symm, hD, hI, hN⟩, by show va_P (dC, dI) vwCl _ t9.heap; rw [ht]; exact hP⟩, hS.F ht⟩) hS.2.2 dX8_debt_29
    · skip
      refine lv_aload_n hx hb dX8_debt_19 rfl (lv_at hl 0 rfl) ?_
      refine lv_iload_n hx hb dX8_debt_20 rfl (lv_at hl 1 rfl) ?_
      refine lv_iload_n hx hb dX8_debt_21 rfl (lv_at hl 3 rfl) ?_
      refine pu_call (va_runV (As := [.int a1, .int a3]) (rest := []) ⟨hx, hb, hml, hown, hts⟩ (k_X8_owes l dC dI h0 q n cI cZ F hI hN a1 a3) (cwV 2 hts gX8_debt_X8_owes rfl rfl rfl (by decide +kernel) ⟨Nat.le_of_ble_eq_true rfl, Nat.le_of_ble_eq_true rfl⟩) (pu_pre hP hK (ci := 7) (q0 := 0) rfl rfl) rfl rfl hl.1 rfl (lv_room (Nat.le_of_ble_eq_true rfl)) dX8_debt_22 ⟨Nat.le_of_ble_eq_true rfl, Nat.le_of_ble_eq_true rfl⟩) ?_
      refine lv_topi (fun r6 (e6 : r6 = rM_owes n F a1 a3) => ?_)
      refine lv_if_ne (tgt := 30) hx hb dX8_debt_25 (by decide) (fun h_7 => ?_) (fun h_7 => ?_)
      · skip
        refine lv_aload_n hx hb dX8_debt_30 rfl (lv_at hl 0 rfl) ?_
        refine lv_iload_n hx hb dX8_debt_31 rfl (lv_at hl 1 rfl) ?_
        refine lv_iload_n hx hb dX8_debt_32 rfl (lv_at hl 3 rfl) ?_
        refine pu_call (va_runV (As := [.int a1, .int a3]) (rest := []) ⟨hx, hb, hml, hown, hts⟩ (k_X8_owes l dC dI h0 q n cI cZ F hI hN a1 a3) (cwV 2 hts gX8_debt_X8_owes rfl rfl rfl (by decide +kernel) ⟨Nat.le_of_ble_eq_true rfl, Nat.le_of_ble_eq_true rfl⟩) (pu_pre hP hK (ci := 7) (q0 := 0) rfl rfl) rfl rfl hl.1 rfl (lv_room (Nat.le_of_ble_eq_true rfl)) dX8_debt_33 ⟨Nat.le_of_ble_eq_true rfl, Nat.le_of_ble_eq_true rfl⟩) ?_
        refine lv_topi (fun r8 (e8 : r8 = rM_owes n F a1 a3) => ?_)
        refine lv_istore (lv' := [(4, .int r8), (0, .ref h0), (1, .int a1), (2, .int a2), (3, .int a3)]) hx hb dX8_debt_36 hl (by decide) rfl (fun ls hl => ?_)
        refine lv_aload_n hx hb dX8_debt_38 rfl (lv_at hl 1 rfl) ?_
        refine lv_iconst (v := 1) hx hb dX8_debt_39 (by decide) ?_
        refine lv_iload_n hx hb dX8_debt_40 rfl (lv_at hl 2 rfl) ?_
        refine lv_iload_n hx hb dX8_debt_41 rfl (lv_at hl 3 rfl) ?_
        refine lv_iload_n hx hb dX8_debt_42 rfl (lv_at hl 4 rfl) ?_
        refine lv_iload hx hb dX8_debt_43 (lv_at hl 0 rfl) ?_
        refine va_calli (va_runV (As := [.int 1, .int a1, .int a2, .int a3, .int r8]) (rest := []) ⟨hx, hb, hml, hown, hts⟩ (m_X8_writes l dC dI h0 q n cI cZ F hI hN A hD 1 a1 a2 a3 r8 ((hg1 h_2).2.1) ((hg1 h_2).2.2) ⟨fun h => absurd h (by decide), fun _ => (sp_vp h_4 rfl), fun _ h => absurd rfl h⟩) (cwV 5 hts gX8_debt_X8_writes rfl rfl rfl (by decide +kernel) ⟨Nat.le_of_ble_eq_true rfl, Nat.le_of_ble_eq_true rfl⟩) (pu_pre hP hK (ci := 7) (q0 := 0) rfl rfl) rfl rfl hl.1 rfl (lv_room (Nat.le_of_ble_eq_true rfl)) dX8_debt_45 ⟨Nat.le_of_ble_eq_true rfl, Nat.le_of_ble_eq_true rfl⟩) hS (fun _ _ h => h) (fun _ h => h) (fun r9 u9 st9 H locs ht9 hvm9 hw9 hB9 hz9 hk9 hS => ?_)
        obtain ⟨hq9, hD9, hI9, hN9⟩ := hw9
        obtain ⟨n9, F9, f9, e9, hP, hD, hI9, hN⟩ : ∃ (n9 : Nat → Nat) (F9 : Nat → Nat → Int32), n9 = (rM_writes n F 1 a1 a2 a3 r8).2.1 ∧ F9 = (rM_writes n F 1 a1 a2 a3 r8).2.2 ∧ va_P (dC, dI) vwCl (mw_ h0 q n9 (F9 44 0) cI cZ F9) H ∧ va_D A (mw_ h0 q n9 (F9 44 0) cI cZ F9) ∧ mi_ n9 F9 ∧ nb_ n9 := ⟨u9.1, u9.2, congrArg (fun z => z.2.1) hq9, congrArg (fun z => z.2.2) hq9, by rw [← ht9]; exact hB9, hD9, hI9, hN9⟩
        have g9 : r9 = (rM_writes n F 1 a1 a2 a3 r8).1 := congrArg Prod.fst hq9
        have hr9 : r9 = nI (n 4) := g9.trans (nI_pred _)
        refine lv_pop hx hb dX8_debt_48 rfl ?_
        refine lv_aload_n hx hb dX8_debt_49 rfl (lv_at hl 1 rfl) ?_
        refine va_get (D := (dC, dI)) (ci := 7) (v := .ref (q 4)) (C := RX8) (T := TX8) (N := 37) hx hb hts hinX8 hown hK hP 0 rfl rfl 4 (by decide) (hts (.fieldLink RX8 16 "FurPostsModel" "owes" "[I") (by decide +kernel)) (fun _ h9 => h9) rfl dX8_debt_50 ?_
        refine lv_bipush (v := 12) hx hb dX8_debt_53 (by decide) ?_
        refine lv_iload_n hx hb dX8_debt_55 rfl (lv_at hl 2 rfl) ?_
        refine lv_imul hx hb dX8_debt_56 ?_
        refine lv_iload_n hx hb dX8_debt_57 rfl (lv_at hl 4 rfl) ?_
        refine lv_iadd hx hb dX8_debt_58 ?_
        refine lv_iconst (v := 0) hx hb dX8_debt_59 (by decide) ?_
        refine va_iast hx hb hK hP hD hS 3 0 rfl rfl (i := ((12 * a1) + a3)) (x := 0) (vp_lin (a := 8) (b := 12) (m := 12) ((hg1 h_2).1) (sp_vp h_4 rfl) rfl (by decide)) dX8_debt_60 (fun H locs hP2 hD2 hS => ?_)
        obtain ⟨F10, e10, hP, hD, hI10⟩ : ∃ F10 : Nat → Nat → Int32, F10 = up2 F9 4 ((12 * a1) + a3).toNatClampNeg 0 ∧ va_P (dC, dI) vwCl (mw_ h0 q n9 (F10 44 0) cI cZ F10) H ∧ va_D A (mw_ h0 q n9 (F10 44 0) cI cZ F10) ∧ mi_ n9 F10 := ⟨_, rfl, hP2, hD2, hI9⟩
        rw [(tn_lin (k := 12) (a := 8) (b := 12) (m := 12) ((hg1 h_2).1) (sp_vp h_4 rfl) rfl (by decide))] at e10
        refine lv_iload hx hb dX8_debt_61 (lv_at hl 0 rfl) ?_
        have hq11 : rM_debt n F a1 a2 a3 = (r8, n9, F10) := by subst e10 g9 e9 f9 e8 e6 e1; exact (if_neg h_2).trans ((if_neg h_4).trans (if_neg h_7))
        exact W.iret (v := r8) hx hb hr (fun t9 ht hW => ⟨⟨r8, (n9, F10), rfl, ⟨hq11.symm, hD, hI10, hN⟩, by show va_P (dC, dI) vwCl _ t9.heap; rw [ht]; exact hP⟩, hS.F ht⟩) hS.2.2 dX8_debt_63
      · skip
        refine lv_iconst (v := (-1)) hx hb dX8_debt_28 (by decide) ?_
        have hq12 : rM_debt n F a1 a2 a3 = ((-1), n, F) := by subst e6 e1; exact (if_neg h_2).trans ((if_neg h_4).trans (if_pos h_7))
        exact W.iret (v := (-1)) hx hb hr (fun t9 ht hW => ⟨⟨(-1), (n, F), rfl, ⟨hq12.symm, hD, hI, hN⟩, by show va_P (dC, dI) vwCl _ t9.heap; rw [ht]; exact hP⟩, hS.F ht⟩) hS.2.2 dX8_debt_29

set_option maxHeartbeats 8000000 in
set_option maxRecDepth 100000 in
theorem m_X8_report (l : Launch) (dC : Nat → ClassId) (dI : Nat → Nat → Nat) (h0 : Nat) (q n : Nat → Nat) (cI cZ : ClassId) (F : Nat → Nat → Int32) (hI : mi_ n F) (hN : nb_ n) (A : Nat → Prop) (hD : va_D A (mw_ h0 q n (F 44 0) cI cZ F)) (a1 : Int32) (a2 : Int32) : Met l yX8_report wsX8_report ({ frames := 3, cells := 0, slots := 0, locals := 65 }) (va_Pc [.ref h0, .int a1, .int a2] (pu_P (dC, dI) vwCl (mt_ cI cZ) (mw_ h0 q n (F 44 0) cI cZ F))) (va_Qi (fun r (u : (Nat → Nat) × (Nat → Nat → Int32)) => (r, u) = rM_report n F a1 a2 ∧ va_D A (mw_ h0 q u.1 (u.2 44 0) cI cZ u.2) ∧ mi_ u.1 u.2 ∧ nb_ u.1) (fun u s' => va_P (dC, dI) vwCl (mw_ h0 q u.1 (u.2 44 0) cI cZ u.2) s'.heap) A) 0 0 A := by
  refine Met.ofW (cc := cX8_report) (maxL := 5) (ret := (some .int)) (by decide) rfl ?_
  intro p e s m args below meth c s₁ B hml hv
  obtain ⟨rfl, hP, hK⟩ := hv
  have hx := B.exec
  have hb := B.bytes
  have hr := B.returns
  have hts := atoms_spec (ws := wsX8_report) B.pre
  have hown : s.vm.findClass RX8 = some m.cls := findClass_of_methodNamed B.named
  have hlocks := B.notSynchronized
  have hinX8 : ∀ w ∈ u_ws RX8 TX8 37, w ∈ wsX8_report := by decide +kernel
  have hS : va_S A s.heap s.heap [] := va_S.rf
  have hl := lv_entry ([.ref h0, .int a1, .int a2]) (n := 5) (Nat.le_of_ble_eq_true rfl)
  rw [lg_entry_eq]
  generalize (lg_sl ([.ref h0, .int a1, .int a2]) ++ List.replicate (5 - (lg_sl ([.ref h0, .int a1, .int a2])).length) Slot.unset).toArray = ls at hl ⊢
  have hl : lv_has ls 5 [(0, .ref h0), (1, .int a1), (2, .int a2)] := hl
  obtain ⟨H, hH, hP, hS⟩ : ∃ H, H = s.heap ∧ va_P (dC, dI) vwCl (mw_ h0 q n (F 44 0) cI cZ F) H ∧ va_S A s.heap H [] := ⟨_, rfl, hP, hS⟩
  rw [← hH]
  generalize ([] : List Loc) = locs at hS ⊢
  refine lv_aload_n hx hb dX8_report_0 rfl (lv_at hl 0 rfl) ?_
  refine lv_iload_n hx hb dX8_report_1 rfl (lv_at hl 1 rfl) ?_
  refine lv_iload_n hx hb dX8_report_2 rfl (lv_at hl 2 rfl) ?_
  refine pu_call (va_runV (As := [.int a1, .int a2]) (rest := []) ⟨hx, hb, hml, hown, hts⟩ (k_X8_canWrite l dC dI h0 q n cI cZ F hI hN a1 a2) (cwV 2 hts gX8_report_X8_canWrite rfl rfl rfl (by decide +kernel) ⟨Nat.le_of_ble_eq_true rfl, Nat.le_of_ble_eq_true rfl⟩) (pu_pre hP hK (ci := 7) (q0 := 0) rfl rfl) rfl rfl hl.1 rfl (lv_room (Nat.le_of_ble_eq_true rfl)) dX8_report_3 ⟨Nat.le_of_ble_eq_true rfl, Nat.le_of_ble_eq_true rfl⟩) ?_
  refine lv_topi (fun r1 (e1 : r1 = rM_canWrite n F a1 a2) => ?_)
  have hg1 : ¬ r1 = 0 → vp_in a1 8 ∧ vp_in a2 8 ∧ n 4 < 300 := by rw [e1]; exact rM_canWrite_b hN
  refine lv_if_ne (tgt := 11) hx hb dX8_report_6 (by decide) (fun h_2 => ?_) (fun h_2 => ?_)
  · skip
    refine lv_aload_n hx hb dX8_report_11 rfl (lv_at hl 0 rfl) ?_
    refine lv_iconst (v := 2) hx hb dX8_report_12 (by decide) ?_
    refine lv_iload_n hx hb dX8_report_13 rfl (lv_at hl 1 rfl) ?_
    refine lv_iload_n hx hb dX8_report_14 rfl (lv_at hl 2 rfl) ?_
    refine lv_iload_n hx hb dX8_report_15 rfl (lv_at hl 1 rfl) ?_
    refine lv_aload_n hx hb dX8_report_16 rfl (lv_at hl 0 rfl) ?_
    refine va_get (D := (dC, dI)) (ci := 7) (v := .int (nI (n 0))) (C := RX8) (T := TX8) (N := 37) hx hb hts hinX8 hown hK hP 0 rfl rfl 0 (by decide) (hts (.fieldLink RX8 137 "FurPostsModel" "now" "I") (by decide +kernel)) (fun _ h9 => h9) rfl dX8_report_17 ?_
    refine va_calli (va_runV (As := [.int 2, .int a1, .int a2, .int a1, .int (nI (n 0))]) (rest := []) ⟨hx, hb, hml, hown, hts⟩ (m_X8_writes l dC dI h0 q n cI cZ F hI hN A hD 2 a1 a2 a1 (nI (n 0)) ((hg1 h_2).2.1) ((hg1 h_2).2.2) ⟨fun h => absurd h (by decide), fun h => absurd h (by decide), fun _ _ => ((hg1 h_2).1)⟩) (cwV 5 hts gX8_report_X8_writes rfl rfl rfl (by decide +kernel) ⟨Nat.le_of_ble_eq_true rfl, Nat.le_of_ble_eq_true rfl⟩) (pu_pre hP hK (ci := 7) (q0 := 0) rfl rfl) rfl rfl hl.1 rfl (lv_room (Nat.le_of_ble_eq_true rfl)) dX8_report_20 ⟨Nat.le_of_ble_eq_true rfl, Nat.le_of_ble_eq_true rfl⟩) hS (fun _ _ h => h) (fun _ h => h) (fun r3 u3 st3 H locs ht3 hvm3 hw3 hB3 hz3 hk3 hS => ?_)
    obtain ⟨hq3, hD3, hI3, hN3⟩ := hw3
    obtain ⟨n3, F3, f3, e3, hP, hD, hI3, hN⟩ : ∃ (n3 : Nat → Nat) (F3 : Nat → Nat → Int32), n3 = (rM_writes n F 2 a1 a2 a1 (nI (n 0))).2.1 ∧ F3 = (rM_writes n F 2 a1 a2 a1 (nI (n 0))).2.2 ∧ va_P (dC, dI) vwCl (mw_ h0 q n3 (F3 44 0) cI cZ F3) H ∧ va_D A (mw_ h0 q n3 (F3 44 0) cI cZ F3) ∧ mi_ n3 F3 ∧ nb_ n3 := ⟨u3.1, u3.2, congrArg (fun z => z.2.1) hq3, congrArg (fun z => z.2.2) hq3, by rw [← ht3]; exact hB3, hD3, hI3, hN3⟩
    have g3 : r3 = (rM_writes n F 2 a1 a2 a1 (nI (n 0))).1 := congrArg Prod.fst hq3
    have hr3 : r3 = nI (n 4) := g3.trans (nI_pred _)
    refine lv_istore_n (lv' := [(3, .int r3), (0, .ref h0), (1, .int a1), (2, .int a2)]) hx hb dX8_report_23 rfl hl (by decide) rfl (fun ls hl => ?_)
    refine lv_iconst (v := 0) hx hb dX8_report_24 (by decide) ?_
    refine lv_istore (lv' := [(4, .int 0), (3, .int r3), (0, .ref h0), (1, .int a1), (2, .int a2)]) hx hb dX8_report_25 hl (by decide) rfl (fun ls hl => ?_)
    have key27 : ∀ (k jL27 : Nat) (FL27 : Nat → Nat → Int32) (H : Heap) (locs : List Loc) (ls : Array Slot), jL27 + k = 6 → va_P (dC, dI) vwCl (mw_ h0 q n3 (FL27 44 0) cI cZ FL27) H → va_D A (mw_ h0 q n3 (FL27 44 0) cI cZ FL27) → mi_ n3 FL27 → va_S A s.heap H locs → lv_has ls 5 [(4, .int (nI jL27)), (3, .int r3), (0, .ref h0), (1, .int a1), (2, .int a2)] → (∀ (H : Heap) (locs : List Loc) (ls : Array Slot), va_P (dC, dI) vwCl (mw_ h0 q n3 (((rM_report_L27 n F a1 a2 k jL27 FL27)) 44 0) cI cZ ((rM_report_L27 n F a1 a2 k jL27 FL27))) H → va_D A (mw_ h0 q n3 (((rM_report_L27 n F a1 a2 k jL27 FL27)) 44 0) cI cZ ((rM_report_L27 n F a1 a2 k jL27 FL27))) → mi_ n3 ((rM_report_L27 n F a1 a2 k jL27 FL27)) → va_S A s.heap H locs → lv_has ls 5 [(4, .int (nI 6)), (3, .int r3), (0, .ref h0), (1, .int a1), (2, .int a2)] → W p l e (headSpec wsX8_report ({ frames := 3, cells := 0, slots := 0, locals := 65 })).room s m [.ref h0, .int a1, .int a2].toArray below meth c H locs 0 0 (MQ below (va_Qi (fun r (u : (Nat → Nat) × (Nat → Nat → Int32)) => (r, u) = rM_report n F a1 a2 ∧ va_D A (mw_ h0 q u.1 (u.2 44 0) cI cZ u.2) ∧ mi_ u.1 u.2 ∧ nb_ u.1) (fun u s' => va_P (dC, dI) vwCl (mw_ h0 q u.1 (u.2 44 0) cI cZ u.2) s'.heap) A) [.ref h0, .int a1, .int a2].toArray s 0 0 A) (F0 m 59 ls [])) → 
        W p l e (headSpec wsX8_report ({ frames := 3, cells := 0, slots := 0, locals := 65 })).room s m [.ref h0, .int a1, .int a2].toArray below meth c H locs 0 0 (MQ below (va_Qi (fun r (u : (Nat → Nat) × (Nat → Nat → Int32)) => (r, u) = rM_report n F a1 a2 ∧ va_D A (mw_ h0 q u.1 (u.2 44 0) cI cZ u.2) ∧ mi_ u.1 u.2 ∧ nb_ u.1) (fun u s' => va_P (dC, dI) vwCl (mw_ h0 q u.1 (u.2 44 0) cI cZ u.2) s'.heap) A) [.ref h0, .int a1, .int a2].toArray s 0 0 A) (F0 m 27 ls []) := by
      intro k
      induction k with
      | zero =>
        intro jL27 FL27 H locs ls hj hP hD hIz27 hS hl hex
        have hj : jL27 = 6 := by omega
        subst jL27
        refine lv_iload hx hb dX8_report_27 (lv_at hl 0 rfl) ?_
        refine lv_bipush (v := 6) hx hb dX8_report_29 (by decide) ?_
        refine lv_icmp_ge (tgt := 59) hx hb dX8_report_31 (by decide) (fun h_4 => ?_) (fun h_4 => absurd (lp_ge0 (B := 6) rfl) h_4)
        exact hex H locs ls hP hD hIz27 hS (lv_sub hl [0, 1, 2, 3, 4] rfl)
      | succ k ih27 =>
        intro jL27 FL27 H locs ls hj hP hD hIz27 hS hl hex
        have hj27 : jL27 < 6 := by omega
        refine lv_iload hx hb dX8_report_27 (lv_at hl 0 rfl) ?_
        refine lv_bipush (v := 6) hx hb dX8_report_29 (by decide) ?_
        refine lv_icmp_ge (tgt := 59) hx hb dX8_report_31 (by decide) (fun h_5 => absurd h_5 (lp_ge (B := 6) (by omega) (by omega) rfl)) (fun h_5 => ?_)
        refine lv_aload_n hx hb dX8_report_34 rfl (lv_at hl 2 rfl) ?_
        refine va_get (D := (dC, dI)) (ci := 7) (v := .ref (q 31)) (C := RX8) (T := TX8) (N := 37) hx hb hts hinX8 hown hK hP 0 rfl rfl 31 (by decide) (hts (.fieldLink RX8 89 "FurPostsModel" "letterStore" "[I") (by decide +kernel)) (fun _ h9 => h9) rfl dX8_report_35 ?_
        refine lv_bipush (v := 6) hx hb dX8_report_38 (by decide) ?_
        refine lv_iload_n hx hb dX8_report_40 rfl (lv_at hl 1 rfl) ?_
        refine lv_imul hx hb dX8_report_41 ?_
        refine lv_iload hx hb dX8_report_42 (lv_at hl 0 rfl) ?_
        refine lv_iadd hx hb dX8_report_44 ?_
        refine lv_aload_n hx hb dX8_report_45 rfl (lv_at hl 2 rfl) ?_
        refine lv_iload_n hx hb dX8_report_46 rfl (lv_at hl 3 rfl) ?_
        refine lv_iload hx hb dX8_report_47 (lv_at hl 0 rfl) ?_
        refine pu_call (va_runV (As := [.int a1, .int (nI jL27)]) (rest := [.int ((6 * r3) + (nI jL27)), .ref (q 31)]) ⟨hx, hb, hml, hown, hts⟩ (k_X8_stored l dC dI h0 q n3 cI cZ FL27 hIz27 hN a1 (nI jL27) ((hg1 h_2).1) (vp_in_nI (show jL27 < 6 by omega) (by decide))) (cwV 2 hts gX8_report_X8_stored rfl rfl rfl (by decide +kernel) ⟨Nat.le_of_ble_eq_true rfl, Nat.le_of_ble_eq_true rfl⟩) (pu_pre hP hK (ci := 7) (q0 := 0) rfl rfl) rfl rfl hl.1 rfl (lv_room (Nat.le_of_ble_eq_true rfl)) dX8_report_49 ⟨Nat.le_of_ble_eq_true rfl, Nat.le_of_ble_eq_true rfl⟩) ?_
        refine lv_topi (fun r6 (e6 : r6 = rM_stored n3 FL27 a1 (nI jL27)) => ?_)
        refine va_iast hx hb hK hP hD hS 27 0 rfl rfl (i := ((6 * r3) + (nI jL27))) (x := r6) (vp_lin (a := 300) (b := 6) (m := 6) (by rw [hr3]; exact vp_in_nI ((hg1 h_2).2.2) (by decide)) (vp_in_nI (show jL27 < 6 by omega) (by decide)) rfl (by decide)) dX8_report_52 (fun H locs hP2 hD2 hS => ?_)
        obtain ⟨F7, e7, hP, hD, hI7⟩ : ∃ F7 : Nat → Nat → Int32, F7 = up2 FL27 31 ((6 * r3) + (nI jL27)).toNatClampNeg r6 ∧ va_P (dC, dI) vwCl (mw_ h0 q n3 (F7 44 0) cI cZ F7) H ∧ va_D A (mw_ h0 q n3 (F7 44 0) cI cZ F7) ∧ mi_ n3 F7 := ⟨_, rfl, hP2, hD2, hIz27⟩
        rw [((tn_lin (k := 6) (a := 300) (b := 6) (m := 6) (by rw [hr3]; exact vp_in_nI ((hg1 h_2).2.2) (by decide)) (vp_in_nI (show jL27 < 6 by omega) (by decide)) rfl (by decide)).trans (by rw [(nI_clamp (by omega))]))] at e7
        refine lv_iinc (v := (nI (jL27 + 1))) (lv' := [(4, .int (nI (jL27 + 1))), (3, .int r3), (0, .ref h0), (1, .int a1), (2, .int a2)]) hx hb dX8_report_53 hl (k := 0) rfl (show nI jL27 + 1 = nI (jL27 + 1) from nI_1 jL27) (by decide) rfl (fun ls hl => ?_)
        refine lv_goto (tgt := 27) hx hb dX8_report_56 (by decide) ?_
        have hI27 : (rM_report_L27 n F a1 a2 (k + 1) jL27 FL27) = (rM_report_L27 n F a1 a2 k (jL27 + 1) F7) := by subst e7 e6 g3 e3 f3 e1; exact rfl
        exact ih27 (jL27 + 1) F7 H locs ls (by omega) hP hD hI7 hS (lv_sub hl [0, 1, 2, 3, 4] rfl) (by rw [← hI27]; exact hex)
    refine key27 6 0 F3 H locs ls (by omega) hP hD hI3 hS (lv_sub hl [0, 1, 2, 3, 4] rfl) (fun H locs ls hP hD hIz27 hS hl => ?_)
    obtain ⟨F8, e8, hP, hD, hI8⟩ : ∃ F8 : Nat → Nat → Int32, F8 = (rM_report_L27 n F a1 a2 6 0 F3) ∧ va_P (dC, dI) vwCl (mw_ h0 q n3 (F8 44 0) cI cZ F8) H ∧ va_D A (mw_ h0 q n3 (F8 44 0) cI cZ F8) ∧ mi_ n3 F8 := ⟨_, rfl, hP, hD, hIz27⟩
    refine lv_iload_n hx hb dX8_report_59 rfl (lv_at hl 1 rfl) ?_
    have hq9 : rM_report n F a1 a2 = (r3, n3, F8) := by subst e8 g3 e3 f3 e1; exact (if_neg h_2)
    exact W.iret (v := r3) hx hb hr (fun t9 ht hW => ⟨⟨r3, (n3, F8), rfl, ⟨hq9.symm, hD, hI8, hN⟩, by show va_P (dC, dI) vwCl _ t9.heap; rw [ht]; exact hP⟩, hS.F ht⟩) hS.2.2 dX8_report_60
  · skip
    refine lv_iconst (v := (-1)) hx hb dX8_report_9 (by decide) ?_
    have hq10 : rM_report n F a1 a2 = ((-1), n, F) := by subst e1; exact (if_pos h_2)
    exact W.iret (v := (-1)) hx hb hr (fun t9 ht hW => ⟨⟨(-1), (n, F), rfl, ⟨hq10.symm, hD, hI, hN⟩, by show va_P (dC, dI) vwCl _ t9.heap; rw [ht]; exact hP⟩, hS.F ht⟩) hS.2.2 dX8_report_10

set_option maxHeartbeats 8000000 in
set_option maxRecDepth 100000 in
theorem m_X8_post (l : Launch) (dC : Nat → ClassId) (dI : Nat → Nat → Nat) (h0 : Nat) (q n : Nat → Nat) (cI cZ : ClassId) (F : Nat → Nat → Int32) (hI : mi_ n F) (hN : nb_ n) (A : Nat → Prop) (hD : va_D A (mw_ h0 q n (F 44 0) cI cZ F)) : Met l yX8_post wsX8_post ({ frames := 0, cells := 0, slots := 0, locals := 0 }) (va_Pc [.ref h0] (pu_P (dC, dI) vwCl (mt_ cI cZ) (mw_ h0 q n (F 44 0) cI cZ F))) (va_Qi (fun r (u : (Nat → Nat) × (Nat → Nat → Int32)) => (r, u) = rM_post n F ∧ va_D A (mw_ h0 q u.1 (u.2 44 0) cI cZ u.2) ∧ mi_ u.1 u.2 ∧ nb_ u.1) (fun u s' => va_P (dC, dI) vwCl (mw_ h0 q u.1 (u.2 44 0) cI cZ u.2) s'.heap) A) 0 0 A := by
  refine Met.ofW (cc := cX8_post) (maxL := 1) (ret := (some .int)) (by decide) rfl ?_
  intro p e s m args below meth c s₁ B hml hv
  obtain ⟨rfl, hP, hK⟩ := hv
  have hx := B.exec
  have hb := B.bytes
  have hr := B.returns
  have hts := atoms_spec (ws := wsX8_post) B.pre
  have hown : s.vm.findClass RX8 = some m.cls := findClass_of_methodNamed B.named
  have hlocks := B.notSynchronized
  have hinX8 : ∀ w ∈ u_ws RX8 TX8 37, w ∈ wsX8_post := by decide +kernel
  have hS : va_S A s.heap s.heap [] := va_S.rf
  have hl := lv_entry ([.ref h0]) (n := 1) (Nat.le_of_ble_eq_true rfl)
  rw [lg_entry_eq]
  generalize (lg_sl ([.ref h0]) ++ List.replicate (1 - (lg_sl ([.ref h0])).length) Slot.unset).toArray = ls at hl ⊢
  have hl : lv_has ls 1 [(0, .ref h0)] := hl
  obtain ⟨H, hH, hP, hS⟩ : ∃ H, H = s.heap ∧ va_P (dC, dI) vwCl (mw_ h0 q n (F 44 0) cI cZ F) H ∧ va_S A s.heap H [] := ⟨_, rfl, hP, hS⟩
  rw [← hH]
  generalize ([] : List Loc) = locs at hS ⊢
  refine lv_aload_n hx hb dX8_post_0 rfl (lv_at hl 0 rfl) ?_
  refine va_get (D := (dC, dI)) (ci := 7) (v := .int (nI (n 1))) (C := RX8) (T := TX8) (N := 37) hx hb hts hinX8 hown hK hP 0 rfl rfl 1 (by decide) (hts (.fieldLink RX8 104 "FurPostsModel" "posts" "I") (by decide +kernel)) (fun _ h9 => h9) rfl dX8_post_1 ?_
  refine lv_bipush (v := 8) hx hb dX8_post_4 (by decide) ?_
  refine lv_icmp_ne (tgt := 11) hx hb dX8_post_6 (by decide) (fun h_1 => ?_) (fun h_1 => ?_)
  · skip
    refine lv_aload_n hx hb dX8_post_11 rfl (lv_at hl 0 rfl) ?_
    refine lv_dup hx hb dX8_post_12 rfl ?_
    refine va_get (D := (dC, dI)) (ci := 7) (v := .int (nI (n 1))) (C := RX8) (T := TX8) (N := 37) hx hb hts hinX8 hown hK hP 0 rfl rfl 1 (by decide) (hts (.fieldLink RX8 104 "FurPostsModel" "posts" "I") (by decide +kernel)) (fun _ h9 => h9) rfl dX8_post_13 ?_
    refine lv_iconst (v := 1) hx hb dX8_post_16 (by decide) ?_
    refine lv_iadd hx hb dX8_post_17 ?_
    rw [nI_1]
    refine va_put (D := (dC, dI)) (ci := 7) (v := .int (nI ((n 1) + 1))) (ty := .int) (C := RX8) (T := TX8) (N := 37) hx hb hts hinX8 tyX8 tyX8_ok nmX8 hown hK hP hD hS 0 rfl rfl 1 (by decide) (hts (.fieldLink RX8 104 "FurPostsModel" "posts" "I") (by decide +kernel)) (fun _ h9 => h9) rfl (by decide +kernel) rfl rfl (Nat.le_of_ble_eq_true rfl) dX8_post_18 (fun H locs hP2 hD2 hS => ?_)
    obtain ⟨n2, e2, hP, hD⟩ : ∃ n2 : Nat → Nat, n2 = va_up n 1 ((n 1) + 1) ∧ va_P (dC, dI) vwCl (mw_ h0 q n2 (F 44 0) cI cZ F) H ∧ va_D A (mw_ h0 q n2 (F 44 0) cI cZ F) := ⟨_, rfl, hP2, hD2⟩
    have hN : nb_ n2 := by rw [e2]; exact ⟨hN.1, (show ((n 1) + 1) ≤ 8 by have := nI_nev (B := 8) h_1 rfl; omega), hN.2.2.1, hN.2.2.2.1, hN.2.2.2.2⟩
    have hI2 : mi_ n2 F := by rw [e2]; exact hI
    refine lv_aload_n hx hb dX8_post_21 rfl (lv_at hl 0 rfl) ?_
    refine va_get (D := (dC, dI)) (ci := 7) (v := .int (nI (n2 1))) (C := RX8) (T := TX8) (N := 37) hx hb hts hinX8 hown hK hP 0 rfl rfl 1 (by decide) (hts (.fieldLink RX8 104 "FurPostsModel" "posts" "I") (by decide +kernel)) (fun _ h9 => h9) rfl dX8_post_22 ?_
    refine lv_iconst (v := 1) hx hb dX8_post_25 (by decide) ?_
    refine lv_isub hx hb dX8_post_26 ?_
    have hq3 : rM_post n F = (((nI (n2 1)) - 1), n2, F) := by subst e2; exact (if_neg h_1)
    exact W.iret (v := ((nI (n2 1)) - 1)) hx hb hr (fun t9 ht hW => ⟨⟨((nI (n2 1)) - 1), (n2, F), rfl, ⟨hq3.symm, hD, hI2, hN⟩, by show va_P (dC, dI) vwCl _ t9.heap; rw [ht]; exact hP⟩, hS.F ht⟩) hS.2.2 dX8_post_27
  · skip
    refine lv_iconst (v := (-1)) hx hb dX8_post_9 (by decide) ?_
    have hq4 : rM_post n F = ((-1), n, F) := by exact (if_pos h_1)
    exact W.iret (v := (-1)) hx hb hr (fun t9 ht hW => ⟨⟨(-1), (n, F), rfl, ⟨hq4.symm, hD, hI, hN⟩, by show va_P (dC, dI) vwCl _ t9.heap; rw [ht]; exact hP⟩, hS.F ht⟩) hS.2.2 dX8_post_10

set_option maxHeartbeats 8000000 in
set_option maxRecDepth 100000 in
theorem m_X8_way (l : Launch) (dC : Nat → ClassId) (dI : Nat → Nat → Nat) (h0 : Nat) (q n : Nat → Nat) (cI cZ : ClassId) (F : Nat → Nat → Int32) (hI : mi_ n F) (hN : nb_ n) (A : Nat → Prop) (hD : va_D A (mw_ h0 q n (F 44 0) cI cZ F)) (a1 : Int32) (a2 : Int32) (a3 : Int32) (a4 : Int32) : Met l yX8_way wsX8_way ({ frames := 2, cells := 0, slots := 0, locals := 43 }) (va_Pc [.ref h0, .int a1, .int a2, .int a3, .int a4] (pu_P (dC, dI) vwCl (mt_ cI cZ) (mw_ h0 q n (F 44 0) cI cZ F))) (va_Qi (fun r (u : (Nat → Nat) × (Nat → Nat → Int32)) => (r, u) = rM_way n F a1 a2 a3 a4 ∧ va_D A (mw_ h0 q u.1 (u.2 44 0) cI cZ u.2) ∧ mi_ u.1 u.2 ∧ nb_ u.1) (fun u s' => va_P (dC, dI) vwCl (mw_ h0 q u.1 (u.2 44 0) cI cZ u.2) s'.heap) A) 0 0 A := by
  refine Met.ofW (cc := cX8_way) (maxL := 8) (ret := (some .int)) (by decide) rfl ?_
  intro p e s m args below meth c s₁ B hml hv
  obtain ⟨rfl, hP, hK⟩ := hv
  have hx := B.exec
  have hb := B.bytes
  have hr := B.returns
  have hts := atoms_spec (ws := wsX8_way) B.pre
  have hown : s.vm.findClass RX8 = some m.cls := findClass_of_methodNamed B.named
  have hlocks := B.notSynchronized
  have hinX8 : ∀ w ∈ u_ws RX8 TX8 37, w ∈ wsX8_way := by decide +kernel
  have hS : va_S A s.heap s.heap [] := va_S.rf
  have hl := lv_entry ([.ref h0, .int a1, .int a2, .int a3, .int a4]) (n := 8) (Nat.le_of_ble_eq_true rfl)
  rw [lg_entry_eq]
  generalize (lg_sl ([.ref h0, .int a1, .int a2, .int a3, .int a4]) ++ List.replicate (8 - (lg_sl ([.ref h0, .int a1, .int a2, .int a3, .int a4])).length) Slot.unset).toArray = ls at hl ⊢
  have hl : lv_has ls 8 [(0, .ref h0), (1, .int a1), (2, .int a2), (3, .int a3), (4, .int a4)] := hl
  obtain ⟨H, hH, hP, hS⟩ : ∃ H, H = s.heap ∧ va_P (dC, dI) vwCl (mw_ h0 q n (F 44 0) cI cZ F) H ∧ va_S A s.heap H [] := ⟨_, rfl, hP, hS⟩
  rw [← hH]
  generalize ([] : List Loc) = locs at hS ⊢
  refine lv_iload_n hx hb dX8_way_0 rfl (lv_at hl 3 rfl) ?_
  refine lv_ldc (v := 1000000) hx hb hown (hts (.constant RX8 118 (1000000)) (by decide +kernel)) dX8_way_1 ?_
  refine lv_idiv hx hb dX8_way_3 (by decide) ?_
  refine lv_istore (lv' := [(5, .int (a3 / 1000000)), (0, .ref h0), (1, .int a1), (2, .int a2), (3, .int a3), (4, .int a4)]) hx hb dX8_way_4 hl (by decide) rfl (fun ls hl => ?_)
  refine lv_iload_n hx hb dX8_way_6 rfl (lv_at hl 4 rfl) ?_
  refine lv_sipush (v := 1000) hx hb dX8_way_7 (by decide) ?_
  refine lv_idiv hx hb dX8_way_10 (by decide) ?_
  refine lv_sipush (v := 1000) hx hb dX8_way_11 (by decide) ?_
  refine lv_irem hx hb dX8_way_14 (by decide) ?_
  refine lv_istore (lv' := [(6, .int ((a3 / 1000) - (a3 / 1000) / 1000 * 1000)), (5, .int (a3 / 1000000)), (0, .ref h0), (1, .int a1), (2, .int a2), (3, .int a3), (4, .int a4)]) hx hb dX8_way_15 hl (by decide) rfl (fun ls hl => ?_)
  refine lv_iload_n hx hb dX8_way_17 rfl (lv_at hl 5 rfl) ?_
  refine lv_sipush (v := 1000) hx hb dX8_way_18 (by decide) ?_
  refine lv_irem hx hb dX8_way_21 (by decide) ?_
  refine lv_istore (lv' := [(7, .int (a3 - a3 / 1000 * 1000)), (6, .int ((a3 / 1000) - (a3 / 1000) / 1000 * 1000)), (5, .int (a3 / 1000000)), (0, .ref h0), (1, .int a1), (2, .int a2), (3, .int a3), (4, .int a4)]) hx hb dX8_way_22 hl (by decide) rfl (fun ls hl => ?_)
  refine lv_iload_n hx hb dX8_way_24 rfl (lv_at hl 6 rfl) ?_
  refine lv_if_lt (tgt := 64) hx hb dX8_way_25 (by decide) (fun h_1 => ?_) (fun h_1 => ?_)
  · skip
    refine lv_iconst (v := (-1)) hx hb dX8_way_64 (by decide) ?_
    have hq2 : rM_way n F a1 a2 a3 a4 = ((-1), n, F) := by exact (if_pos h_1)
    exact W.iret (v := (-1)) hx hb hr (fun t9 ht hW => ⟨⟨(-1), (n, F), rfl, ⟨hq2.symm, hD, hI, hN⟩, by show va_P (dC, dI) vwCl _ t9.heap; rw [ht]; exact hP⟩, hS.F ht⟩) hS.2.2 dX8_way_65
  · skip
    refine lv_iload hx hb dX8_way_28 (lv_at hl 2 rfl) ?_
    refine lv_iconst (v := 1) hx hb dX8_way_30 (by decide) ?_
    refine lv_bipush (v := 40) hx hb dX8_way_31 (by decide) ?_
    refine pu_call (va_runS (As := [.int (a3 / 1000000), .int 1, .int 40]) (rest := []) ⟨hx, hb, hml, hown, hts⟩ (c_X8_in l (a3 / 1000000) 1 40) (va_cwS 3 hts gX8_way_X8_in rfl rfl rfl (by decide +kernel) ⟨Nat.le_of_ble_eq_true rfl, Nat.le_of_ble_eq_true rfl⟩) pu_preS rfl rfl hl.1 rfl (lv_room (Nat.le_of_ble_eq_true rfl)) dX8_way_33 ⟨Nat.le_of_ble_eq_true rfl, Nat.le_of_ble_eq_true rfl⟩) ?_
    refine lv_if_eq (tgt := 64) hx hb dX8_way_36 (by decide) (fun h_3 => ?_) (fun h_3 => ?_)
    · skip
      refine lv_iconst (v := (-1)) hx hb dX8_way_64 (by decide) ?_
      have hq4 : rM_way n F a1 a2 a3 a4 = ((-1), n, F) := by exact (if_neg h_1).trans (if_pos h_3)
      exact W.iret (v := (-1)) hx hb hr (fun t9 ht hW => ⟨⟨(-1), (n, F), rfl, ⟨hq4.symm, hD, hI, hN⟩, by show va_P (dC, dI) vwCl _ t9.heap; rw [ht]; exact hP⟩, hS.F ht⟩) hS.2.2 dX8_way_65
    · skip
      refine lv_iload hx hb dX8_way_39 (lv_at hl 1 rfl) ?_
      refine lv_iconst (v := 0) hx hb dX8_way_41 (by decide) ?_
      refine lv_sipush (v := 364) hx hb dX8_way_42 (by decide) ?_
      refine pu_call (va_runS (As := [.int ((a3 / 1000) - (a3 / 1000) / 1000 * 1000), .int 0, .int 364]) (rest := []) ⟨hx, hb, hml, hown, hts⟩ (c_X8_in l ((a3 / 1000) - (a3 / 1000) / 1000 * 1000) 0 364) (va_cwS 3 hts gX8_way_X8_in rfl rfl rfl (by decide +kernel) ⟨Nat.le_of_ble_eq_true rfl, Nat.le_of_ble_eq_true rfl⟩) pu_preS rfl rfl hl.1 rfl (lv_room (Nat.le_of_ble_eq_true rfl)) dX8_way_45 ⟨Nat.le_of_ble_eq_true rfl, Nat.le_of_ble_eq_true rfl⟩) ?_
      refine lv_if_eq (tgt := 64) hx hb dX8_way_48 (by decide) (fun h_5 => ?_) (fun h_5 => ?_)
      · skip
        refine lv_iconst (v := (-1)) hx hb dX8_way_64 (by decide) ?_
        have hq6 : rM_way n F a1 a2 a3 a4 = ((-1), n, F) := by exact (if_neg h_1).trans ((if_neg h_3).trans (if_pos h_5))
        exact W.iret (v := (-1)) hx hb hr (fun t9 ht hW => ⟨⟨(-1), (n, F), rfl, ⟨hq6.symm, hD, hI, hN⟩, by show va_P (dC, dI) vwCl _ t9.heap; rw [ht]; exact hP⟩, hS.F ht⟩) hS.2.2 dX8_way_65
      · skip
        refine lv_iload hx hb dX8_way_51 (lv_at hl 0 rfl) ?_
        refine lv_iload hx hb dX8_way_53 (lv_at hl 1 rfl) ?_
        refine lv_sipush (v := 364) hx hb dX8_way_55 (by decide) ?_
        refine pu_call (va_runS (As := [.int (a3 - a3 / 1000 * 1000), .int ((a3 / 1000) - (a3 / 1000) / 1000 * 1000), .int 364]) (rest := []) ⟨hx, hb, hml, hown, hts⟩ (c_X8_in l (a3 - a3 / 1000 * 1000) ((a3 / 1000) - (a3 / 1000) / 1000 * 1000) 364) (va_cwS 3 hts gX8_way_X8_in rfl rfl rfl (by decide +kernel) ⟨Nat.le_of_ble_eq_true rfl, Nat.le_of_ble_eq_true rfl⟩) pu_preS rfl rfl hl.1 rfl (lv_room (Nat.le_of_ble_eq_true rfl)) dX8_way_58 ⟨Nat.le_of_ble_eq_true rfl, Nat.le_of_ble_eq_true rfl⟩) ?_
        refine lv_if_ne (tgt := 66) hx hb dX8_way_61 (by decide) (fun h_7 => ?_) (fun h_7 => ?_)
        · skip
          refine lv_aload_n hx hb dX8_way_66 rfl (lv_at hl 3 rfl) ?_
          refine lv_iload_n hx hb dX8_way_67 rfl (lv_at hl 4 rfl) ?_
          refine pu_call (va_runV (As := [.int a1]) (rest := []) ⟨hx, hb, hml, hown, hts⟩ (k_X8_isPost l dC dI h0 q n cI cZ F hI hN a1) (cwV 1 hts gX8_way_X8_isPost rfl rfl rfl (by decide +kernel) ⟨Nat.le_of_ble_eq_true rfl, Nat.le_of_ble_eq_true rfl⟩) (pu_pre hP hK (ci := 7) (q0 := 0) rfl rfl) rfl rfl hl.1 rfl (lv_room (Nat.le_of_ble_eq_true rfl)) dX8_way_68 ⟨Nat.le_of_ble_eq_true rfl, Nat.le_of_ble_eq_true rfl⟩) ?_
          rw [show rM_isPost n F a1 = (sp_in a1 0 ((nI (n 1)) - 1)) from rfl]
          refine lv_if_eq (tgt := 118) hx hb dX8_way_71 (by decide) (fun h_8 => ?_) (fun h_8 => ?_)
          · skip
            refine lv_iconst (v := (-1)) hx hb dX8_way_118 (by decide) ?_
            have hq9 : rM_way n F a1 a2 a3 a4 = ((-1), n, F) := by exact (if_neg h_1).trans ((if_neg h_3).trans ((if_neg h_5).trans ((if_neg h_7).trans (if_pos h_8))))
            exact W.iret (v := (-1)) hx hb hr (fun t9 ht hW => ⟨⟨(-1), (n, F), rfl, ⟨hq9.symm, hD, hI, hN⟩, by show va_P (dC, dI) vwCl _ t9.heap; rw [ht]; exact hP⟩, hS.F ht⟩) hS.2.2 dX8_way_119
          · skip
            refine lv_aload_n hx hb dX8_way_74 rfl (lv_at hl 3 rfl) ?_
            refine lv_iload_n hx hb dX8_way_75 rfl (lv_at hl 5 rfl) ?_
            refine pu_call (va_runV (As := [.int a2]) (rest := []) ⟨hx, hb, hml, hown, hts⟩ (k_X8_isPost l dC dI h0 q n cI cZ F hI hN a2) (cwV 1 hts gX8_way_X8_isPost rfl rfl rfl (by decide +kernel) ⟨Nat.le_of_ble_eq_true rfl, Nat.le_of_ble_eq_true rfl⟩) (pu_pre hP hK (ci := 7) (q0 := 0) rfl rfl) rfl rfl hl.1 rfl (lv_room (Nat.le_of_ble_eq_true rfl)) dX8_way_76 ⟨Nat.le_of_ble_eq_true rfl, Nat.le_of_ble_eq_true rfl⟩) ?_
            rw [show rM_isPost n F a2 = (sp_in a2 0 ((nI (n 1)) - 1)) from rfl]
            refine lv_if_eq (tgt := 118) hx hb dX8_way_79 (by decide) (fun h_10 => ?_) (fun h_10 => ?_)
            · skip
              refine lv_iconst (v := (-1)) hx hb dX8_way_118 (by decide) ?_
              have hq11 : rM_way n F a1 a2 a3 a4 = ((-1), n, F) := by exact (if_neg h_1).trans ((if_neg h_3).trans ((if_neg h_5).trans ((if_neg h_7).trans ((if_neg h_8).trans (if_pos h_10)))))
              exact W.iret (v := (-1)) hx hb hr (fun t9 ht hW => ⟨⟨(-1), (n, F), rfl, ⟨hq11.symm, hD, hI, hN⟩, by show va_P (dC, dI) vwCl _ t9.heap; rw [ht]; exact hP⟩, hS.F ht⟩) hS.2.2 dX8_way_119
            · skip
              refine lv_iload_n hx hb dX8_way_82 rfl (lv_at hl 4 rfl) ?_
              refine lv_iload_n hx hb dX8_way_83 rfl (lv_at hl 5 rfl) ?_
              refine lv_icmp_eq (tgt := 118) hx hb dX8_way_84 (by decide) (fun h_12 => ?_) (fun h_12 => ?_)
              · skip
                refine lv_iconst (v := (-1)) hx hb dX8_way_118 (by decide) ?_
                have hq13 : rM_way n F a1 a2 a3 a4 = ((-1), n, F) := by exact (if_neg h_1).trans ((if_neg h_3).trans ((if_neg h_5).trans ((if_neg h_7).trans ((if_neg h_8).trans ((if_neg h_10).trans (if_pos h_12))))))
                exact W.iret (v := (-1)) hx hb hr (fun t9 ht hW => ⟨⟨(-1), (n, F), rfl, ⟨hq13.symm, hD, hI, hN⟩, by show va_P (dC, dI) vwCl _ t9.heap; rw [ht]; exact hP⟩, hS.F ht⟩) hS.2.2 dX8_way_119
              · skip
                refine lv_aload_n hx hb dX8_way_87 rfl (lv_at hl 3 rfl) ?_
                refine lv_iload_n hx hb dX8_way_88 rfl (lv_at hl 4 rfl) ?_
                refine lv_iload_n hx hb dX8_way_89 rfl (lv_at hl 5 rfl) ?_
                refine pu_call (va_runV (As := [.int a1, .int a2]) (rest := []) ⟨hx, hb, hml, hown, hts⟩ (k_X8_between l dC dI h0 q n cI cZ F hI hN a1 a2) (cwV 2 hts gX8_way_X8_between rfl rfl rfl (by decide +kernel) ⟨Nat.le_of_ble_eq_true rfl, Nat.le_of_ble_eq_true rfl⟩) (pu_pre hP hK (ci := 7) (q0 := 0) rfl rfl) rfl rfl hl.1 rfl (lv_room (Nat.le_of_ble_eq_true rfl)) dX8_way_90 ⟨Nat.le_of_ble_eq_true rfl, Nat.le_of_ble_eq_true rfl⟩) ?_
                refine lv_topi (fun r14 (e14 : r14 = rM_between n F a1 a2) => ?_)
                refine lv_iconst (v := (-1)) hx hb dX8_way_93 (by decide) ?_
                refine lv_icmp_ne (tgt := 118) hx hb dX8_way_94 (by decide) (fun h_15 => ?_) (fun h_15 => ?_)
                · skip
                  refine lv_iconst (v := (-1)) hx hb dX8_way_118 (by decide) ?_
                  have hq16 : rM_way n F a1 a2 a3 a4 = ((-1), n, F) := by subst e14; exact (if_neg h_1).trans ((if_neg h_3).trans ((if_neg h_5).trans ((if_neg h_7).trans ((if_neg h_8).trans ((if_neg h_10).trans ((if_neg h_12).trans (if_neg h_15)))))))
                  exact W.iret (v := (-1)) hx hb hr (fun t9 ht hW => ⟨⟨(-1), (n, F), rfl, ⟨hq16.symm, hD, hI, hN⟩, by show va_P (dC, dI) vwCl _ t9.heap; rw [ht]; exact hP⟩, hS.F ht⟩) hS.2.2 dX8_way_119
                · skip
                  refine lv_iload hx hb dX8_way_97 (lv_at hl 7 rfl) ?_
                  refine lv_iconst (v := 1) hx hb dX8_way_99 (by decide) ?_
                  refine lv_sipush (v := 500) hx hb dX8_way_100 (by decide) ?_
                  refine pu_call (va_runS (As := [.int a4, .int 1, .int 500]) (rest := []) ⟨hx, hb, hml, hown, hts⟩ (c_X8_in l a4 1 500) (va_cwS 3 hts gX8_way_X8_in rfl rfl rfl (by decide +kernel) ⟨Nat.le_of_ble_eq_true rfl, Nat.le_of_ble_eq_true rfl⟩) pu_preS rfl rfl hl.1 rfl (lv_room (Nat.le_of_ble_eq_true rfl)) dX8_way_103 ⟨Nat.le_of_ble_eq_true rfl, Nat.le_of_ble_eq_true rfl⟩) ?_
                  refine lv_if_eq (tgt := 118) hx hb dX8_way_106 (by decide) (fun h_17 => ?_) (fun h_17 => ?_)
                  · skip
                    refine lv_iconst (v := (-1)) hx hb dX8_way_118 (by decide) ?_
                    have hq18 : rM_way n F a1 a2 a3 a4 = ((-1), n, F) := by subst e14; exact (if_neg h_1).trans ((if_neg h_3).trans ((if_neg h_5).trans ((if_neg h_7).trans ((if_neg h_8).trans ((if_neg h_10).trans ((if_neg h_12).trans ((if_pos h_15).trans (if_pos h_17))))))))
                    exact W.iret (v := (-1)) hx hb hr (fun t9 ht hW => ⟨⟨(-1), (n, F), rfl, ⟨hq18.symm, hD, hI, hN⟩, by show va_P (dC, dI) vwCl _ t9.heap; rw [ht]; exact hP⟩, hS.F ht⟩) hS.2.2 dX8_way_119
                  · skip
                    refine lv_aload_n hx hb dX8_way_109 rfl (lv_at hl 3 rfl) ?_
                    refine va_get (D := (dC, dI)) (ci := 7) (v := .int (nI (n 2))) (C := RX8) (T := TX8) (N := 37) hx hb hts hinX8 hown hK hP 0 rfl rfl 5 (by decide) (hts (.fieldLink RX8 115 "FurPostsModel" "ways" "I") (by decide +kernel)) (fun _ h9 => h9) rfl dX8_way_110 ?_
                    refine lv_bipush (v := 12) hx hb dX8_way_113 (by decide) ?_
                    refine lv_icmp_ne (tgt := 120) hx hb dX8_way_115 (by decide) (fun h_19 => ?_) (fun h_19 => ?_)
                    · skip
                      refine lv_aload_n hx hb dX8_way_120 rfl (lv_at hl 3 rfl) ?_
                      refine va_get (D := (dC, dI)) (ci := 7) (v := .ref (q 6)) (C := RX8) (T := TX8) (N := 37) hx hb hts hinX8 hown hK hP 0 rfl rfl 6 (by decide) (hts (.fieldLink RX8 19 "FurPostsModel" "wayA" "[I") (by decide +kernel)) (fun _ h9 => h9) rfl dX8_way_121 ?_
                      refine lv_aload_n hx hb dX8_way_124 rfl (lv_at hl 3 rfl) ?_
                      refine va_get (D := (dC, dI)) (ci := 7) (v := .int (nI (n 2))) (C := RX8) (T := TX8) (N := 37) hx hb hts hinX8 hown hK hP 0 rfl rfl 5 (by decide) (hts (.fieldLink RX8 115 "FurPostsModel" "ways" "I") (by decide +kernel)) (fun _ h9 => h9) rfl dX8_way_125 ?_
                      refine lv_iload_n hx hb dX8_way_128 rfl (lv_at hl 4 rfl) ?_
                      refine va_iast hx hb hK hP hD hS 4 0 rfl rfl (i := (nI (n 2))) (x := a1) (vp_in_nI (show n 2 < 12 by have := nI_nev (B := 12) h_19 rfl; omega) (by decide)) dX8_way_129 (fun H locs hP2 hD2 hS => ?_)
                      obtain ⟨F20, e20, hP, hD, hI20⟩ : ∃ F20 : Nat → Nat → Int32, F20 = up2 F 6 (nI (n 2)).toNatClampNeg a1 ∧ va_P (dC, dI) vwCl (mw_ h0 q n (F20 44 0) cI cZ F20) H ∧ va_D A (mw_ h0 q n (F20 44 0) cI cZ F20) ∧ mi_ n F20 := ⟨_, rfl, hP2, hD2, mi_up6 hI (sp_vpn h_8 (show n 1 ≤ 8 by omega) (by decide))⟩
                      rw [(nI_clamp (by omega))] at e20
                      refine lv_aload_n hx hb dX8_way_130 rfl (lv_at hl 3 rfl) ?_
                      refine va_get (D := (dC, dI)) (ci := 7) (v := .ref (q 7)) (C := RX8) (T := TX8) (N := 37) hx hb hts hinX8 hown hK hP 0 rfl rfl 7 (by decide) (hts (.fieldLink RX8 22 "FurPostsModel" "wayB" "[I") (by decide +kernel)) (fun _ h9 => h9) rfl dX8_way_131 ?_
                      refine lv_aload_n hx hb dX8_way_134 rfl (lv_at hl 3 rfl) ?_
                      refine va_get (D := (dC, dI)) (ci := 7) (v := .int (nI (n 2))) (C := RX8) (T := TX8) (N := 37) hx hb hts hinX8 hown hK hP 0 rfl rfl 5 (by decide) (hts (.fieldLink RX8 115 "FurPostsModel" "ways" "I") (by decide +kernel)) (fun _ h9 => h9) rfl dX8_way_135 ?_
                      refine lv_iload_n hx hb dX8_way_138 rfl (lv_at hl 5 rfl) ?_
                      refine va_iast hx hb hK hP hD hS 5 0 rfl rfl (i := (nI (n 2))) (x := a2) (vp_in_nI (show n 2 < 12 by have := nI_nev (B := 12) h_19 rfl; omega) (by decide)) dX8_way_139 (fun H locs hP2 hD2 hS => ?_)
                      obtain ⟨F21, e21, hP, hD, hI21⟩ : ∃ F21 : Nat → Nat → Int32, F21 = up2 F20 7 (nI (n 2)).toNatClampNeg a2 ∧ va_P (dC, dI) vwCl (mw_ h0 q n (F21 44 0) cI cZ F21) H ∧ va_D A (mw_ h0 q n (F21 44 0) cI cZ F21) ∧ mi_ n F21 := ⟨_, rfl, hP2, hD2, mi_up7 hI20 (sp_vpn h_10 (show n 1 ≤ 8 by omega) (by decide))⟩
                      rw [(nI_clamp (by omega))] at e21
                      refine lv_aload_n hx hb dX8_way_140 rfl (lv_at hl 3 rfl) ?_
                      refine va_get (D := (dC, dI)) (ci := 7) (v := .ref (q 8)) (C := RX8) (T := TX8) (N := 37) hx hb hts hinX8 hown hK hP 0 rfl rfl 8 (by decide) (hts (.fieldLink RX8 25 "FurPostsModel" "wayLong" "[I") (by decide +kernel)) (fun _ h9 => h9) rfl dX8_way_141 ?_
                      refine lv_aload_n hx hb dX8_way_144 rfl (lv_at hl 3 rfl) ?_
                      refine va_get (D := (dC, dI)) (ci := 7) (v := .int (nI (n 2))) (C := RX8) (T := TX8) (N := 37) hx hb hts hinX8 hown hK hP 0 rfl rfl 5 (by decide) (hts (.fieldLink RX8 115 "FurPostsModel" "ways" "I") (by decide +kernel)) (fun _ h9 => h9) rfl dX8_way_145 ?_
                      refine lv_iload hx hb dX8_way_148 (lv_at hl 2 rfl) ?_
                      refine va_iast hx hb hK hP hD hS 6 0 rfl rfl (i := (nI (n 2))) (x := (a3 / 1000000)) (vp_in_nI (show n 2 < 12 by have := nI_nev (B := 12) h_19 rfl; omega) (by decide)) dX8_way_150 (fun H locs hP2 hD2 hS => ?_)
                      obtain ⟨F22, e22, hP, hD, hI22⟩ : ∃ F22 : Nat → Nat → Int32, F22 = up2 F21 8 (nI (n 2)).toNatClampNeg (a3 / 1000000) ∧ va_P (dC, dI) vwCl (mw_ h0 q n (F22 44 0) cI cZ F22) H ∧ va_D A (mw_ h0 q n (F22 44 0) cI cZ F22) ∧ mi_ n F22 := ⟨_, rfl, hP2, hD2, hI21⟩
                      rw [(nI_clamp (by omega))] at e22
                      refine lv_aload_n hx hb dX8_way_151 rfl (lv_at hl 3 rfl) ?_
                      refine va_get (D := (dC, dI)) (ci := 7) (v := .ref (q 9)) (C := RX8) (T := TX8) (N := 37) hx hb hts hinX8 hown hK hP 0 rfl rfl 9 (by decide) (hts (.fieldLink RX8 28 "FurPostsModel" "opens" "[I") (by decide +kernel)) (fun _ h9 => h9) rfl dX8_way_152 ?_
                      refine lv_aload_n hx hb dX8_way_155 rfl (lv_at hl 3 rfl) ?_
                      refine va_get (D := (dC, dI)) (ci := 7) (v := .int (nI (n 2))) (C := RX8) (T := TX8) (N := 37) hx hb hts hinX8 hown hK hP 0 rfl rfl 5 (by decide) (hts (.fieldLink RX8 115 "FurPostsModel" "ways" "I") (by decide +kernel)) (fun _ h9 => h9) rfl dX8_way_156 ?_
                      refine lv_iload hx hb dX8_way_159 (lv_at hl 1 rfl) ?_
                      refine va_iast hx hb hK hP hD hS 7 0 rfl rfl (i := (nI (n 2))) (x := ((a3 / 1000) - (a3 / 1000) / 1000 * 1000)) (vp_in_nI (show n 2 < 12 by have := nI_nev (B := 12) h_19 rfl; omega) (by decide)) dX8_way_161 (fun H locs hP2 hD2 hS => ?_)
                      obtain ⟨F23, e23, hP, hD, hI23⟩ : ∃ F23 : Nat → Nat → Int32, F23 = up2 F22 9 (nI (n 2)).toNatClampNeg ((a3 / 1000) - (a3 / 1000) / 1000 * 1000) ∧ va_P (dC, dI) vwCl (mw_ h0 q n (F23 44 0) cI cZ F23) H ∧ va_D A (mw_ h0 q n (F23 44 0) cI cZ F23) ∧ mi_ n F23 := ⟨_, rfl, hP2, hD2, hI22⟩
                      rw [(nI_clamp (by omega))] at e23
                      refine lv_aload_n hx hb dX8_way_162 rfl (lv_at hl 3 rfl) ?_
                      refine va_get (D := (dC, dI)) (ci := 7) (v := .ref (q 10)) (C := RX8) (T := TX8) (N := 37) hx hb hts hinX8 hown hK hP 0 rfl rfl 10 (by decide) (hts (.fieldLink RX8 31 "FurPostsModel" "shuts" "[I") (by decide +kernel)) (fun _ h9 => h9) rfl dX8_way_163 ?_
                      refine lv_aload_n hx hb dX8_way_166 rfl (lv_at hl 3 rfl) ?_
                      refine va_get (D := (dC, dI)) (ci := 7) (v := .int (nI (n 2))) (C := RX8) (T := TX8) (N := 37) hx hb hts hinX8 hown hK hP 0 rfl rfl 5 (by decide) (hts (.fieldLink RX8 115 "FurPostsModel" "ways" "I") (by decide +kernel)) (fun _ h9 => h9) rfl dX8_way_167 ?_
                      refine lv_iload hx hb dX8_way_170 (lv_at hl 0 rfl) ?_
                      refine va_iast hx hb hK hP hD hS 8 0 rfl rfl (i := (nI (n 2))) (x := (a3 - a3 / 1000 * 1000)) (vp_in_nI (show n 2 < 12 by have := nI_nev (B := 12) h_19 rfl; omega) (by decide)) dX8_way_172 (fun H locs hP2 hD2 hS => ?_)
                      obtain ⟨F24, e24, hP, hD, hI24⟩ : ∃ F24 : Nat → Nat → Int32, F24 = up2 F23 10 (nI (n 2)).toNatClampNeg (a3 - a3 / 1000 * 1000) ∧ va_P (dC, dI) vwCl (mw_ h0 q n (F24 44 0) cI cZ F24) H ∧ va_D A (mw_ h0 q n (F24 44 0) cI cZ F24) ∧ mi_ n F24 := ⟨_, rfl, hP2, hD2, hI23⟩
                      rw [(nI_clamp (by omega))] at e24
                      refine lv_aload_n hx hb dX8_way_173 rfl (lv_at hl 3 rfl) ?_
                      refine va_get (D := (dC, dI)) (ci := 7) (v := .ref (q 11)) (C := RX8) (T := TX8) (N := 37) hx hb hts hinX8 hown hK hP 0 rfl rfl 11 (by decide) (hts (.fieldLink RX8 34 "FurPostsModel" "bears" "[I") (by decide +kernel)) (fun _ h9 => h9) rfl dX8_way_174 ?_
                      refine lv_aload_n hx hb dX8_way_177 rfl (lv_at hl 3 rfl) ?_
                      refine va_get (D := (dC, dI)) (ci := 7) (v := .int (nI (n 2))) (C := RX8) (T := TX8) (N := 37) hx hb hts hinX8 hown hK hP 0 rfl rfl 5 (by decide) (hts (.fieldLink RX8 115 "FurPostsModel" "ways" "I") (by decide +kernel)) (fun _ h9 => h9) rfl dX8_way_178 ?_
                      refine lv_iload hx hb dX8_way_181 (lv_at hl 7 rfl) ?_
                      refine va_iast hx hb hK hP hD hS 9 0 rfl rfl (i := (nI (n 2))) (x := a4) (vp_in_nI (show n 2 < 12 by have := nI_nev (B := 12) h_19 rfl; omega) (by decide)) dX8_way_183 (fun H locs hP2 hD2 hS => ?_)
                      obtain ⟨F25, e25, hP, hD, hI25⟩ : ∃ F25 : Nat → Nat → Int32, F25 = up2 F24 11 (nI (n 2)).toNatClampNeg a4 ∧ va_P (dC, dI) vwCl (mw_ h0 q n (F25 44 0) cI cZ F25) H ∧ va_D A (mw_ h0 q n (F25 44 0) cI cZ F25) ∧ mi_ n F25 := ⟨_, rfl, hP2, hD2, hI24⟩
                      rw [(nI_clamp (by omega))] at e25
                      refine lv_aload_n hx hb dX8_way_184 rfl (lv_at hl 3 rfl) ?_
                      refine lv_dup hx hb dX8_way_185 rfl ?_
                      refine va_get (D := (dC, dI)) (ci := 7) (v := .int (nI (n 2))) (C := RX8) (T := TX8) (N := 37) hx hb hts hinX8 hown hK hP 0 rfl rfl 5 (by decide) (hts (.fieldLink RX8 115 "FurPostsModel" "ways" "I") (by decide +kernel)) (fun _ h9 => h9) rfl dX8_way_186 ?_
                      refine lv_iconst (v := 1) hx hb dX8_way_189 (by decide) ?_
                      refine lv_iadd hx hb dX8_way_190 ?_
                      rw [nI_1]
                      refine va_put (D := (dC, dI)) (ci := 7) (v := .int (nI ((n 2) + 1))) (ty := .int) (C := RX8) (T := TX8) (N := 37) hx hb hts hinX8 tyX8 tyX8_ok nmX8 hown hK hP hD hS 0 rfl rfl 5 (by decide) (hts (.fieldLink RX8 115 "FurPostsModel" "ways" "I") (by decide +kernel)) (fun _ h9 => h9) rfl (by decide +kernel) rfl rfl (Nat.le_of_ble_eq_true rfl) dX8_way_191 (fun H locs hP2 hD2 hS => ?_)
                      obtain ⟨n26, e26, hP, hD⟩ : ∃ n26 : Nat → Nat, n26 = va_up n 2 ((n 2) + 1) ∧ va_P (dC, dI) vwCl (mw_ h0 q n26 (F25 44 0) cI cZ F25) H ∧ va_D A (mw_ h0 q n26 (F25 44 0) cI cZ F25) := ⟨_, rfl, hP2, hD2⟩
                      have hN : nb_ n26 := by rw [e26]; exact ⟨hN.1, hN.2.1, (show ((n 2) + 1) ≤ 12 by have := nI_nev (B := 12) h_19 rfl; omega), hN.2.2.2.1, hN.2.2.2.2⟩
                      have hI26 : mi_ n26 F25 := by rw [e26]; exact hI25
                      refine lv_aload_n hx hb dX8_way_194 rfl (lv_at hl 3 rfl) ?_
                      refine va_get (D := (dC, dI)) (ci := 7) (v := .int (nI (n26 2))) (C := RX8) (T := TX8) (N := 37) hx hb hts hinX8 hown hK hP 0 rfl rfl 5 (by decide) (hts (.fieldLink RX8 115 "FurPostsModel" "ways" "I") (by decide +kernel)) (fun _ h9 => h9) rfl dX8_way_195 ?_
                      refine lv_iconst (v := 1) hx hb dX8_way_198 (by decide) ?_
                      refine lv_isub hx hb dX8_way_199 ?_
                      have hq27 : rM_way n F a1 a2 a3 a4 = (((nI (n26 2)) - 1), n26, F25) := by subst e26 e25 e24 e23 e22 e21 e20 e14; exact (if_neg h_1).trans ((if_neg h_3).trans ((if_neg h_5).trans ((if_neg h_7).trans ((if_neg h_8).trans ((if_neg h_10).trans ((if_neg h_12).trans ((if_pos h_15).trans ((if_neg h_17).trans (if_neg h_19)))))))))
                      exact W.iret (v := ((nI (n26 2)) - 1)) hx hb hr (fun t9 ht hW => ⟨⟨((nI (n26 2)) - 1), (n26, F25), rfl, ⟨hq27.symm, hD, hI26, hN⟩, by show va_P (dC, dI) vwCl _ t9.heap; rw [ht]; exact hP⟩, hS.F ht⟩) hS.2.2 dX8_way_200
                    · skip
                      refine lv_iconst (v := (-1)) hx hb dX8_way_118 (by decide) ?_
                      have hq28 : rM_way n F a1 a2 a3 a4 = ((-1), n, F) := by subst e14; exact (if_neg h_1).trans ((if_neg h_3).trans ((if_neg h_5).trans ((if_neg h_7).trans ((if_neg h_8).trans ((if_neg h_10).trans ((if_neg h_12).trans ((if_pos h_15).trans ((if_neg h_17).trans (if_pos h_19)))))))))
                      exact W.iret (v := (-1)) hx hb hr (fun t9 ht hW => ⟨⟨(-1), (n, F), rfl, ⟨hq28.symm, hD, hI, hN⟩, by show va_P (dC, dI) vwCl _ t9.heap; rw [ht]; exact hP⟩, hS.F ht⟩) hS.2.2 dX8_way_119
        · skip
          refine lv_iconst (v := (-1)) hx hb dX8_way_64 (by decide) ?_
          have hq29 : rM_way n F a1 a2 a3 a4 = ((-1), n, F) := by exact (if_neg h_1).trans ((if_neg h_3).trans ((if_neg h_5).trans (if_pos h_7)))
          exact W.iret (v := (-1)) hx hb hr (fun t9 ht hW => ⟨⟨(-1), (n, F), rfl, ⟨hq29.symm, hD, hI, hN⟩, by show va_P (dC, dI) vwCl _ t9.heap; rw [ht]; exact hP⟩, hS.F ht⟩) hS.2.2 dX8_way_65

set_option maxHeartbeats 8000000 in
set_option maxRecDepth 100000 in
theorem m_X8_send (l : Launch) (dC : Nat → ClassId) (dI : Nat → Nat → Nat) (h0 : Nat) (q n : Nat → Nat) (cI cZ : ClassId) (F : Nat → Nat → Int32) (hI : mi_ n F) (hN : nb_ n) (A : Nat → Prop) (hD : va_D A (mw_ h0 q n (F 44 0) cI cZ F)) (a1 : Int32) (a2 : Int32) : Met l yX8_send wsX8_send ({ frames := 3, cells := 0, slots := 0, locals := 67 }) (va_Pc [.ref h0, .int a1, .int a2] (pu_P (dC, dI) vwCl (mt_ cI cZ) (mw_ h0 q n (F 44 0) cI cZ F))) (va_Qi (fun r (u : (Nat → Nat) × (Nat → Nat → Int32)) => (r, u) = rM_send n F a1 a2 ∧ va_D A (mw_ h0 q u.1 (u.2 44 0) cI cZ u.2) ∧ mi_ u.1 u.2 ∧ nb_ u.1) (fun u s' => va_P (dC, dI) vwCl (mw_ h0 q u.1 (u.2 44 0) cI cZ u.2) s'.heap) A) 0 0 A := by
  refine Met.ofW (cc := cX8_send) (maxL := 6) (ret := (some .int)) (by decide) rfl ?_
  intro p e s m args below meth c s₁ B hml hv
  obtain ⟨rfl, hP, hK⟩ := hv
  have hx := B.exec
  have hb := B.bytes
  have hr := B.returns
  have hts := atoms_spec (ws := wsX8_send) B.pre
  have hown : s.vm.findClass RX8 = some m.cls := findClass_of_methodNamed B.named
  have hlocks := B.notSynchronized
  have hinX8 : ∀ w ∈ u_ws RX8 TX8 37, w ∈ wsX8_send := by decide +kernel
  have hS : va_S A s.heap s.heap [] := va_S.rf
  have hl := lv_entry ([.ref h0, .int a1, .int a2]) (n := 6) (Nat.le_of_ble_eq_true rfl)
  rw [lg_entry_eq]
  generalize (lg_sl ([.ref h0, .int a1, .int a2]) ++ List.replicate (6 - (lg_sl ([.ref h0, .int a1, .int a2])).length) Slot.unset).toArray = ls at hl ⊢
  have hl : lv_has ls 6 [(0, .ref h0), (1, .int a1), (2, .int a2)] := hl
  obtain ⟨H, hH, hP, hS⟩ : ∃ H, H = s.heap ∧ va_P (dC, dI) vwCl (mw_ h0 q n (F 44 0) cI cZ F) H ∧ va_S A s.heap H [] := ⟨_, rfl, hP, hS⟩
  rw [← hH]
  generalize ([] : List Loc) = locs at hS ⊢
  refine lv_aload_n hx hb dX8_send_0 rfl (lv_at hl 0 rfl) ?_
  refine lv_iload_n hx hb dX8_send_1 rfl (lv_at hl 1 rfl) ?_
  refine pu_call (va_runV (As := [.int a1]) (rest := []) ⟨hx, hb, hml, hown, hts⟩ (k_X8_isPost l dC dI h0 q n cI cZ F hI hN a1) (cwV 1 hts gX8_send_X8_isPost rfl rfl rfl (by decide +kernel) ⟨Nat.le_of_ble_eq_true rfl, Nat.le_of_ble_eq_true rfl⟩) (pu_pre hP hK (ci := 7) (q0 := 0) rfl rfl) rfl rfl hl.1 rfl (lv_room (Nat.le_of_ble_eq_true rfl)) dX8_send_2 ⟨Nat.le_of_ble_eq_true rfl, Nat.le_of_ble_eq_true rfl⟩) ?_
  rw [show rM_isPost n F a1 = (sp_in a1 0 ((nI (n 1)) - 1)) from rfl]
  refine lv_if_eq (tgt := 42) hx hb dX8_send_5 (by decide) (fun h_1 => ?_) (fun h_1 => ?_)
  · skip
    refine lv_iconst (v := (-1)) hx hb dX8_send_42 (by decide) ?_
    have hq2 : rM_send n F a1 a2 = ((-1), n, F) := by exact (if_pos h_1)
    exact W.iret (v := (-1)) hx hb hr (fun t9 ht hW => ⟨⟨(-1), (n, F), rfl, ⟨hq2.symm, hD, hI, hN⟩, by show va_P (dC, dI) vwCl _ t9.heap; rw [ht]; exact hP⟩, hS.F ht⟩) hS.2.2 dX8_send_43
  · skip
    refine lv_iload_n hx hb dX8_send_8 rfl (lv_at hl 2 rfl) ?_
    refine lv_iconst (v := 0) hx hb dX8_send_9 (by decide) ?_
    refine lv_aload_n hx hb dX8_send_10 rfl (lv_at hl 0 rfl) ?_
    refine va_get (D := (dC, dI)) (ci := 7) (v := .int (nI (n 2))) (C := RX8) (T := TX8) (N := 37) hx hb hts hinX8 hown hK hP 0 rfl rfl 5 (by decide) (hts (.fieldLink RX8 115 "FurPostsModel" "ways" "I") (by decide +kernel)) (fun _ h9 => h9) rfl dX8_send_11 ?_
    refine lv_iconst (v := 1) hx hb dX8_send_14 (by decide) ?_
    refine lv_isub hx hb dX8_send_15 ?_
    refine pu_call (va_runS (As := [.int a2, .int 0, .int ((nI (n 2)) - 1)]) (rest := []) ⟨hx, hb, hml, hown, hts⟩ (c_X8_in l a2 0 ((nI (n 2)) - 1)) (va_cwS 3 hts gX8_send_X8_in rfl rfl rfl (by decide +kernel) ⟨Nat.le_of_ble_eq_true rfl, Nat.le_of_ble_eq_true rfl⟩) pu_preS rfl rfl hl.1 rfl (lv_room (Nat.le_of_ble_eq_true rfl)) dX8_send_16 ⟨Nat.le_of_ble_eq_true rfl, Nat.le_of_ble_eq_true rfl⟩) ?_
    refine lv_if_eq (tgt := 42) hx hb dX8_send_19 (by decide) (fun h_3 => ?_) (fun h_3 => ?_)
    · skip
      refine lv_iconst (v := (-1)) hx hb dX8_send_42 (by decide) ?_
      have hq4 : rM_send n F a1 a2 = ((-1), n, F) := by exact (if_neg h_1).trans (if_pos h_3)
      exact W.iret (v := (-1)) hx hb hr (fun t9 ht hW => ⟨⟨(-1), (n, F), rfl, ⟨hq4.symm, hD, hI, hN⟩, by show va_P (dC, dI) vwCl _ t9.heap; rw [ht]; exact hP⟩, hS.F ht⟩) hS.2.2 dX8_send_43
    · skip
      have mg44 : rM_send n F a1 a2 = (rM_send_M44 n a2 a1 F) → W p l e (headSpec wsX8_send ({ frames := 3, cells := 0, slots := 0, locals := 67 })).room s m [.ref h0, .int a1, .int a2].toArray below meth c H locs 0 0 (MQ below (va_Qi (fun r (u : (Nat → Nat) × (Nat → Nat → Int32)) => (r, u) = rM_send n F a1 a2 ∧ va_D A (mw_ h0 q u.1 (u.2 44 0) cI cZ u.2) ∧ mi_ u.1 u.2 ∧ nb_ u.1) (fun u s' => va_P (dC, dI) vwCl (mw_ h0 q u.1 (u.2 44 0) cI cZ u.2) s'.heap) A) [.ref h0, .int a1, .int a2].toArray s 0 0 A) (F0 m 44 ls []) := by
        intro hM44
        refine lv_iconst (v := 0) hx hb dX8_send_44 (by decide) ?_
        refine lv_istore_n (lv' := [(3, .int 0), (0, .ref h0), (1, .int a1), (2, .int a2)]) hx hb dX8_send_45 rfl hl (by decide) rfl (fun ls hl => ?_)
        refine lv_iconst (v := 0) hx hb dX8_send_46 (by decide) ?_
        refine lv_istore (lv' := [(4, .int 0), (3, .int 0), (0, .ref h0), (1, .int a1), (2, .int a2)]) hx hb dX8_send_47 hl (by decide) rfl (fun ls hl => ?_)
        have key49 : ∀ (k jL49 : Nat) (FL49 : Nat → Nat → Int32) (xL49_3 : Int32) (H : Heap) (locs : List Loc) (ls : Array Slot), jL49 + k = 6 → rM_send n F a1 a2 = (rM_send_L49 n a2 a1 k jL49 FL49 xL49_3) → va_P (dC, dI) vwCl (mw_ h0 q n (FL49 44 0) cI cZ FL49) H → va_D A (mw_ h0 q n (FL49 44 0) cI cZ FL49) → mi_ n FL49 → va_S A s.heap H locs → lv_has ls 6 [(4, .int (nI jL49)), (3, .int xL49_3), (0, .ref h0), (1, .int a1), (2, .int a2)] → 
            W p l e (headSpec wsX8_send ({ frames := 3, cells := 0, slots := 0, locals := 67 })).room s m [.ref h0, .int a1, .int a2].toArray below meth c H locs 0 0 (MQ below (va_Qi (fun r (u : (Nat → Nat) × (Nat → Nat → Int32)) => (r, u) = rM_send n F a1 a2 ∧ va_D A (mw_ h0 q u.1 (u.2 44 0) cI cZ u.2) ∧ mi_ u.1 u.2 ∧ nb_ u.1) (fun u s' => va_P (dC, dI) vwCl (mw_ h0 q u.1 (u.2 44 0) cI cZ u.2) s'.heap) A) [.ref h0, .int a1, .int a2].toArray s 0 0 A) (F0 m 49 ls []) := by
          intro k
          induction k with
          | zero =>
            intro jL49 FL49 xL49_3 H locs ls hj hE49 hP hD hIz49 hS hl
            have hj : jL49 = 6 := by omega
            subst jL49
            refine lv_iload hx hb dX8_send_49 (lv_at hl 0 rfl) ?_
            refine lv_bipush (v := 6) hx hb dX8_send_51 (by decide) ?_
            refine lv_icmp_ge (tgt := 91) hx hb dX8_send_53 (by decide) (fun h_5 => ?_) (fun h_5 => absurd (lp_ge0 (B := 6) rfl) h_5)
            refine lv_aload_n hx hb dX8_send_91 rfl (lv_at hl 2 rfl) ?_
            refine lv_iload_n hx hb dX8_send_92 rfl (lv_at hl 4 rfl) ?_
            refine lv_aload_n hx hb dX8_send_93 rfl (lv_at hl 2 rfl) ?_
            refine va_get (D := (dC, dI)) (ci := 7) (v := .int (nI (n 0))) (C := RX8) (T := TX8) (N := 37) hx hb hts hinX8 hown hK hP 0 rfl rfl 0 (by decide) (hts (.fieldLink RX8 137 "FurPostsModel" "now" "I") (by decide +kernel)) (fun _ h9 => h9) rfl dX8_send_94 ?_
            refine pu_call (va_runV (As := [.int a2, .int (nI (n 0))]) (rest := []) ⟨hx, hb, hml, hown, hts⟩ (k_X8_isOpen l dC dI h0 q n cI cZ FL49 hIz49 hN a2 (nI (n 0)) (sp_vpn h_3 (show n 2 ≤ 12 by omega) (by decide))) (cwV 2 hts gX8_send_X8_isOpen rfl rfl rfl (by decide +kernel) ⟨Nat.le_of_ble_eq_true rfl, Nat.le_of_ble_eq_true rfl⟩) (pu_pre hP hK (ci := 7) (q0 := 0) rfl rfl) rfl rfl hl.1 rfl (lv_room (Nat.le_of_ble_eq_true rfl)) dX8_send_97 ⟨Nat.le_of_ble_eq_true rfl, Nat.le_of_ble_eq_true rfl⟩) ?_
            refine lv_topi (fun r6 (e6 : r6 = rM_isOpen n FL49 a2 (nI (n 0))) => ?_)
            refine lv_if_eq (tgt := 132) hx hb dX8_send_100 (by decide) (fun h_7 => ?_) (fun h_7 => ?_)
            · skip
              refine lv_iconst (v := (-1)) hx hb dX8_send_132 (by decide) ?_
              have hq8 : rM_send n F a1 a2 = ((-1), n, FL49) := by subst e6; exact hE49.trans (if_pos h_7)
              exact W.iret (v := (-1)) hx hb hr (fun t9 ht hW => ⟨⟨(-1), (n, FL49), rfl, ⟨hq8.symm, hD, hIz49, hN⟩, by show va_P (dC, dI) vwCl _ t9.heap; rw [ht]; exact hP⟩, hS.F ht⟩) hS.2.2 dX8_send_133
            · skip
              refine lv_iload_n hx hb dX8_send_103 rfl (lv_at hl 1 rfl) ?_
              refine lv_aload_n hx hb dX8_send_104 rfl (lv_at hl 2 rfl) ?_
              refine va_get (D := (dC, dI)) (ci := 7) (v := .ref (q 11)) (C := RX8) (T := TX8) (N := 37) hx hb hts hinX8 hown hK hP 0 rfl rfl 11 (by decide) (hts (.fieldLink RX8 34 "FurPostsModel" "bears" "[I") (by decide +kernel)) (fun _ h9 => h9) rfl dX8_send_105 ?_
              refine lv_iload_n hx hb dX8_send_108 rfl (lv_at hl 4 rfl) ?_
              refine va_iald hx hb hK hP 9 0 rfl rfl (i := a2) (sp_vpn h_3 (show n 2 ≤ 12 by omega) (by decide)) dX8_send_109 ?_
              refine lv_topi (fun v9 (e9 : v9 = FL49 11 a2.toNatClampNeg) => ?_)
              refine lv_icmp_gt (tgt := 132) hx hb dX8_send_110 (by decide) (fun h_10 => ?_) (fun h_10 => ?_)
              · skip
                refine lv_iconst (v := (-1)) hx hb dX8_send_132 (by decide) ?_
                have hq11 : rM_send n F a1 a2 = ((-1), n, FL49) := by subst e9 e6; exact hE49.trans ((if_neg h_7).trans (if_pos h_10))
                exact W.iret (v := (-1)) hx hb hr (fun t9 ht hW => ⟨⟨(-1), (n, FL49), rfl, ⟨hq11.symm, hD, hIz49, hN⟩, by show va_P (dC, dI) vwCl _ t9.heap; rw [ht]; exact hP⟩, hS.F ht⟩) hS.2.2 dX8_send_133
              · skip
                refine lv_aload_n hx hb dX8_send_113 rfl (lv_at hl 2 rfl) ?_
                refine va_get (D := (dC, dI)) (ci := 7) (v := .int (nI (n 3))) (C := RX8) (T := TX8) (N := 37) hx hb hts hinX8 hown hK hP 0 rfl rfl 13 (by decide) (hts (.fieldLink RX8 112 "FurPostsModel" "canoes" "I") (by decide +kernel)) (fun _ h9 => h9) rfl dX8_send_114 ?_
                refine lv_bipush (v := 120) hx hb dX8_send_117 (by decide) ?_
                refine lv_icmp_eq (tgt := 132) hx hb dX8_send_119 (by decide) (fun h_12 => ?_) (fun h_12 => ?_)
                · skip
                  refine lv_iconst (v := (-1)) hx hb dX8_send_132 (by decide) ?_
                  have hq13 : rM_send n F a1 a2 = ((-1), n, FL49) := by subst e9 e6; exact hE49.trans ((if_neg h_7).trans ((if_neg h_10).trans (if_pos h_12)))
                  exact W.iret (v := (-1)) hx hb hr (fun t9 ht hW => ⟨⟨(-1), (n, FL49), rfl, ⟨hq13.symm, hD, hIz49, hN⟩, by show va_P (dC, dI) vwCl _ t9.heap; rw [ht]; exact hP⟩, hS.F ht⟩) hS.2.2 dX8_send_133
                · skip
                  refine lv_aload_n hx hb dX8_send_122 rfl (lv_at hl 2 rfl) ?_
                  refine va_get (D := (dC, dI)) (ci := 7) (v := .int (nI (n 0))) (C := RX8) (T := TX8) (N := 37) hx hb hts hinX8 hown hK hP 0 rfl rfl 0 (by decide) (hts (.fieldLink RX8 137 "FurPostsModel" "now" "I") (by decide +kernel)) (fun _ h9 => h9) rfl dX8_send_123 ?_
                  refine lv_sipush (v := 3000) hx hb dX8_send_126 (by decide) ?_
                  refine lv_icmp_ne (tgt := 134) hx hb dX8_send_129 (by decide) (fun h_14 => ?_) (fun h_14 => ?_)
                  · skip
                    refine lv_aload_n hx hb dX8_send_134 rfl (lv_at hl 2 rfl) ?_
                    refine va_get (D := (dC, dI)) (ci := 7) (v := .int (nI (n 3))) (C := RX8) (T := TX8) (N := 37) hx hb hts hinX8 hown hK hP 0 rfl rfl 13 (by decide) (hts (.fieldLink RX8 112 "FurPostsModel" "canoes" "I") (by decide +kernel)) (fun _ h9 => h9) rfl dX8_send_135 ?_
                    refine lv_istore (lv' := [(4, .int (nI (n 3))), (3, .int xL49_3), (0, .ref h0), (1, .int a1), (2, .int a2)]) hx hb dX8_send_138 hl (by decide) rfl (fun ls hl => ?_)
                    refine lv_aload_n hx hb dX8_send_140 rfl (lv_at hl 2 rfl) ?_
                    refine va_get (D := (dC, dI)) (ci := 7) (v := .ref (q 14)) (C := RX8) (T := TX8) (N := 37) hx hb hts hinX8 hown hK hP 0 rfl rfl 14 (by decide) (hts (.fieldLink RX8 40 "FurPostsModel" "from" "[I") (by decide +kernel)) (fun _ h9 => h9) rfl dX8_send_141 ?_
                    refine lv_iload hx hb dX8_send_144 (lv_at hl 0 rfl) ?_
                    refine lv_iload_n hx hb dX8_send_146 rfl (lv_at hl 3 rfl) ?_
                    refine va_iast hx hb hK hP hD hS 11 0 rfl rfl (i := (nI (n 3))) (x := a1) (vp_in_nI (show n 3 < 120 by have := nI_nev (B := 120) h_12 rfl; omega) (by decide)) dX8_send_147 (fun H locs hP2 hD2 hS => ?_)
                    obtain ⟨F15, e15, hP, hD, hI15⟩ : ∃ F15 : Nat → Nat → Int32, F15 = up2 FL49 14 (nI (n 3)).toNatClampNeg a1 ∧ va_P (dC, dI) vwCl (mw_ h0 q n (F15 44 0) cI cZ F15) H ∧ va_D A (mw_ h0 q n (F15 44 0) cI cZ F15) ∧ mi_ n F15 := ⟨_, rfl, hP2, hD2, hIz49⟩
                    rw [(nI_clamp (by omega))] at e15
                    refine lv_aload_n hx hb dX8_send_148 rfl (lv_at hl 2 rfl) ?_
                    refine va_get (D := (dC, dI)) (ci := 7) (v := .ref (q 15)) (C := RX8) (T := TX8) (N := 37) hx hb hts hinX8 hown hK hP 0 rfl rfl 15 (by decide) (hts (.fieldLink RX8 43 "FurPostsModel" "to" "[I") (by decide +kernel)) (fun _ h9 => h9) rfl dX8_send_149 ?_
                    refine lv_iload hx hb dX8_send_152 (lv_at hl 0 rfl) ?_
                    refine lv_aload_n hx hb dX8_send_154 rfl (lv_at hl 2 rfl) ?_
                    refine va_get (D := (dC, dI)) (ci := 7) (v := .ref (q 6)) (C := RX8) (T := TX8) (N := 37) hx hb hts hinX8 hown hK hP 0 rfl rfl 6 (by decide) (hts (.fieldLink RX8 19 "FurPostsModel" "wayA" "[I") (by decide +kernel)) (fun _ h9 => h9) rfl dX8_send_155 ?_
                    refine lv_iload_n hx hb dX8_send_158 rfl (lv_at hl 4 rfl) ?_
                    refine va_iald hx hb hK hP 4 0 rfl rfl (i := a2) (sp_vpn h_3 (show n 2 ≤ 12 by omega) (by decide)) dX8_send_159 ?_
                    refine lv_topi (fun v16 (e16 : v16 = F15 6 a2.toNatClampNeg) => ?_)
                    refine lv_iload_n hx hb dX8_send_160 rfl (lv_at hl 3 rfl) ?_
                    have jn17 : ∀ v17 : Int32, v17 = (if ((up2 FL49 14 (n 3) a1) 6 (a2.toNatClampNeg)) = a1 then ((up2 FL49 14 (n 3) a1) 7 (a2.toNatClampNeg)) else ((up2 FL49 14 (n 3) a1) 6 (a2.toNatClampNeg))) → W p l e (headSpec wsX8_send ({ frames := 3, cells := 0, slots := 0, locals := 67 })).room s m [.ref h0, .int a1, .int a2].toArray below meth c H locs 0 0 (MQ below (va_Qi (fun r (u : (Nat → Nat) × (Nat → Nat → Int32)) => (r, u) = rM_send n F a1 a2 ∧ va_D A (mw_ h0 q u.1 (u.2 44 0) cI cZ u.2) ∧ mi_ u.1 u.2 ∧ nb_ u.1) (fun u s' => va_P (dC, dI) vwCl (mw_ h0 q u.1 (u.2 44 0) cI cZ u.2) s'.heap) A) [.ref h0, .int a1, .int a2].toArray s 0 0 A) (F0 m 179 ls (.int v17 :: [.int (nI (n 3)), .ref (q 15)])) := by
                      intro v17 e17
                      have hvb17 : vp_in v17 8 := by rw [e17]; split; exact hIz49.2.1 _; exact hIz49.1 _
                      refine va_iast hx hb hK hP hD hS 12 0 rfl rfl (i := (nI (n 3))) (x := v17) (vp_in_nI (show n 3 < 120 by have := nI_nev (B := 120) h_12 rfl; omega) (by decide)) dX8_send_179 (fun H locs hP2 hD2 hS => ?_)
                      obtain ⟨F18, e18, hP, hD, hI18⟩ : ∃ F18 : Nat → Nat → Int32, F18 = up2 F15 15 (nI (n 3)).toNatClampNeg v17 ∧ va_P (dC, dI) vwCl (mw_ h0 q n (F18 44 0) cI cZ F18) H ∧ va_D A (mw_ h0 q n (F18 44 0) cI cZ F18) ∧ mi_ n F18 := ⟨_, rfl, hP2, hD2, mi_up15 hI15 hvb17⟩
                      rw [(nI_clamp (by omega))] at e18
                      refine lv_aload_n hx hb dX8_send_180 rfl (lv_at hl 2 rfl) ?_
                      refine va_get (D := (dC, dI)) (ci := 7) (v := .ref (q 16)) (C := RX8) (T := TX8) (N := 37) hx hb hts hinX8 hown hK hP 0 rfl rfl 16 (by decide) (hts (.fieldLink RX8 46 "FurPostsModel" "wayOf" "[I") (by decide +kernel)) (fun _ h9 => h9) rfl dX8_send_181 ?_
                      refine lv_iload hx hb dX8_send_184 (lv_at hl 0 rfl) ?_
                      refine lv_iload_n hx hb dX8_send_186 rfl (lv_at hl 4 rfl) ?_
                      refine va_iast hx hb hK hP hD hS 13 0 rfl rfl (i := (nI (n 3))) (x := a2) (vp_in_nI (show n 3 < 120 by have := nI_nev (B := 120) h_12 rfl; omega) (by decide)) dX8_send_187 (fun H locs hP2 hD2 hS => ?_)
                      obtain ⟨F19, e19, hP, hD, hI19⟩ : ∃ F19 : Nat → Nat → Int32, F19 = up2 F18 16 (nI (n 3)).toNatClampNeg a2 ∧ va_P (dC, dI) vwCl (mw_ h0 q n (F19 44 0) cI cZ F19) H ∧ va_D A (mw_ h0 q n (F19 44 0) cI cZ F19) ∧ mi_ n F19 := ⟨_, rfl, hP2, hD2, mi_up16 hI18 (sp_vpn h_3 (show n 2 ≤ 12 by omega) (by decide))⟩
                      rw [(nI_clamp (by omega))] at e19
                      refine lv_aload_n hx hb dX8_send_188 rfl (lv_at hl 2 rfl) ?_
                      refine va_get (D := (dC, dI)) (ci := 7) (v := .ref (q 17)) (C := RX8) (T := TX8) (N := 37) hx hb hts hinX8 hown hK hP 0 rfl rfl 17 (by decide) (hts (.fieldLink RX8 49 "FurPostsModel" "toGo" "[I") (by decide +kernel)) (fun _ h9 => h9) rfl dX8_send_189 ?_
                      refine lv_iload hx hb dX8_send_192 (lv_at hl 0 rfl) ?_
                      refine lv_aload_n hx hb dX8_send_194 rfl (lv_at hl 2 rfl) ?_
                      refine va_get (D := (dC, dI)) (ci := 7) (v := .ref (q 8)) (C := RX8) (T := TX8) (N := 37) hx hb hts hinX8 hown hK hP 0 rfl rfl 8 (by decide) (hts (.fieldLink RX8 25 "FurPostsModel" "wayLong" "[I") (by decide +kernel)) (fun _ h9 => h9) rfl dX8_send_195 ?_
                      refine lv_iload_n hx hb dX8_send_198 rfl (lv_at hl 4 rfl) ?_
                      refine va_iald hx hb hK hP 6 0 rfl rfl (i := a2) (sp_vpn h_3 (show n 2 ≤ 12 by omega) (by decide)) dX8_send_199 ?_
                      refine lv_topi (fun v20 (e20 : v20 = F19 8 a2.toNatClampNeg) => ?_)
                      refine va_iast hx hb hK hP hD hS 14 0 rfl rfl (i := (nI (n 3))) (x := v20) (vp_in_nI (show n 3 < 120 by have := nI_nev (B := 120) h_12 rfl; omega) (by decide)) dX8_send_200 (fun H locs hP2 hD2 hS => ?_)
                      obtain ⟨F21, e21, hP, hD, hI21⟩ : ∃ F21 : Nat → Nat → Int32, F21 = up2 F19 17 (nI (n 3)).toNatClampNeg v20 ∧ va_P (dC, dI) vwCl (mw_ h0 q n (F21 44 0) cI cZ F21) H ∧ va_D A (mw_ h0 q n (F21 44 0) cI cZ F21) ∧ mi_ n F21 := ⟨_, rfl, hP2, hD2, hI19⟩
                      rw [(nI_clamp (by omega))] at e21
                      refine lv_aload_n hx hb dX8_send_201 rfl (lv_at hl 2 rfl) ?_
                      refine va_get (D := (dC, dI)) (ci := 7) (v := .ref (q 19)) (C := RX8) (T := TX8) (N := 37) hx hb hts hinX8 hown hK hP 0 rfl rfl 19 (by decide) (hts (.fieldLink RX8 55 "FurPostsModel" "sentOn" "[I") (by decide +kernel)) (fun _ h9 => h9) rfl dX8_send_202 ?_
                      refine lv_iload hx hb dX8_send_205 (lv_at hl 0 rfl) ?_
                      refine lv_aload_n hx hb dX8_send_207 rfl (lv_at hl 2 rfl) ?_
                      refine va_get (D := (dC, dI)) (ci := 7) (v := .int (nI (n 0))) (C := RX8) (T := TX8) (N := 37) hx hb hts hinX8 hown hK hP 0 rfl rfl 0 (by decide) (hts (.fieldLink RX8 137 "FurPostsModel" "now" "I") (by decide +kernel)) (fun _ h9 => h9) rfl dX8_send_208 ?_
                      refine va_iast hx hb hK hP hD hS 16 0 rfl rfl (i := (nI (n 3))) (x := (nI (n 0))) (vp_in_nI (show n 3 < 120 by have := nI_nev (B := 120) h_12 rfl; omega) (by decide)) dX8_send_211 (fun H locs hP2 hD2 hS => ?_)
                      obtain ⟨F22, e22, hP, hD, hI22⟩ : ∃ F22 : Nat → Nat → Int32, F22 = up2 F21 19 (nI (n 3)).toNatClampNeg (nI (n 0)) ∧ va_P (dC, dI) vwCl (mw_ h0 q n (F22 44 0) cI cZ F22) H ∧ va_D A (mw_ h0 q n (F22 44 0) cI cZ F22) ∧ mi_ n F22 := ⟨_, rfl, hP2, hD2, hI21⟩
                      rw [(nI_clamp (by omega))] at e22
                      refine lv_aload_n hx hb dX8_send_212 rfl (lv_at hl 2 rfl) ?_
                      refine va_get (D := (dC, dI)) (ci := 7) (v := .ref (q 20)) (C := RX8) (T := TX8) (N := 37) hx hb hts hinX8 hown hK hP 0 rfl rfl 20 (by decide) (hts (.fieldLink RX8 58 "FurPostsModel" "cameOn" "[I") (by decide +kernel)) (fun _ h9 => h9) rfl dX8_send_213 ?_
                      refine lv_iload hx hb dX8_send_216 (lv_at hl 0 rfl) ?_
                      refine lv_iconst (v := (-1)) hx hb dX8_send_218 (by decide) ?_
                      refine va_iast hx hb hK hP hD hS 17 0 rfl rfl (i := (nI (n 3))) (x := (-1)) (vp_in_nI (show n 3 < 120 by have := nI_nev (B := 120) h_12 rfl; omega) (by decide)) dX8_send_219 (fun H locs hP2 hD2 hS => ?_)
                      obtain ⟨F23, e23, hP, hD, hI23⟩ : ∃ F23 : Nat → Nat → Int32, F23 = up2 F22 20 (nI (n 3)).toNatClampNeg (-1) ∧ va_P (dC, dI) vwCl (mw_ h0 q n (F23 44 0) cI cZ F23) H ∧ va_D A (mw_ h0 q n (F23 44 0) cI cZ F23) ∧ mi_ n F23 := ⟨_, rfl, hP2, hD2, hI22⟩
                      rw [(nI_clamp (by omega))] at e23
                      refine lv_iconst (v := 0) hx hb dX8_send_220 (by decide) ?_
                      refine lv_istore (lv' := [(5, .int 0), (4, .int (nI (n 3))), (3, .int xL49_3), (0, .ref h0), (1, .int a1), (2, .int a2)]) hx hb dX8_send_221 hl (by decide) rfl (fun ls hl => ?_)
                      have key223 : ∀ (k jL223 : Nat) (FL223 : Nat → Nat → Int32) (H : Heap) (locs : List Loc) (ls : Array Slot), jL223 + k = 6 → va_P (dC, dI) vwCl (mw_ h0 q n (FL223 44 0) cI cZ FL223) H → va_D A (mw_ h0 q n (FL223 44 0) cI cZ FL223) → mi_ n FL223 → va_S A s.heap H locs → lv_has ls 6 [(5, .int (nI jL223)), (4, .int (nI (n 3))), (3, .int xL49_3), (0, .ref h0), (1, .int a1), (2, .int a2)] → (∀ (H : Heap) (locs : List Loc) (ls : Array Slot), va_P (dC, dI) vwCl (mw_ h0 q n (((rM_send_L223 a1 n k jL223 FL223)) 44 0) cI cZ ((rM_send_L223 a1 n k jL223 FL223))) H → va_D A (mw_ h0 q n (((rM_send_L223 a1 n k jL223 FL223)) 44 0) cI cZ ((rM_send_L223 a1 n k jL223 FL223))) → mi_ n ((rM_send_L223 a1 n k jL223 FL223)) → va_S A s.heap H locs → lv_has ls 6 [(5, .int (nI 6)), (4, .int (nI (n 3))), (3, .int xL49_3), (0, .ref h0), (1, .int a1), (2, .int a2)] → W p l e (headSpec wsX8_send ({ frames := 3, cells := 0, slots := 0, locals := 67 })).room s m [.ref h0, .int a1, .int a2].toArray below meth c H locs 0 0 (MQ below (va_Qi (fun r (u : (Nat → Nat) × (Nat → Nat → Int32)) => (r, u) = rM_send n F a1 a2 ∧ va_D A (mw_ h0 q u.1 (u.2 44 0) cI cZ u.2) ∧ mi_ u.1 u.2 ∧ nb_ u.1) (fun u s' => va_P (dC, dI) vwCl (mw_ h0 q u.1 (u.2 44 0) cI cZ u.2) s'.heap) A) [.ref h0, .int a1, .int a2].toArray s 0 0 A) (F0 m 306 ls [])) → 
                          W p l e (headSpec wsX8_send ({ frames := 3, cells := 0, slots := 0, locals := 67 })).room s m [.ref h0, .int a1, .int a2].toArray below meth c H locs 0 0 (MQ below (va_Qi (fun r (u : (Nat → Nat) × (Nat → Nat → Int32)) => (r, u) = rM_send n F a1 a2 ∧ va_D A (mw_ h0 q u.1 (u.2 44 0) cI cZ u.2) ∧ mi_ u.1 u.2 ∧ nb_ u.1) (fun u s' => va_P (dC, dI) vwCl (mw_ h0 q u.1 (u.2 44 0) cI cZ u.2) s'.heap) A) [.ref h0, .int a1, .int a2].toArray s 0 0 A) (F0 m 223 ls []) := by
                        intro k
                        induction k with
                        | zero =>
                          intro jL223 FL223 H locs ls hj hP hD hIz223 hS hl hex
                          have hj : jL223 = 6 := by omega
                          subst jL223
                          refine lv_iload hx hb dX8_send_223 (lv_at hl 0 rfl) ?_
                          refine lv_bipush (v := 6) hx hb dX8_send_225 (by decide) ?_
                          refine lv_icmp_ge (tgt := 306) hx hb dX8_send_227 (by decide) (fun h_24 => ?_) (fun h_24 => absurd (lp_ge0 (B := 6) rfl) h_24)
                          exact hex H locs ls hP hD hIz223 hS (lv_sub hl [0, 1, 2, 3, 4, 5] rfl)
                        | succ k ih223 =>
                          intro jL223 FL223 H locs ls hj hP hD hIz223 hS hl hex
                          have hj223 : jL223 < 6 := by omega
                          refine lv_iload hx hb dX8_send_223 (lv_at hl 0 rfl) ?_
                          refine lv_bipush (v := 6) hx hb dX8_send_225 (by decide) ?_
                          refine lv_icmp_ge (tgt := 306) hx hb dX8_send_227 (by decide) (fun h_25 => absurd h_25 (lp_ge (B := 6) (by omega) (by omega) rfl)) (fun h_25 => ?_)
                          refine lv_aload_n hx hb dX8_send_230 rfl (lv_at hl 3 rfl) ?_
                          refine va_get (D := (dC, dI)) (ci := 7) (v := .ref (q 2)) (C := RX8) (T := TX8) (N := 37) hx hb hts hinX8 hown hK hP 0 rfl rfl 2 (by decide) (hts (.fieldLink RX8 9 "FurPostsModel" "store" "[I") (by decide +kernel)) (fun _ h9 => h9) rfl dX8_send_231 ?_
                          refine lv_bipush (v := 6) hx hb dX8_send_234 (by decide) ?_
                          refine lv_iload_n hx hb dX8_send_236 rfl (lv_at hl 4 rfl) ?_
                          refine lv_imul hx hb dX8_send_237 ?_
                          refine lv_iload hx hb dX8_send_238 (lv_at hl 0 rfl) ?_
                          refine lv_iadd hx hb dX8_send_240 ?_
                          refine lv_dup2_11 hx hb dX8_send_241 rfl rfl ?_
                          refine va_iald hx hb hK hP 1 0 rfl rfl (i := ((6 * a1) + (nI jL223))) (vp_lin (a := 8) (b := 6) (m := 6) (sp_vpn h_1 (show n 1 ≤ 8 by omega) (by decide)) (vp_in_nI (show jL223 < 6 by omega) (by decide)) rfl (by decide)) dX8_send_242 ?_
                          refine lv_topi (fun v26 (e26 : v26 = FL223 2 ((6 * a1) + (nI jL223)).toNatClampNeg) => ?_)
                          rw [((tn_lin (k := 6) (a := 8) (b := 6) (m := 6) (sp_vpn h_1 (show n 1 ≤ 8 by omega) (by decide)) (vp_in_nI (show jL223 < 6 by omega) (by decide)) rfl (by decide)).trans (by rw [(nI_clamp (by omega))]))] at e26
                          refine lv_aload_n hx hb dX8_send_243 rfl (lv_at hl 3 rfl) ?_
                          refine va_get (D := (dC, dI)) (ci := 7) (v := .ref (q 12)) (C := RX8) (T := TX8) (N := 37) hx hb hts hinX8 hown hK hP 0 rfl rfl 12 (by decide) (hts (.fieldLink RX8 37 "FurPostsModel" "loaded" "[I") (by decide +kernel)) (fun _ h9 => h9) rfl dX8_send_244 ?_
                          refine lv_iload hx hb dX8_send_247 (lv_at hl 0 rfl) ?_
                          refine va_iald hx hb hK hP 10 0 rfl rfl (i := (nI jL223)) (vp_in_nI (show jL223 < 6 by omega) (by decide)) dX8_send_249 ?_
                          refine lv_topi (fun v27 (e27 : v27 = FL223 12 (nI jL223).toNatClampNeg) => ?_)
                          rw [(nI_clamp (by omega))] at e27
                          refine lv_isub hx hb dX8_send_250 ?_
                          refine va_iast hx hb hK hP hD hS 1 0 rfl rfl (i := ((6 * a1) + (nI jL223))) (x := (v26 - v27)) (vp_lin (a := 8) (b := 6) (m := 6) (sp_vpn h_1 (show n 1 ≤ 8 by omega) (by decide)) (vp_in_nI (show jL223 < 6 by omega) (by decide)) rfl (by decide)) dX8_send_251 (fun H locs hP2 hD2 hS => ?_)
                          obtain ⟨F28, e28, hP, hD, hI28⟩ : ∃ F28 : Nat → Nat → Int32, F28 = up2 FL223 2 ((6 * a1) + (nI jL223)).toNatClampNeg (v26 - v27) ∧ va_P (dC, dI) vwCl (mw_ h0 q n (F28 44 0) cI cZ F28) H ∧ va_D A (mw_ h0 q n (F28 44 0) cI cZ F28) ∧ mi_ n F28 := ⟨_, rfl, hP2, hD2, hIz223⟩
                          rw [((tn_lin (k := 6) (a := 8) (b := 6) (m := 6) (sp_vpn h_1 (show n 1 ≤ 8 by omega) (by decide)) (vp_in_nI (show jL223 < 6 by omega) (by decide)) rfl (by decide)).trans (by rw [(nI_clamp (by omega))]))] at e28
                          refine lv_aload_n hx hb dX8_send_252 rfl (lv_at hl 3 rfl) ?_
                          refine va_get (D := (dC, dI)) (ci := 7) (v := .ref (q 22)) (C := RX8) (T := TX8) (N := 37) hx hb hts hinX8 hown hK hP 0 rfl rfl 22 (by decide) (hts (.fieldLink RX8 64 "FurPostsModel" "has" "[I") (by decide +kernel)) (fun _ h9 => h9) rfl dX8_send_253 ?_
                          refine lv_bipush (v := 6) hx hb dX8_send_256 (by decide) ?_
                          refine lv_iload hx hb dX8_send_258 (lv_at hl 1 rfl) ?_
                          refine lv_imul hx hb dX8_send_260 ?_
                          refine lv_iload hx hb dX8_send_261 (lv_at hl 0 rfl) ?_
                          refine lv_iadd hx hb dX8_send_263 ?_
                          refine lv_aload_n hx hb dX8_send_264 rfl (lv_at hl 3 rfl) ?_
                          refine va_get (D := (dC, dI)) (ci := 7) (v := .ref (q 12)) (C := RX8) (T := TX8) (N := 37) hx hb hts hinX8 hown hK hP 0 rfl rfl 12 (by decide) (hts (.fieldLink RX8 37 "FurPostsModel" "loaded" "[I") (by decide +kernel)) (fun _ h9 => h9) rfl dX8_send_265 ?_
                          refine lv_iload hx hb dX8_send_268 (lv_at hl 0 rfl) ?_
                          refine va_iald hx hb hK hP 10 0 rfl rfl (i := (nI jL223)) (vp_in_nI (show jL223 < 6 by omega) (by decide)) dX8_send_270 ?_
                          refine lv_topi (fun v29 (e29 : v29 = F28 12 (nI jL223).toNatClampNeg) => ?_)
                          rw [(nI_clamp (by omega))] at e29
                          refine va_iast hx hb hK hP hD hS 19 0 rfl rfl (i := ((6 * (nI (n 3))) + (nI jL223))) (x := v29) (vp_lin (a := 120) (b := 6) (m := 6) (vp_in_nI (show n 3 < 120 by have := nI_nev (B := 120) h_12 rfl; omega) (by decide)) (vp_in_nI (show jL223 < 6 by omega) (by decide)) rfl (by decide)) dX8_send_271 (fun H locs hP2 hD2 hS => ?_)
                          obtain ⟨F30, e30, hP, hD, hI30⟩ : ∃ F30 : Nat → Nat → Int32, F30 = up2 F28 22 ((6 * (nI (n 3))) + (nI jL223)).toNatClampNeg v29 ∧ va_P (dC, dI) vwCl (mw_ h0 q n (F30 44 0) cI cZ F30) H ∧ va_D A (mw_ h0 q n (F30 44 0) cI cZ F30) ∧ mi_ n F30 := ⟨_, rfl, hP2, hD2, hI28⟩
                          rw [((tn_lin (k := 6) (a := 120) (b := 6) (m := 6) (vp_in_nI (show n 3 < 120 by have := nI_nev (B := 120) h_12 rfl; omega) (by decide)) (vp_in_nI (show jL223 < 6 by omega) (by decide)) rfl (by decide)).trans (by rw [(nI_clamp (by omega)), (nI_clamp (by omega))]))] at e30
                          refine lv_aload_n hx hb dX8_send_272 rfl (lv_at hl 3 rfl) ?_
                          refine va_get (D := (dC, dI)) (ci := 7) (v := .ref (q 23)) (C := RX8) (T := TX8) (N := 37) hx hb hts hinX8 hown hK hP 0 rfl rfl 23 (by decide) (hts (.fieldLink RX8 67 "FurPostsModel" "sent" "[I") (by decide +kernel)) (fun _ h9 => h9) rfl dX8_send_273 ?_
                          refine lv_bipush (v := 6) hx hb dX8_send_276 (by decide) ?_
                          refine lv_iload hx hb dX8_send_278 (lv_at hl 1 rfl) ?_
                          refine lv_imul hx hb dX8_send_280 ?_
                          refine lv_iload hx hb dX8_send_281 (lv_at hl 0 rfl) ?_
                          refine lv_iadd hx hb dX8_send_283 ?_
                          refine lv_aload_n hx hb dX8_send_284 rfl (lv_at hl 3 rfl) ?_
                          refine va_get (D := (dC, dI)) (ci := 7) (v := .ref (q 12)) (C := RX8) (T := TX8) (N := 37) hx hb hts hinX8 hown hK hP 0 rfl rfl 12 (by decide) (hts (.fieldLink RX8 37 "FurPostsModel" "loaded" "[I") (by decide +kernel)) (fun _ h9 => h9) rfl dX8_send_285 ?_
                          refine lv_iload hx hb dX8_send_288 (lv_at hl 0 rfl) ?_
                          refine va_iald hx hb hK hP 10 0 rfl rfl (i := (nI jL223)) (vp_in_nI (show jL223 < 6 by omega) (by decide)) dX8_send_290 ?_
                          refine lv_topi (fun v31 (e31 : v31 = F30 12 (nI jL223).toNatClampNeg) => ?_)
                          rw [(nI_clamp (by omega))] at e31
                          refine va_iast hx hb hK hP hD hS 20 0 rfl rfl (i := ((6 * (nI (n 3))) + (nI jL223))) (x := v31) (vp_lin (a := 120) (b := 6) (m := 6) (vp_in_nI (show n 3 < 120 by have := nI_nev (B := 120) h_12 rfl; omega) (by decide)) (vp_in_nI (show jL223 < 6 by omega) (by decide)) rfl (by decide)) dX8_send_291 (fun H locs hP2 hD2 hS => ?_)
                          obtain ⟨F32, e32, hP, hD, hI32⟩ : ∃ F32 : Nat → Nat → Int32, F32 = up2 F30 23 ((6 * (nI (n 3))) + (nI jL223)).toNatClampNeg v31 ∧ va_P (dC, dI) vwCl (mw_ h0 q n (F32 44 0) cI cZ F32) H ∧ va_D A (mw_ h0 q n (F32 44 0) cI cZ F32) ∧ mi_ n F32 := ⟨_, rfl, hP2, hD2, hI30⟩
                          rw [((tn_lin (k := 6) (a := 120) (b := 6) (m := 6) (vp_in_nI (show n 3 < 120 by have := nI_nev (B := 120) h_12 rfl; omega) (by decide)) (vp_in_nI (show jL223 < 6 by omega) (by decide)) rfl (by decide)).trans (by rw [(nI_clamp (by omega)), (nI_clamp (by omega))]))] at e32
                          refine lv_aload_n hx hb dX8_send_292 rfl (lv_at hl 3 rfl) ?_
                          refine va_get (D := (dC, dI)) (ci := 7) (v := .ref (q 12)) (C := RX8) (T := TX8) (N := 37) hx hb hts hinX8 hown hK hP 0 rfl rfl 12 (by decide) (hts (.fieldLink RX8 37 "FurPostsModel" "loaded" "[I") (by decide +kernel)) (fun _ h9 => h9) rfl dX8_send_293 ?_
                          refine lv_iload hx hb dX8_send_296 (lv_at hl 0 rfl) ?_
                          refine lv_iconst (v := 0) hx hb dX8_send_298 (by decide) ?_
                          refine va_iast hx hb hK hP hD hS 10 0 rfl rfl (i := (nI jL223)) (x := 0) (vp_in_nI (show jL223 < 6 by omega) (by decide)) dX8_send_299 (fun H locs hP2 hD2 hS => ?_)
                          obtain ⟨F33, e33, hP, hD, hI33⟩ : ∃ F33 : Nat → Nat → Int32, F33 = up2 F32 12 (nI jL223).toNatClampNeg 0 ∧ va_P (dC, dI) vwCl (mw_ h0 q n (F33 44 0) cI cZ F33) H ∧ va_D A (mw_ h0 q n (F33 44 0) cI cZ F33) ∧ mi_ n F33 := ⟨_, rfl, hP2, hD2, hI32⟩
                          rw [(nI_clamp (by omega))] at e33
                          refine lv_iinc (v := (nI (jL223 + 1))) (lv' := [(5, .int (nI (jL223 + 1))), (4, .int (nI (n 3))), (3, .int xL49_3), (0, .ref h0), (1, .int a1), (2, .int a2)]) hx hb dX8_send_300 hl (k := 0) rfl (show nI jL223 + 1 = nI (jL223 + 1) from nI_1 jL223) (by decide) rfl (fun ls hl => ?_)
                          refine lv_goto (tgt := 223) hx hb dX8_send_303 (by decide) ?_
                          have hI223 : (rM_send_L223 a1 n (k + 1) jL223 FL223) = (rM_send_L223 a1 n k (jL223 + 1) F33) := by subst e33 e32 e31 e30 e29 e28 e27 e26 e23 e22 e21 e20 e19 e18 e17 e16 e15 e9 e6; exact rfl
                          exact ih223 (jL223 + 1) F33 H locs ls (by omega) hP hD hI33 hS (lv_sub hl [0, 1, 2, 3, 4, 5] rfl) (by rw [← hI223]; exact hex)
                      refine key223 6 0 F23 H locs ls (by omega) hP hD hI23 hS (lv_sub hl [0, 1, 2, 3, 4, 5] rfl) (fun H locs ls hP hD hIz223 hS hl => ?_)
                      obtain ⟨F34, e34, hP, hD, hI34⟩ : ∃ F34 : Nat → Nat → Int32, F34 = (rM_send_L223 a1 n 6 0 F23) ∧ va_P (dC, dI) vwCl (mw_ h0 q n (F34 44 0) cI cZ F34) H ∧ va_D A (mw_ h0 q n (F34 44 0) cI cZ F34) ∧ mi_ n F34 := ⟨_, rfl, hP, hD, hIz223⟩
                      refine lv_iconst (v := 0) hx hb dX8_send_306 (by decide) ?_
                      refine lv_istore (lv' := [(5, .int 0), (4, .int (nI (n 3))), (3, .int xL49_3), (0, .ref h0), (1, .int a1), (2, .int a2)]) hx hb dX8_send_307 hl (by decide) rfl (fun ls hl => ?_)
                      have key309 : ∀ (k jL309 : Nat) (FL309 : Nat → Nat → Int32) (H : Heap) (locs : List Loc) (ls : Array Slot), jL309 + k = (n 4) → va_P (dC, dI) vwCl (mw_ h0 q n (FL309 44 0) cI cZ FL309) H → va_D A (mw_ h0 q n (FL309 44 0) cI cZ FL309) → mi_ n FL309 → va_S A s.heap H locs → lv_has ls 6 [(5, .int (nI jL309)), (4, .int (nI (n 3))), (3, .int xL49_3), (0, .ref h0), (1, .int a1), (2, .int a2)] → (∀ (H : Heap) (locs : List Loc) (ls : Array Slot), va_P (dC, dI) vwCl (mw_ h0 q n (((rM_send_L309 a1 n k jL309 FL309)) 44 0) cI cZ ((rM_send_L309 a1 n k jL309 FL309))) H → va_D A (mw_ h0 q n (((rM_send_L309 a1 n k jL309 FL309)) 44 0) cI cZ ((rM_send_L309 a1 n k jL309 FL309))) → mi_ n ((rM_send_L309 a1 n k jL309 FL309)) → va_S A s.heap H locs → lv_has ls 6 [(5, .int (nI (n 4))), (4, .int (nI (n 3))), (3, .int xL49_3), (0, .ref h0), (1, .int a1), (2, .int a2)] → W p l e (headSpec wsX8_send ({ frames := 3, cells := 0, slots := 0, locals := 67 })).room s m [.ref h0, .int a1, .int a2].toArray below meth c H locs 0 0 (MQ below (va_Qi (fun r (u : (Nat → Nat) × (Nat → Nat → Int32)) => (r, u) = rM_send n F a1 a2 ∧ va_D A (mw_ h0 q u.1 (u.2 44 0) cI cZ u.2) ∧ mi_ u.1 u.2 ∧ nb_ u.1) (fun u s' => va_P (dC, dI) vwCl (mw_ h0 q u.1 (u.2 44 0) cI cZ u.2) s'.heap) A) [.ref h0, .int a1, .int a2].toArray s 0 0 A) (F0 m 384 ls [])) → 
                          W p l e (headSpec wsX8_send ({ frames := 3, cells := 0, slots := 0, locals := 67 })).room s m [.ref h0, .int a1, .int a2].toArray below meth c H locs 0 0 (MQ below (va_Qi (fun r (u : (Nat → Nat) × (Nat → Nat → Int32)) => (r, u) = rM_send n F a1 a2 ∧ va_D A (mw_ h0 q u.1 (u.2 44 0) cI cZ u.2) ∧ mi_ u.1 u.2 ∧ nb_ u.1) (fun u s' => va_P (dC, dI) vwCl (mw_ h0 q u.1 (u.2 44 0) cI cZ u.2) s'.heap) A) [.ref h0, .int a1, .int a2].toArray s 0 0 A) (F0 m 309 ls []) := by
                        intro k
                        induction k with
                        | zero =>
                          intro jL309 FL309 H locs ls hj hP hD hIz309 hS hl hex
                          have hj : jL309 = (n 4) := by omega
                          subst jL309
                          refine lv_iload hx hb dX8_send_309 (lv_at hl 0 rfl) ?_
                          refine lv_aload_n hx hb dX8_send_311 rfl (lv_at hl 3 rfl) ?_
                          refine va_get (D := (dC, dI)) (ci := 7) (v := .int (nI (n 4))) (C := RX8) (T := TX8) (N := 37) hx hb hts hinX8 hown hK hP 0 rfl rfl 25 (by decide) (hts (.fieldLink RX8 144 "FurPostsModel" "letters" "I") (by decide +kernel)) (fun _ h9 => h9) rfl dX8_send_312 ?_
                          refine lv_icmp_ge (tgt := 384) hx hb dX8_send_315 (by decide) (fun h_35 => ?_) (fun h_35 => absurd (lp_ge0 (B := (n 4)) rfl) h_35)
                          exact hex H locs ls hP hD hIz309 hS (lv_sub hl [0, 1, 2, 3, 4, 5] rfl)
                        | succ k ih309 =>
                          intro jL309 FL309 H locs ls hj hP hD hIz309 hS hl hex
                          have hj309 : jL309 < (n 4) := by omega
                          refine lv_iload hx hb dX8_send_309 (lv_at hl 0 rfl) ?_
                          refine lv_aload_n hx hb dX8_send_311 rfl (lv_at hl 3 rfl) ?_
                          refine va_get (D := (dC, dI)) (ci := 7) (v := .int (nI (n 4))) (C := RX8) (T := TX8) (N := 37) hx hb hts hinX8 hown hK hP 0 rfl rfl 25 (by decide) (hts (.fieldLink RX8 144 "FurPostsModel" "letters" "I") (by decide +kernel)) (fun _ h9 => h9) rfl dX8_send_312 ?_
                          refine lv_icmp_ge (tgt := 384) hx hb dX8_send_315 (by decide) (fun h_36 => absurd h_36 (lp_ge (B := (n 4)) (by omega) (by omega) rfl)) (fun h_36 => ?_)
                          refine lv_aload_n hx hb dX8_send_318 rfl (lv_at hl 3 rfl) ?_
                          refine va_get (D := (dC, dI)) (ci := 7) (v := .ref (q 28)) (C := RX8) (T := TX8) (N := 37) hx hb hts hinX8 hown hK hP 0 rfl rfl 28 (by decide) (hts (.fieldLink RX8 80 "FurPostsModel" "letterAt" "[I") (by decide +kernel)) (fun _ h9 => h9) rfl dX8_send_319 ?_
                          refine lv_iload hx hb dX8_send_322 (lv_at hl 0 rfl) ?_
                          refine va_iald hx hb hK hP 24 0 rfl rfl (i := (nI jL309)) (vp_in_nI (show jL309 < 300 by omega) (by decide)) dX8_send_324 ?_
                          refine lv_topi (fun v37 (e37 : v37 = FL309 28 (nI jL309).toNatClampNeg) => ?_)
                          rw [(nI_clamp (by omega))] at e37
                          refine lv_iload_n hx hb dX8_send_325 rfl (lv_at hl 4 rfl) ?_
                          refine lv_icmp_ne (tgt := 378) hx hb dX8_send_326 (by decide) (fun h_38 => ?_) (fun h_38 => ?_)
                          · skip
                            refine lv_iinc (v := (nI (jL309 + 1))) (lv' := [(5, .int (nI (jL309 + 1))), (4, .int (nI (n 3))), (3, .int xL49_3), (0, .ref h0), (1, .int a1), (2, .int a2)]) hx hb dX8_send_378 hl (k := 0) rfl (show nI jL309 + 1 = nI (jL309 + 1) from nI_1 jL309) (by decide) rfl (fun ls hl => ?_)
                            refine lv_goto (tgt := 309) hx hb dX8_send_381 (by decide) ?_
                            have hI309 : (rM_send_L309 a1 n (k + 1) jL309 FL309) = (rM_send_L309 a1 n k (jL309 + 1) FL309) := by subst e37 e34 e23 e22 e21 e20 e19 e18 e17 e16 e15 e9 e6; exact (if_neg h_38)
                            exact ih309 (jL309 + 1) FL309 H locs ls (by omega) hP hD hIz309 hS (lv_sub hl [0, 1, 2, 3, 4, 5] rfl) (by rw [← hI309]; exact hex)
                          · skip
                            refine lv_aload_n hx hb dX8_send_329 rfl (lv_at hl 3 rfl) ?_
                            refine lv_iload_n hx hb dX8_send_330 rfl (lv_at hl 4 rfl) ?_
                            refine lv_aload_n hx hb dX8_send_331 rfl (lv_at hl 3 rfl) ?_
                            refine va_get (D := (dC, dI)) (ci := 7) (v := .ref (q 27)) (C := RX8) (T := TX8) (N := 37) hx hb hts hinX8 hown hK hP 0 rfl rfl 27 (by decide) (hts (.fieldLink RX8 77 "FurPostsModel" "letterTo" "[I") (by decide +kernel)) (fun _ h9 => h9) rfl dX8_send_332 ?_
                            refine lv_iload hx hb dX8_send_335 (lv_at hl 0 rfl) ?_
                            refine va_iald hx hb hK hP 23 0 rfl rfl (i := (nI jL309)) (vp_in_nI (show jL309 < 300 by omega) (by decide)) dX8_send_337 ?_
                            refine lv_topi (fun v39 (e39 : v39 = FL309 27 (nI jL309).toNatClampNeg) => ?_)
                            rw [(nI_clamp (by omega))] at e39
                            refine va_calli (va_runV (As := [.int a1, .int v39]) (rest := []) ⟨hx, hb, hml, hown, hts⟩ (m_X8_next l dC dI h0 q n cI cZ FL309 hIz309 hN A hD a1 v39) (cwV 2 hts gX8_send_X8_next rfl rfl rfl (by decide +kernel) ⟨Nat.le_of_ble_eq_true rfl, Nat.le_of_ble_eq_true rfl⟩) (pu_pre hP hK (ci := 7) (q0 := 0) rfl rfl) rfl rfl hl.1 rfl (lv_room (Nat.le_of_ble_eq_true rfl)) dX8_send_338 ⟨Nat.le_of_ble_eq_true rfl, Nat.le_of_ble_eq_true rfl⟩) hS (fun _ _ h => h) (fun _ h => h) (fun r40 u40 st40 H locs ht40 hvm40 hw40 hB40 hz40 hk40 hS => ?_)
                            obtain ⟨hq40, hD40, hI40⟩ := hw40
                            obtain ⟨F40, e40, hP, hD, hI40⟩ : ∃ F40 : Nat → Nat → Int32, F40 = (rM_next n FL309 a1 v39).2 ∧ va_P (dC, dI) vwCl (mw_ h0 q n (F40 44 0) cI cZ F40) H ∧ va_D A (mw_ h0 q n (F40 44 0) cI cZ F40) ∧ mi_ n F40 := ⟨u40, congrArg Prod.snd hq40, by rw [← ht40]; exact hB40, hD40, hI40⟩
                            have g40 : r40 = (rM_next n FL309 a1 v39).1 := congrArg Prod.fst hq40
                            refine lv_aload_n hx hb dX8_send_341 rfl (lv_at hl 3 rfl) ?_
                            refine va_get (D := (dC, dI)) (ci := 7) (v := .ref (q 15)) (C := RX8) (T := TX8) (N := 37) hx hb hts hinX8 hown hK hP 0 rfl rfl 15 (by decide) (hts (.fieldLink RX8 43 "FurPostsModel" "to" "[I") (by decide +kernel)) (fun _ h9 => h9) rfl dX8_send_342 ?_
                            refine lv_iload hx hb dX8_send_345 (lv_at hl 1 rfl) ?_
                            refine va_iald hx hb hK hP 12 0 rfl rfl (i := (nI (n 3))) (vp_in_nI (show n 3 < 120 by have := nI_nev (B := 120) h_12 rfl; omega) (by decide)) dX8_send_347 ?_
                            refine lv_topi (fun v41 (e41 : v41 = F40 15 (nI (n 3)).toNatClampNeg) => ?_)
                            rw [(nI_clamp (by omega))] at e41
                            refine lv_icmp_eq (tgt := 354) hx hb dX8_send_348 (by decide) (fun h_42 => ?_) (fun h_42 => ?_)
                            · skip
                              refine lv_aload_n hx hb dX8_send_354 rfl (lv_at hl 3 rfl) ?_
                              refine va_get (D := (dC, dI)) (ci := 7) (v := .ref (q 28)) (C := RX8) (T := TX8) (N := 37) hx hb hts hinX8 hown hK hP 0 rfl rfl 28 (by decide) (hts (.fieldLink RX8 80 "FurPostsModel" "letterAt" "[I") (by decide +kernel)) (fun _ h9 => h9) rfl dX8_send_355 ?_
                              refine lv_iload hx hb dX8_send_358 (lv_at hl 0 rfl) ?_
                              refine lv_sipush (v := 2000) hx hb dX8_send_360 (by decide) ?_
                              refine lv_iload hx hb dX8_send_363 (lv_at hl 1 rfl) ?_
                              refine lv_iadd hx hb dX8_send_365 ?_
                              refine va_iast hx hb hK hP hD hS 24 0 rfl rfl (i := (nI jL309)) (x := (2000 + (nI (n 3)))) (vp_in_nI (show jL309 < 300 by omega) (by decide)) dX8_send_366 (fun H locs hP2 hD2 hS => ?_)
                              obtain ⟨F43, e43, hP, hD, hI43⟩ : ∃ F43 : Nat → Nat → Int32, F43 = up2 F40 28 (nI jL309).toNatClampNeg (2000 + (nI (n 3))) ∧ va_P (dC, dI) vwCl (mw_ h0 q n (F43 44 0) cI cZ F43) H ∧ va_D A (mw_ h0 q n (F43 44 0) cI cZ F43) ∧ mi_ n F43 := ⟨_, rfl, hP2, hD2, hI40⟩
                              rw [(nI_clamp (by omega))] at e43
                              refine lv_aload_n hx hb dX8_send_367 rfl (lv_at hl 3 rfl) ?_
                              refine va_get (D := (dC, dI)) (ci := 7) (v := .ref (q 21)) (C := RX8) (T := TX8) (N := 37) hx hb hts hinX8 hown hK hP 0 rfl rfl 21 (by decide) (hts (.fieldLink RX8 61 "FurPostsModel" "withLetters" "[I") (by decide +kernel)) (fun _ h9 => h9) rfl dX8_send_368 ?_
                              refine lv_iload hx hb dX8_send_371 (lv_at hl 1 rfl) ?_
                              refine lv_dup2_11 hx hb dX8_send_373 rfl rfl ?_
                              refine va_iald hx hb hK hP 18 0 rfl rfl (i := (nI (n 3))) (vp_in_nI (show n 3 < 120 by have := nI_nev (B := 120) h_12 rfl; omega) (by decide)) dX8_send_374 ?_
                              refine lv_topi (fun v44 (e44 : v44 = F43 21 (nI (n 3)).toNatClampNeg) => ?_)
                              rw [(nI_clamp (by omega))] at e44
                              refine lv_iconst (v := 1) hx hb dX8_send_375 (by decide) ?_
                              refine lv_iadd hx hb dX8_send_376 ?_
                              refine va_iast hx hb hK hP hD hS 18 0 rfl rfl (i := (nI (n 3))) (x := (v44 + 1)) (vp_in_nI (show n 3 < 120 by have := nI_nev (B := 120) h_12 rfl; omega) (by decide)) dX8_send_377 (fun H locs hP2 hD2 hS => ?_)
                              obtain ⟨F45, e45, hP, hD, hI45⟩ : ∃ F45 : Nat → Nat → Int32, F45 = up2 F43 21 (nI (n 3)).toNatClampNeg (v44 + 1) ∧ va_P (dC, dI) vwCl (mw_ h0 q n (F45 44 0) cI cZ F45) H ∧ va_D A (mw_ h0 q n (F45 44 0) cI cZ F45) ∧ mi_ n F45 := ⟨_, rfl, hP2, hD2, hI43⟩
                              rw [(nI_clamp (by omega))] at e45
                              refine lv_iinc (v := (nI (jL309 + 1))) (lv' := [(5, .int (nI (jL309 + 1))), (4, .int (nI (n 3))), (3, .int xL49_3), (0, .ref h0), (1, .int a1), (2, .int a2)]) hx hb dX8_send_378 hl (k := 0) rfl (show nI jL309 + 1 = nI (jL309 + 1) from nI_1 jL309) (by decide) rfl (fun ls hl => ?_)
                              refine lv_goto (tgt := 309) hx hb dX8_send_381 (by decide) ?_
                              have hI309 : (rM_send_L309 a1 n (k + 1) jL309 FL309) = (rM_send_L309 a1 n k (jL309 + 1) F45) := by subst e45 e44 e43 e41 g40 e40 e39 e37 e34 e23 e22 e21 e20 e19 e18 e17 e16 e15 e9 e6; exact (if_pos h_38).trans (if_pos h_42)
                              exact ih309 (jL309 + 1) F45 H locs ls (by omega) hP hD hI45 hS (lv_sub hl [0, 1, 2, 3, 4, 5] rfl) (by rw [← hI309]; exact hex)
                            · skip
                              refine lv_goto (tgt := 378) hx hb dX8_send_351 (by decide) ?_
                              refine lv_iinc (v := (nI (jL309 + 1))) (lv' := [(5, .int (nI (jL309 + 1))), (4, .int (nI (n 3))), (3, .int xL49_3), (0, .ref h0), (1, .int a1), (2, .int a2)]) hx hb dX8_send_378 hl (k := 0) rfl (show nI jL309 + 1 = nI (jL309 + 1) from nI_1 jL309) (by decide) rfl (fun ls hl => ?_)
                              refine lv_goto (tgt := 309) hx hb dX8_send_381 (by decide) ?_
                              have hI309 : (rM_send_L309 a1 n (k + 1) jL309 FL309) = (rM_send_L309 a1 n k (jL309 + 1) F40) := by subst e41 g40 e40 e39 e37 e34 e23 e22 e21 e20 e19 e18 e17 e16 e15 e9 e6; exact (if_pos h_38).trans (if_neg h_42)
                              exact ih309 (jL309 + 1) F40 H locs ls (by omega) hP hD hI40 hS (lv_sub hl [0, 1, 2, 3, 4, 5] rfl) (by rw [← hI309]; exact hex)
                      refine key309 (n 4) 0 F34 H locs ls (by omega) hP hD hI34 hS (lv_sub hl [0, 1, 2, 3, 4, 5] rfl) (fun H locs ls hP hD hIz309 hS hl => ?_)
                      obtain ⟨F46, e46, hP, hD, hI46⟩ : ∃ F46 : Nat → Nat → Int32, F46 = (rM_send_L309 a1 n (n 4) 0 F34) ∧ va_P (dC, dI) vwCl (mw_ h0 q n (F46 44 0) cI cZ F46) H ∧ va_D A (mw_ h0 q n (F46 44 0) cI cZ F46) ∧ mi_ n F46 := ⟨_, rfl, hP, hD, hIz309⟩
                      refine lv_aload_n hx hb dX8_send_384 rfl (lv_at hl 3 rfl) ?_
                      refine lv_dup hx hb dX8_send_385 rfl ?_
                      refine va_get (D := (dC, dI)) (ci := 7) (v := .int (nI (n 3))) (C := RX8) (T := TX8) (N := 37) hx hb hts hinX8 hown hK hP 0 rfl rfl 13 (by decide) (hts (.fieldLink RX8 112 "FurPostsModel" "canoes" "I") (by decide +kernel)) (fun _ h9 => h9) rfl dX8_send_386 ?_
                      refine lv_iconst (v := 1) hx hb dX8_send_389 (by decide) ?_
                      refine lv_iadd hx hb dX8_send_390 ?_
                      rw [nI_1]
                      refine va_put (D := (dC, dI)) (ci := 7) (v := .int (nI ((n 3) + 1))) (ty := .int) (C := RX8) (T := TX8) (N := 37) hx hb hts hinX8 tyX8 tyX8_ok nmX8 hown hK hP hD hS 0 rfl rfl 13 (by decide) (hts (.fieldLink RX8 112 "FurPostsModel" "canoes" "I") (by decide +kernel)) (fun _ h9 => h9) rfl (by decide +kernel) rfl rfl (Nat.le_of_ble_eq_true rfl) dX8_send_391 (fun H locs hP2 hD2 hS => ?_)
                      obtain ⟨n47, e47, hP, hD⟩ : ∃ n47 : Nat → Nat, n47 = va_up n 3 ((n 3) + 1) ∧ va_P (dC, dI) vwCl (mw_ h0 q n47 (F46 44 0) cI cZ F46) H ∧ va_D A (mw_ h0 q n47 (F46 44 0) cI cZ F46) := ⟨_, rfl, hP2, hD2⟩
                      have hN : nb_ n47 := by rw [e47]; exact ⟨hN.1, hN.2.1, hN.2.2.1, (show ((n 3) + 1) ≤ 120 by have := nI_nev (B := 120) h_12 rfl; omega), hN.2.2.2.2⟩
                      have hI47 : mi_ n47 F46 := by rw [e47]; exact hI46
                      refine lv_iload hx hb dX8_send_394 (lv_at hl 1 rfl) ?_
                      have hq48 : rM_send n F a1 a2 = ((nI (n 3)), n47, F46) := by subst e47 e46 e34 e23 e22 e21 e20 e19 e18 e17 e16 e15 e9 e6; exact hE49.trans ((if_neg h_7).trans ((if_neg h_10).trans ((if_neg h_12).trans (if_neg h_14))))
                      exact W.iret (v := (nI (n 3))) hx hb hr (fun t9 ht hW => ⟨⟨(nI (n 3)), (n47, F46), rfl, ⟨hq48.symm, hD, hI47, hN⟩, by show va_P (dC, dI) vwCl _ t9.heap; rw [ht]; exact hP⟩, hS.F ht⟩) hS.2.2 dX8_send_396
                    refine lv_icmp_ne (tgt := 173) hx hb dX8_send_161 (by decide) (fun h_49 => ?_) (fun h_49 => ?_)
                    · skip
                      refine lv_aload_n hx hb dX8_send_173 rfl (lv_at hl 2 rfl) ?_
                      refine va_get (D := (dC, dI)) (ci := 7) (v := .ref (q 6)) (C := RX8) (T := TX8) (N := 37) hx hb hts hinX8 hown hK hP 0 rfl rfl 6 (by decide) (hts (.fieldLink RX8 19 "FurPostsModel" "wayA" "[I") (by decide +kernel)) (fun _ h9 => h9) rfl dX8_send_174 ?_
                      refine lv_iload_n hx hb dX8_send_177 rfl (lv_at hl 4 rfl) ?_
                      refine va_iald hx hb hK hP 4 0 rfl rfl (i := a2) (sp_vpn h_3 (show n 2 ≤ 12 by omega) (by decide)) dX8_send_178 ?_
                      refine lv_topi (fun v50 (e50 : v50 = F15 6 a2.toNatClampNeg) => ?_)
                      exact jn17 _ (by subst e50 e16 e15 e9 e6; exact ((if_neg h_49)).symm)
                    · skip
                      refine lv_aload_n hx hb dX8_send_164 rfl (lv_at hl 2 rfl) ?_
                      refine va_get (D := (dC, dI)) (ci := 7) (v := .ref (q 7)) (C := RX8) (T := TX8) (N := 37) hx hb hts hinX8 hown hK hP 0 rfl rfl 7 (by decide) (hts (.fieldLink RX8 22 "FurPostsModel" "wayB" "[I") (by decide +kernel)) (fun _ h9 => h9) rfl dX8_send_165 ?_
                      refine lv_iload_n hx hb dX8_send_168 rfl (lv_at hl 4 rfl) ?_
                      refine va_iald hx hb hK hP 5 0 rfl rfl (i := a2) (sp_vpn h_3 (show n 2 ≤ 12 by omega) (by decide)) dX8_send_169 ?_
                      refine lv_topi (fun v51 (e51 : v51 = F15 7 a2.toNatClampNeg) => ?_)
                      refine lv_goto (tgt := 179) hx hb dX8_send_170 (by decide) ?_
                      exact jn17 _ (by subst e51 e16 e15 e9 e6; exact ((if_pos h_49)).symm)
                  · skip
                    refine lv_iconst (v := (-1)) hx hb dX8_send_132 (by decide) ?_
                    have hq52 : rM_send n F a1 a2 = ((-1), n, FL49) := by subst e9 e6; exact hE49.trans ((if_neg h_7).trans ((if_neg h_10).trans ((if_neg h_12).trans (if_pos h_14))))
                    exact W.iret (v := (-1)) hx hb hr (fun t9 ht hW => ⟨⟨(-1), (n, FL49), rfl, ⟨hq52.symm, hD, hIz49, hN⟩, by show va_P (dC, dI) vwCl _ t9.heap; rw [ht]; exact hP⟩, hS.F ht⟩) hS.2.2 dX8_send_133
          | succ k ih49 =>
            intro jL49 FL49 xL49_3 H locs ls hj hE49 hP hD hIz49 hS hl
            have hj49 : jL49 < 6 := by omega
            refine lv_iload hx hb dX8_send_49 (lv_at hl 0 rfl) ?_
            refine lv_bipush (v := 6) hx hb dX8_send_51 (by decide) ?_
            refine lv_icmp_ge (tgt := 91) hx hb dX8_send_53 (by decide) (fun h_53 => absurd h_53 (lp_ge (B := 6) (by omega) (by omega) rfl)) (fun h_53 => ?_)
            refine lv_iload_n hx hb dX8_send_56 rfl (lv_at hl 1 rfl) ?_
            refine lv_aload_n hx hb dX8_send_57 rfl (lv_at hl 2 rfl) ?_
            refine va_get (D := (dC, dI)) (ci := 7) (v := .ref (q 12)) (C := RX8) (T := TX8) (N := 37) hx hb hts hinX8 hown hK hP 0 rfl rfl 12 (by decide) (hts (.fieldLink RX8 37 "FurPostsModel" "loaded" "[I") (by decide +kernel)) (fun _ h9 => h9) rfl dX8_send_58 ?_
            refine lv_iload hx hb dX8_send_61 (lv_at hl 0 rfl) ?_
            refine va_iald hx hb hK hP 10 0 rfl rfl (i := (nI jL49)) (vp_in_nI (show jL49 < 6 by omega) (by decide)) dX8_send_63 ?_
            refine lv_topi (fun v54 (e54 : v54 = FL49 12 (nI jL49).toNatClampNeg) => ?_)
            rw [(nI_clamp (by omega))] at e54
            refine lv_iadd hx hb dX8_send_64 ?_
            refine lv_istore_n (lv' := [(3, .int (xL49_3 + v54)), (4, .int (nI jL49)), (0, .ref h0), (1, .int a1), (2, .int a2)]) hx hb dX8_send_65 rfl hl (by decide) rfl (fun ls hl => ?_)
            refine lv_aload_n hx hb dX8_send_66 rfl (lv_at hl 2 rfl) ?_
            refine va_get (D := (dC, dI)) (ci := 7) (v := .ref (q 12)) (C := RX8) (T := TX8) (N := 37) hx hb hts hinX8 hown hK hP 0 rfl rfl 12 (by decide) (hts (.fieldLink RX8 37 "FurPostsModel" "loaded" "[I") (by decide +kernel)) (fun _ h9 => h9) rfl dX8_send_67 ?_
            refine lv_iload hx hb dX8_send_70 (lv_at hl 1 rfl) ?_
            refine va_iald hx hb hK hP 10 0 rfl rfl (i := (nI jL49)) (vp_in_nI (show jL49 < 6 by omega) (by decide)) dX8_send_72 ?_
            refine lv_topi (fun v55 (e55 : v55 = FL49 12 (nI jL49).toNatClampNeg) => ?_)
            rw [(nI_clamp (by omega))] at e55
            refine lv_aload_n hx hb dX8_send_73 rfl (lv_at hl 2 rfl) ?_
            refine lv_iload_n hx hb dX8_send_74 rfl (lv_at hl 3 rfl) ?_
            refine lv_iload hx hb dX8_send_75 (lv_at hl 1 rfl) ?_
            refine pu_call (va_runV (As := [.int a1, .int (nI jL49)]) (rest := [.int v55]) ⟨hx, hb, hml, hown, hts⟩ (k_X8_stored l dC dI h0 q n cI cZ FL49 hIz49 hN a1 (nI jL49) (sp_vpn h_1 (show n 1 ≤ 8 by omega) (by decide)) (vp_in_nI (show jL49 < 6 by omega) (by decide))) (cwV 2 hts gX8_send_X8_stored rfl rfl rfl (by decide +kernel) ⟨Nat.le_of_ble_eq_true rfl, Nat.le_of_ble_eq_true rfl⟩) (pu_pre hP hK (ci := 7) (q0 := 0) rfl rfl) rfl rfl hl.1 rfl (lv_room (Nat.le_of_ble_eq_true rfl)) dX8_send_77 ⟨Nat.le_of_ble_eq_true rfl, Nat.le_of_ble_eq_true rfl⟩) ?_
            refine lv_topi (fun r56 (e56 : r56 = rM_stored n FL49 a1 (nI jL49)) => ?_)
            refine lv_icmp_le (tgt := 85) hx hb dX8_send_80 (by decide) (fun h_57 => ?_) (fun h_57 => ?_)
            · skip
              refine lv_iinc (v := (nI (jL49 + 1))) (lv' := [(4, .int (nI (jL49 + 1))), (3, .int (xL49_3 + v54)), (0, .ref h0), (1, .int a1), (2, .int a2)]) hx hb dX8_send_85 hl (k := 1) rfl (show nI jL49 + 1 = nI (jL49 + 1) from nI_1 jL49) (by decide) rfl (fun ls hl => ?_)
              refine lv_goto (tgt := 49) hx hb dX8_send_88 (by decide) ?_
              exact ih49 (jL49 + 1) FL49 (xL49_3 + v54) H locs ls (by omega) (by subst e56 e55 e54; exact hE49.trans (if_pos h_57)) hP hD hIz49 hS (lv_sub hl [0, 1, 2, 3, 4] rfl)
            · skip
              refine lv_iconst (v := (-1)) hx hb dX8_send_83 (by decide) ?_
              have hq58 : rM_send n F a1 a2 = ((-1), n, FL49) := by subst e56 e55 e54; exact hE49.trans (if_neg h_57)
              exact W.iret (v := (-1)) hx hb hr (fun t9 ht hW => ⟨⟨(-1), (n, FL49), rfl, ⟨hq58.symm, hD, hIz49, hN⟩, by show va_P (dC, dI) vwCl _ t9.heap; rw [ht]; exact hP⟩, hS.F ht⟩) hS.2.2 dX8_send_84
        exact key49 6 0 F 0 H locs ls (by omega) (by exact hM44) hP hD hI hS (lv_sub hl [0, 1, 2, 3, 4] rfl)
      refine lv_aload_n hx hb dX8_send_22 rfl (lv_at hl 0 rfl) ?_
      refine va_get (D := (dC, dI)) (ci := 7) (v := .ref (q 6)) (C := RX8) (T := TX8) (N := 37) hx hb hts hinX8 hown hK hP 0 rfl rfl 6 (by decide) (hts (.fieldLink RX8 19 "FurPostsModel" "wayA" "[I") (by decide +kernel)) (fun _ h9 => h9) rfl dX8_send_23 ?_
      refine lv_iload_n hx hb dX8_send_26 rfl (lv_at hl 2 rfl) ?_
      refine va_iald hx hb hK hP 4 0 rfl rfl (i := a2) (sp_vpn h_3 (show n 2 ≤ 12 by omega) (by decide)) dX8_send_27 ?_
      refine lv_topi (fun v59 (e59 : v59 = F 6 a2.toNatClampNeg) => ?_)
      refine lv_iload_n hx hb dX8_send_28 rfl (lv_at hl 1 rfl) ?_
      refine lv_icmp_eq (tgt := 44) hx hb dX8_send_29 (by decide) (fun h_60 => ?_) (fun h_60 => ?_)
      · skip
        exact mg44 (by subst e59; exact (if_neg h_1).trans ((if_neg h_3).trans (if_pos h_60)))
      · skip
        refine lv_aload_n hx hb dX8_send_32 rfl (lv_at hl 0 rfl) ?_
        refine va_get (D := (dC, dI)) (ci := 7) (v := .ref (q 7)) (C := RX8) (T := TX8) (N := 37) hx hb hts hinX8 hown hK hP 0 rfl rfl 7 (by decide) (hts (.fieldLink RX8 22 "FurPostsModel" "wayB" "[I") (by decide +kernel)) (fun _ h9 => h9) rfl dX8_send_33 ?_
        refine lv_iload_n hx hb dX8_send_36 rfl (lv_at hl 2 rfl) ?_
        refine va_iald hx hb hK hP 5 0 rfl rfl (i := a2) (sp_vpn h_3 (show n 2 ≤ 12 by omega) (by decide)) dX8_send_37 ?_
        refine lv_topi (fun v61 (e61 : v61 = F 7 a2.toNatClampNeg) => ?_)
        refine lv_iload_n hx hb dX8_send_38 rfl (lv_at hl 1 rfl) ?_
        refine lv_icmp_eq (tgt := 44) hx hb dX8_send_39 (by decide) (fun h_62 => ?_) (fun h_62 => ?_)
        · skip
          exact mg44 (by subst e61 e59; exact (if_neg h_1).trans ((if_neg h_3).trans ((if_neg h_60).trans (if_pos h_62))))
        · skip
          refine lv_iconst (v := (-1)) hx hb dX8_send_42 (by decide) ?_
          have hq63 : rM_send n F a1 a2 = ((-1), n, F) := by subst e61 e59; exact (if_neg h_1).trans ((if_neg h_3).trans ((if_neg h_60).trans (if_neg h_62)))
          exact W.iret (v := (-1)) hx hb hr (fun t9 ht hW => ⟨⟨(-1), (n, F), rfl, ⟨hq63.symm, hD, hI, hN⟩, by show va_P (dC, dI) vwCl _ t9.heap; rw [ht]; exact hP⟩, hS.F ht⟩) hS.2.2 dX8_send_43
