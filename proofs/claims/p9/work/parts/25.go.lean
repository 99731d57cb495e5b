def go_n (k : Nat) (a : Int32) : Nat := if sp_in a 0 400 = 0 then k else min (k + a.toNatClampNeg) 3000
def go_r (k : Nat) (a : Int32) : Int32 := if sp_in a 0 400 = 0 then -1 else nI (min (k + a.toNatClampNeg) 3000)
theorem sp_nI {x b : Int32} {n : Nat} (h : ¬ sp_in x 0 b = 0) (hb : b.toInt = n) : ∃ j : Nat, j ≤ n ∧ x = nI j := by
  obtain ⟨h1, h2⟩ := sp_in_1 h
  exact nI_of2 hb (fun z => by rw [sp_lt] at z; rw [sp_le] at h1; omega) h2
theorem nI_linv {k B : Nat} {b : Int32} (h : ¬ b ≤ nI k) (e : b = nI B) (hk : k < 2147483648 ∧ B < 2147483648) : k < B := by
  rw [e] at h
  exact Nat.lt_of_not_le fun z => h (nI_le z (by omega))
theorem nI_linv3 {n nz : Nat → Nat} {j : Nat} (h : (3000 : Int32) ≤ nI (nz 0)) (hz : nz = va_up n 0 (n 0 + j)) (hN : nb_ nz) : 3000 ≤ n 0 + j := by
  have h0 := hN.1
  have e : nz 0 = n 0 + j := by rw [hz]; rfl
  have h1 : nI 3000 ≤ nI (nz 0) := h
  have h2 := (nI_leI (by omega) (by omega)).mp h1
  omega
theorem go_end {n nz : Nat → Nat} {j M : Nat} (h : ¬ sp_in (nI M) 0 400 = 0) (hM : M ≤ 400) (hz : nz = va_up n 0 (n 0 + j)) (hN : nb_ nz) (hj : j ≤ M) (he : j = M ∨ 3000 ≤ n 0 + j) : nI (nz 0) = go_r (n 0) (nI M) ∧ nz = va_up n 0 (go_n (n 0) (nI M)) := by
  have h0 := hN.1
  have e : nz 0 = n 0 + j := by rw [hz]; rfl
  have hc : (nI M).toNatClampNeg = M := nI_clamp (by omega)
  have hm : min (n 0 + M) 3000 = n 0 + j := by
    rcases he with rfl | he
    · exact Nat.min_eq_left (by omega)
    · rw [Nat.min_eq_right (by omega)]; omega
  unfold go_r go_n
  rw [if_neg h, if_neg h, hc, hm, e]
  exact ⟨rfl, hz⟩
theorem go_no {n : Nat → Nat} {a : Int32} (h : sp_in a 0 400 = 0) : n = va_up n 0 (go_n (n 0) a) := by
  unfold go_n
  rw [if_pos h]
  funext x
  by_cases e : x = 0 <;> simp [va_up, e]
set_option maxHeartbeats 4000000 in
set_option maxRecDepth 100000 in
theorem m_X7_go (l : Launch) (dC : Nat → ClassId) (dI : Nat → Nat → Nat) (h0 : Nat) (q n : Nat → Nat) (dl : Int32) (cI : ClassId) (cy : Nat → ClassId) (L : List Nat) (t : Nat → Nat) (f : Nat → va_E) (hT : ty_ cI cy L t f) (hQ : qs_ q t) (hN : nb_ n) (A : Nat → Prop) (hD : va_D A (xo_ h0 q n dl ++ va_pl L f)) (a1 : Int32) : Met l yX7_go wsX7_go ({ frames := 4, cells := 0, slots := 0, locals := 92 }) (va_Pc [.ref h0, .int a1] (pt_P (dC, dI) vwCl (tt_ cI cy) (xo_ h0 q n dl ++ va_pl L f))) (va_Qi (fun r (u : (Nat → va_E) × (Nat → Nat) × Int32) => r = go_r (n 0) a1 ∧ va_D A (xo_ h0 q u.2.1 u.2.2 ++ va_pl L u.1) ∧ ty_ cI cy L t u.1 ∧ u.2.1 = va_up n 0 (go_n (n 0) a1)) (fun u s' => va_P (dC, dI) vwCl (xo_ h0 q u.2.1 u.2.2 ++ va_pl L u.1) s'.heap) A) 0 0 A := by
  refine Met.ofW (cc := cX7_go) (maxL := 4) (ret := (some .int)) (by decide) rfl ?_
  intro p e s m args below meth c s₁ B hml hv
  obtain ⟨rfl, hP, hK, hW0⟩ := hv
  have hx := B.exec
  have hb := B.bytes
  have hr := B.returns
  have hts := atoms_spec (ws := wsX7_go) B.pre
  have hown : s.vm.findClass RX7 = some m.cls := findClass_of_methodNamed B.named
  have hlocks := B.notSynchronized
  have hinX7 : ∀ w ∈ u_ws RX7 TX7 14, w ∈ wsX7_go := by decide +kernel
  have hS : va_S A s.heap s.heap [] := va_S.rf
  have hl := lv_entry ([.ref h0, .int a1]) (n := 4) (Nat.le_of_ble_eq_true rfl)
  rw [lg_entry_eq]
  generalize (lg_sl ([.ref h0, .int a1]) ++ List.replicate (4 - (lg_sl ([.ref h0, .int a1])).length) Slot.unset).toArray = ls at hl ⊢
  have hl : lv_has ls 4 [(0, .ref h0), (1, .int a1)] := hl
  obtain ⟨H, hH, hP, hS⟩ : ∃ H, H = s.heap ∧ va_P (dC, dI) vwCl (xo_ h0 q n dl ++ va_pl L f) H ∧ va_S A s.heap H [] := ⟨_, rfl, hP, hS⟩
  rw [← hH]
  generalize ([] : List Loc) = locs at hS ⊢
  refine lv_iload_n hx hb dX7_go_0 rfl (lv_at hl 1 rfl) ?_
  refine lv_iconst (v := 0) hx hb dX7_go_1 (by decide) ?_
  refine lv_sipush (v := 400) hx hb dX7_go_2 (by decide) ?_
  refine pu_call (va_runS (As := [.int a1, .int 0, .int 400]) (rest := []) ⟨hx, hb, hml, hown, hts⟩ (c_X7_isWithin l a1 0 400) (va_cwS 3 hts gX7_go_X7_isWithin rfl rfl rfl (by decide +kernel) ⟨Nat.le_of_ble_eq_true rfl, Nat.le_of_ble_eq_true rfl⟩) pu_preS rfl rfl hl.1 rfl (lv_room (Nat.le_of_ble_eq_true rfl)) dX7_go_5 ⟨Nat.le_of_ble_eq_true rfl, Nat.le_of_ble_eq_true rfl⟩) ?_
  refine lv_if_ne (tgt := 13) hx hb dX7_go_8 (by decide) (fun h_1 => ?_) (fun h_1 => ?_)
  · skip
    obtain ⟨M, hM, rfl⟩ := sp_nI h_1 (n := 400) (by decide)
    refine lv_iconst (v := 0) hx hb dX7_go_13 (by decide) ?_
    refine lv_istore_n (lv' := [(2, .int 0), (0, .ref h0), (1, .int (nI M))]) hx hb dX7_go_14 rfl hl (by decide) rfl (fun ls hl => ?_)
    have key15 : ∀ (k j15 : Nat) (nz : Nat → Nat) (f : Nat → va_E) (dl : Int32) (H : Heap) (locs : List Loc) (ls : Array Slot), j15 + k = M → nz = va_up n 0 (n 0 + j15) → nb_ nz → va_P (dC, dI) vwCl (xo_ h0 q nz dl ++ va_pl L f) H → va_D A (xo_ h0 q nz dl ++ va_pl L f) → ty_ cI cy L t f → va_S A s.heap H locs → lv_has ls 4 [(2, .int (nI j15)), (0, .ref h0), (1, .int (nI M))] →
        W p l e (headSpec wsX7_go ({ frames := 4, cells := 0, slots := 0, locals := 92 })).room s m [.ref h0, .int (nI M)].toArray below meth c H locs 0 0 (MQ below (va_Qi (fun r (u : (Nat → va_E) × (Nat → Nat) × Int32) => r = go_r (n 0) (nI M) ∧ va_D A (xo_ h0 q u.2.1 u.2.2 ++ va_pl L u.1) ∧ ty_ cI cy L t u.1 ∧ u.2.1 = va_up n 0 (go_n (n 0) (nI M))) (fun u s' => va_P (dC, dI) vwCl (xo_ h0 q u.2.1 u.2.2 ++ va_pl L u.1) s'.heap) A) [.ref h0, .int (nI M)].toArray s 0 0 A) (F0 m 15 ls []) := by
      intro k
      induction k with
      | zero =>
        intro j15 nz f dl H locs ls hj hnz hN hP hD hT hS hl
        have hj : j15 = M := by omega
        subst j15
        refine lv_iload_n hx hb dX7_go_15 rfl (lv_at hl 0 rfl) ?_
        refine lv_iload_n hx hb dX7_go_16 rfl (lv_at hl 2 rfl) ?_
        refine lv_icmp_ge (tgt := 67) hx hb dX7_go_17 (by decide) (fun h_2 => ?_) (fun h_2 => absurd (lp_ge0 (B := M) rfl) h_2)
        refine lv_aload_n hx hb dX7_go_67 rfl (lv_at hl 1 rfl) ?_
        refine va_get (D := (dC, dI)) (ci := 6) (v := .int (nI (nz 0))) (C := RX7) (T := TX7) (N := 14) hx hb hts hinX7 hown hK hP 0 rfl rfl 8 (by decide) (hts (.fieldLink RX7 103 "FurPosts" "now" "I") (by decide +kernel)) (fun _ h9 => h9) rfl dX7_go_68 ?_
        exact W.iret (v := (nI (nz 0))) hx hb hr (fun t ht hW => ⟨⟨(nI (nz 0)), (f, nz, dl), rfl, ⟨(go_end h_1 hM hnz hN (Nat.le_refl _) (Or.inl rfl)).1, hD, hT, (go_end h_1 hM hnz hN (Nat.le_refl _) (Or.inl rfl)).2⟩, by show va_P (dC, dI) vwCl _ t.heap; rw [ht]; exact hP⟩, hS.F ht⟩) hS.2.2 dX7_go_71
      | succ k ih15 =>
        intro j15 nz f dl H locs ls hj hnz hN hP hD hT hS hl
        have hj15 : j15 < M := by omega
        refine lv_iload_n hx hb dX7_go_15 rfl (lv_at hl 0 rfl) ?_
        refine lv_iload_n hx hb dX7_go_16 rfl (lv_at hl 2 rfl) ?_
        refine lv_icmp_ge (tgt := 67) hx hb dX7_go_17 (by decide) (fun h_3 => absurd h_3 (lp_ge (B := M) (by omega) (by omega) rfl)) (fun h_3 => ?_)
        refine lv_aload_n hx hb dX7_go_20 rfl (lv_at hl 1 rfl) ?_
        refine va_get (D := (dC, dI)) (ci := 6) (v := .int (nI (nz 0))) (C := RX7) (T := TX7) (N := 14) hx hb hts hinX7 hown hK hP 0 rfl rfl 8 (by decide) (hts (.fieldLink RX7 103 "FurPosts" "now" "I") (by decide +kernel)) (fun _ h9 => h9) rfl dX7_go_21 ?_
        refine lv_sipush (v := 3000) hx hb dX7_go_24 (by decide) ?_
        refine lv_icmp_ge (tgt := 67) hx hb dX7_go_27 (by decide) (fun h_4 => ?_) (fun h_4 => ?_)
        · skip
          refine lv_aload_n hx hb dX7_go_67 rfl (lv_at hl 1 rfl) ?_
          refine va_get (D := (dC, dI)) (ci := 6) (v := .int (nI (nz 0))) (C := RX7) (T := TX7) (N := 14) hx hb hts hinX7 hown hK hP 0 rfl rfl 8 (by decide) (hts (.fieldLink RX7 103 "FurPosts" "now" "I") (by decide +kernel)) (fun _ h9 => h9) rfl dX7_go_68 ?_
          exact W.iret (v := (nI (nz 0))) hx hb hr (fun t ht hW => ⟨⟨(nI (nz 0)), (f, nz, dl), rfl, ⟨(go_end h_1 hM hnz hN (by omega) (Or.inr (nI_linv3 h_4 hnz hN))).1, hD, hT, (go_end h_1 hM hnz hN (by omega) (Or.inr (nI_linv3 h_4 hnz hN))).2⟩, by show va_P (dC, dI) vwCl _ t.heap; rw [ht]; exact hP⟩, hS.F ht⟩) hS.2.2 dX7_go_71
        · skip
          have h3000 := h_4
          refine lv_iconst (v := 0) hx hb dX7_go_30 (by decide) ?_
          refine lv_istore_n (lv' := [(3, .int 0), (2, .int (nI j15)), (0, .ref h0), (1, .int (nI M))]) hx hb dX7_go_31 rfl hl (by decide) rfl (fun ls hl => ?_)
          have key32 : ∀ (k j32 : Nat) (f : Nat → va_E) (dl : Int32) (H : Heap) (locs : List Loc) (ls : Array Slot), j32 + k = (nz 3) → va_P (dC, dI) vwCl (xo_ h0 q nz dl ++ va_pl L f) H → va_D A (xo_ h0 q nz dl ++ va_pl L f) → ty_ cI cy L t f → va_S A s.heap H locs → lv_has ls 4 [(3, .int (nI j32)), (2, .int (nI j15)), (0, .ref h0), (1, .int (nI M))] →
              W p l e (headSpec wsX7_go ({ frames := 4, cells := 0, slots := 0, locals := 92 })).room s m [.ref h0, .int (nI M)].toArray below meth c H locs 0 0 (MQ below (va_Qi (fun r (u : (Nat → va_E) × (Nat → Nat) × Int32) => r = go_r (n 0) (nI M) ∧ va_D A (xo_ h0 q u.2.1 u.2.2 ++ va_pl L u.1) ∧ ty_ cI cy L t u.1 ∧ u.2.1 = va_up n 0 (go_n (n 0) (nI M))) (fun u s' => va_P (dC, dI) vwCl (xo_ h0 q u.2.1 u.2.2 ++ va_pl L u.1) s'.heap) A) [.ref h0, .int (nI M)].toArray s 0 0 A) (F0 m 32 ls []) := by
            intro k
            induction k with
            | zero =>
              intro j32 f dl H locs ls hj hP hD hT hS hl
              have hj : j32 = (nz 3) := by omega
              subst j32
              refine lv_iload_n hx hb dX7_go_32 rfl (lv_at hl 0 rfl) ?_
              refine lv_aload_n hx hb dX7_go_33 rfl (lv_at hl 2 rfl) ?_
              refine va_get (D := (dC, dI)) (ci := 6) (v := .int (nI (nz 3))) (C := RX7) (T := TX7) (N := 14) hx hb hts hinX7 hown hK hP 0 rfl rfl 11 (by decide) (hts (.fieldLink RX7 113 "FurPosts" "canoeCount" "I") (by decide +kernel)) (fun _ h9 => h9) rfl dX7_go_34 ?_
              refine lv_icmp_ge (tgt := 51) hx hb dX7_go_37 (by decide) (fun h_5 => ?_) (fun h_5 => absurd (lp_ge0 (B := (nz 3)) rfl) h_5)
              refine lv_aload_n hx hb dX7_go_51 rfl (lv_at hl 2 rfl) ?_
              refine lv_dup hx hb dX7_go_52 rfl ?_
              refine va_get (D := (dC, dI)) (ci := 6) (v := .int (nI (nz 0))) (C := RX7) (T := TX7) (N := 14) hx hb hts hinX7 hown hK hP 0 rfl rfl 8 (by decide) (hts (.fieldLink RX7 103 "FurPosts" "now" "I") (by decide +kernel)) (fun _ h9 => h9) rfl dX7_go_53 ?_
              refine lv_iconst (v := 1) hx hb dX7_go_56 (by decide) ?_
              refine lv_iadd hx hb dX7_go_57 ?_
              rw [nI_1]
              refine va_put (D := (dC, dI)) (ci := 6) (v := .int (nI ((nz 0) + 1))) (ty := .int) (C := RX7) (T := TX7) (N := 14) hx hb hts hinX7 tyX7 tyX7_ok nmX7 hown hK hP hD hS 0 rfl rfl 8 (by decide) (hts (.fieldLink RX7 103 "FurPosts" "now" "I") (by decide +kernel)) (fun _ h9 => h9) rfl (by decide +kernel) rfl rfl (Nat.le_of_ble_eq_true rfl) dX7_go_58 (fun H locs hP2 hD2 hS => ?_)
              obtain ⟨n6, hn6, hP, hD⟩ : ∃ n6 : Nat → Nat, n6 = va_up nz 0 (((nz 0) + 1)) ∧ va_P (dC, dI) vwCl (xo_ h0 q n6 dl ++ va_pl L f) H ∧ va_D A (xo_ h0 q n6 dl ++ va_pl L f) := ⟨_, rfl, hP2, hD2⟩
              have hN : nb_ n6 := by rw [hn6]; exact ⟨(show ((nz 0) + 1) ≤ 3000 by have := nI_linv (B := 3000) h3000 rfl (by omega); omega), hN.2.1, hN.2.2.1, hN.2.2.2.1, hN.2.2.2.2⟩
              refine lv_iinc (v := (nI (j15 + 1))) (lv' := [(2, .int (nI (j15 + 1))), (3, .int (nI (nz 3))), (0, .ref h0), (1, .int (nI M))]) hx hb dX7_go_61 hl (k := 1) rfl (show nI j15 + 1 = nI (j15 + 1) from nI_1 j15) (by decide) rfl (fun ls hl => ?_)
              refine lv_goto (tgt := 15) hx hb dX7_go_64 (by decide) ?_
              exact ih15 (j15 + 1) n6 f dl H locs ls (by omega) (by rw [hn6, hnz, bx_uu]; rfl) hN hP hD hT hS (lv_sub hl [0, 2, 3] rfl)
            | succ k ih32 =>
              intro j32 f dl H locs ls hj hP hD hT hS hl
              have hj32 : j32 < (nz 3) := by omega
              refine lv_iload_n hx hb dX7_go_32 rfl (lv_at hl 0 rfl) ?_
              refine lv_aload_n hx hb dX7_go_33 rfl (lv_at hl 2 rfl) ?_
              refine va_get (D := (dC, dI)) (ci := 6) (v := .int (nI (nz 3))) (C := RX7) (T := TX7) (N := 14) hx hb hts hinX7 hown hK hP 0 rfl rfl 11 (by decide) (hts (.fieldLink RX7 113 "FurPosts" "canoeCount" "I") (by decide +kernel)) (fun _ h9 => h9) rfl dX7_go_34 ?_
              refine lv_icmp_ge (tgt := 51) hx hb dX7_go_37 (by decide) (fun h_7 => absurd h_7 (lp_ge (B := (nz 3)) (by omega) (by omega) rfl)) (fun h_7 => ?_)
              refine lv_aload_n hx hb dX7_go_40 rfl (lv_at hl 2 rfl) ?_
              refine lv_iload_n hx hb dX7_go_41 rfl (lv_at hl 0 rfl) ?_
              refine va_callv (va_runV (As := [.int (nI j32)]) (rest := []) ⟨hx, hb, hml, hown, hts⟩ (m_X7_moveCanoe l dC dI h0 q nz dl cI cy L t f hT hQ hN A hD (nI j32)) (cwV 1 hts gX7_go_X7_moveCanoe rfl rfl rfl (by decide +kernel) ⟨Nat.le_of_ble_eq_true rfl, Nat.le_of_ble_eq_true rfl⟩) (pt_pre hP hK hW0 (ci := 6) (q0 := 0) rfl rfl) rfl rfl hl.1 rfl (lv_room (Nat.le_of_ble_eq_true rfl)) dX7_go_42 ⟨Nat.le_of_ble_eq_true rfl, Nat.le_of_ble_eq_true rfl⟩) hS (fun _ _ h => h) (fun _ h => h) (fun u8 st8 H locs ht8 hvm8 hw8 hB8 hz8 hk8 hS => ?_)
              obtain ⟨f8, n8, d8⟩ := u8
              obtain ⟨hD8, hT8, hn8⟩ := hw8
              have hn8 : n8 = nz := hn8
              have hB8 : va_P (dC, dI) vwCl (xo_ h0 q n8 d8 ++ va_pl L f8) H := by rw [← ht8]; exact hB8
              have hD8 : va_D A (xo_ h0 q n8 d8 ++ va_pl L f8) := hD8
              rw [hn8] at hB8 hD8
              obtain ⟨f, dl, hP, hD, hT⟩ : ∃ (f : Nat → va_E) (dl : Int32), va_P (dC, dI) vwCl (xo_ h0 q nz dl ++ va_pl L f) H ∧ va_D A (xo_ h0 q nz dl ++ va_pl L f) ∧ ty_ cI cy L t f := ⟨f8, d8, hB8, hD8, hT8⟩
              refine lv_iinc (v := (nI (j32 + 1))) (lv' := [(3, .int (nI (j32 + 1))), (2, .int (nI j15)), (0, .ref h0), (1, .int (nI M))]) hx hb dX7_go_45 hl (k := 0) rfl (show nI j32 + 1 = nI (j32 + 1) from nI_1 j32) (by decide) rfl (fun ls hl => ?_)
              refine lv_goto (tgt := 32) hx hb dX7_go_48 (by decide) ?_
              exact ih32 (j32 + 1) f dl H locs ls (by omega) hP hD hT hS (lv_sub hl [0, 1, 2, 3] rfl)
          exact key32 (nz 3) 0 f dl H locs ls (by omega) hP hD hT hS (lv_sub hl [0, 1, 2, 3] rfl)
    exact key15 M 0 n f dl H locs ls (by omega) (by funext x; by_cases h : x = 0 <;> simp [va_up, h]) hN hP hD hT hS (lv_sub hl [0, 1, 2] rfl)
  · skip
    refine lv_iconst (v := (-1)) hx hb dX7_go_11 (by decide) ?_
    exact W.iret (v := (-1)) hx hb hr (fun t ht hW => ⟨⟨(-1), (f, n, dl), rfl, ⟨(if_pos h_1).symm, hD, hT, (go_no h_1)⟩, by show va_P (dC, dI) vwCl _ t.heap; rw [ht]; exact hP⟩, hS.F ht⟩) hS.2.2 dX7_go_12
