theorem up_swap {α : Type} {f : Nat → α} {a b : Nat} {x y : α} (h : ¬ a = b) : va_up (va_up f a x) b y = va_up (va_up f b y) a x := by
  funext j
  by_cases h1 : j = a
  · rw [h1, va_up_ne _ _ h, va_up_self, va_up_self]
  · by_cases h2 : j = b
    · rw [h2, va_up_self, va_up_ne _ _ (fun z => h z.symm), va_up_self]
    · rw [va_up_ne _ _ h2, va_up_ne _ _ h1, va_up_ne _ _ h1, va_up_ne _ _ h2]
theorem pl_new1 {D : va_G} {cl : List vw_C} {h0 : Nat} {e0 : va_E} {L : List Nat} {f : Nat → va_E} {A : Nat → Prop} {H : Heap} {x : Nat} {e : va_E} (hP : va_P D cl ([(h0, e0)] ++ va_pl L f) H) (hD : va_D A ([(h0, e0)] ++ va_pl L f)) (hs : va_P D cl [(x, e)] H) (hx : x ∉ L) (hx0 : ¬ x = h0) (hA : A x) : va_P D cl ([(h0, e0)] ++ va_pl (L ++ [x]) (va_up f x e)) H ∧ va_D A ([(h0, e0)] ++ va_pl (L ++ [x]) (va_up f x e)) := by
  rw [← pl_push hx]
  refine ⟨hP.app hs, va_D.app hD (va_D1 hA) (fun i j y z hy hz hyz => ?_)⟩
  have h1 : j < 1 := (List.getElem?_eq_some_iff.mp hz).1
  rw [show j = 0 by omega] at hz
  cases hz
  have hm := List.mem_of_getElem? hy
  rcases List.mem_append.mp hm with h | h
  · rw [List.mem_singleton.mp h] at hyz
    exact hx0 hyz.symm
  · obtain ⟨b, hb, rfl⟩ := List.mem_map.mp h
    have e9 : b = x := hyz
    exact hx (by rw [← e9]; exact hb)
def post_r (k : Nat) : Int32 := if k < 8 then nI k else -1
def post_n (k : Nat) : Nat := if k < 8 then k + 1 else k
theorem post_ans {n n2 : Nat → Nat} (h : n 1 < 8) (e : n2 = va_up n 1 (n 1 + 1)) : nI (n2 1) - 1 = post_r (n 1) := by
  rw [e]
  unfold post_r
  rw [if_pos h]
  exact nI_pred (n 1)

set_option maxHeartbeats 4000000 in
set_option maxRecDepth 100000 in
theorem a_X7_way (l : Launch) (dC : Nat → ClassId) (dI : Nat → Nat → Nat) (h0 : Nat) (q n : Nat → Nat) (dl : Int32) (cI : ClassId) (cy : Nat → ClassId) (L : List Nat) (t : Nat → Nat) (f : Nat → va_E) (hT : ty_ cI cy L t f) (hQ : qs_ q t) (hN : nb_ n) (A : Nat → Prop) (hD : va_D A (xo_ h0 q n dl ++ va_pl L f)) (a1 : Int32) (a2 : Int32) (a3 : Int32) (a4 : Int32) : Met l yX7_way wsX7_way ({ frames := 2, cells := 1, slots := 6, locals := 47 }) (va_Pc [.ref h0, .int a1, .int a2, .int a3, .int a4] (fun U => pt_P (dC, dI) vwCl (tt_ cI cy) (xo_ h0 q n dl ++ va_pl L f) U ∧ ∀ a, U.heap.size ≤ a → A a)) (va_Qi (fun r (u : List Nat × (Nat → Nat) × (Nat → va_E) × (Nat → Nat) × Int32) => True ∧ va_D A (xo_ h0 q u.2.2.2.1 u.2.2.2.2 ++ va_pl u.1 u.2.2.1) ∧ ty_ cI cy u.1 u.2.1 u.2.2.1 ∧ qs_ q u.2.1 ∧ nb_ u.2.2.2.1 ∧ (u.2.2.2.1 0 = n 0 ∧ u.2.2.2.1 1 = n 1)) (fun u s' => va_P (dC, dI) vwCl (xo_ h0 q u.2.2.2.1 u.2.2.2.2 ++ va_pl u.1 u.2.2.1) s'.heap) A) 1 6 A := by
  refine Met.ofW (cc := cX7_way) (maxL := 8) (ret := (some .int)) (by decide) rfl ?_
  intro p e s m args below meth c s₁ B hml hv
  obtain ⟨rfl, ⟨hP, hK, hW0⟩, hA⟩ := hv
  have hx := B.exec
  have hb := B.bytes
  have hr := B.returns
  have hts := atoms_spec (ws := wsX7_way) B.pre
  have hown : s.vm.findClass RX7 = some m.cls := findClass_of_methodNamed B.named
  have hlocks := B.notSynchronized
  have hinX6 : ∀ w ∈ u_ws RX6 TX6 6, w ∈ wsX7_way := by decide +kernel
  have hinX7 : ∀ w ∈ u_ws RX7 TX7 14, w ∈ wsX7_way := by decide +kernel
  have hS : va_S A s.heap s.heap [] := va_S.rf
  have hl := lv_entry ([.ref h0, .int a1, .int a2, .int a3, .int a4]) (n := 8) (Nat.le_of_ble_eq_true rfl)
  rw [lg_entry_eq]
  generalize (lg_sl ([.ref h0, .int a1, .int a2, .int a3, .int a4]) ++ List.replicate (8 - (lg_sl ([.ref h0, .int a1, .int a2, .int a3, .int a4])).length) Slot.unset).toArray = ls at hl ⊢
  have hl : lv_has ls 8 [(0, .ref h0), (1, .int a1), (2, .int a2), (3, .int a3), (4, .int a4)] := hl
  obtain ⟨H, hH, hP, hS⟩ : ∃ H, H = s.heap ∧ va_P (dC, dI) vwCl (xo_ h0 q n dl ++ va_pl L f) H ∧ va_S A s.heap H [] := ⟨_, rfl, hP, hS⟩
  rw [← hH]
  generalize ([] : List Loc) = locs at hS ⊢
  refine lv_aload_n hx hb dX7_way_0 rfl (lv_at hl 0 rfl) ?_
  refine lv_iload_n hx hb dX7_way_1 rfl (lv_at hl 1 rfl) ?_
  refine lv_iload_n hx hb dX7_way_2 rfl (lv_at hl 2 rfl) ?_
  refine pg_call (va_runV (As := [.int a1, .int a2]) (rest := []) ⟨hx, hb, hml, hown, hts⟩ (k_X7_areTwoPosts l dC dI h0 q n dl cI cy L t f hT hQ hN a1 a2) (cwV 2 hts gX7_way_X7_areTwoPosts rfl rfl rfl (by decide +kernel) ⟨Nat.le_of_ble_eq_true rfl, Nat.le_of_ble_eq_true rfl⟩) (pt_pre hP hK hW0 (ci := 6) (q0 := 0) rfl rfl) rfl rfl hl.1 rfl (lv_room (Nat.le_of_ble_eq_true rfl)) dX7_way_3 ⟨Nat.le_of_ble_eq_true rfl, Nat.le_of_ble_eq_true rfl⟩) (fun w1 hw1 => ?_)
  obtain ⟨r1, rfl, hg1⟩ := hw1
  refine lv_if_eq (tgt := 30) hx hb dX7_way_6 (by decide) (fun h_2 => ?_) (fun h_2 => ?_)
  · skip
    refine lv_iconst (v := (-1)) hx hb dX7_way_30 (by decide) ?_
    refine W.widen (k := 1) (n := 6) (Nat.le_of_ble_eq_true rfl) (Nat.le_of_ble_eq_true rfl) ?_
    exact W.iret (v := (-1)) hx hb hr (fun t9 ht hW => ⟨⟨(-1), (L, t, f, n, dl), rfl, ⟨trivial, hD, hT, hQ, hN, ⟨rfl, rfl⟩⟩, by show va_P (dC, dI) vwCl _ t9.heap; rw [ht]; exact hP⟩, hS.F ht⟩) hS.2.2 dX7_way_31
  · skip
    refine lv_aload_n hx hb dX7_way_9 rfl (lv_at hl 0 rfl) ?_
    refine va_get (D := (dC, dI)) (ci := 6) (v := .ref (q 5)) (C := RX7) (T := TX7) (N := 14) hx hb hts hinX7 hown hK hP 0 rfl rfl 4 (by decide) (hts (.fieldLink RX7 35 "FurPosts" "distances" "[[I") (by decide +kernel)) (fun _ h9 => h9) rfl dX7_way_10 ?_
    refine lv_iload_n hx hb dX7_way_13 rfl (lv_at hl 1 rfl) ?_
    obtain ⟨hm3, i3, r3, hi3, he3, k3_0⟩ := at_12 (xo_ h0 q n dl) hT hQ.2.2.2.2.1
    refine va_ald2 hx hb hK hP i3 6 he3 rfl (i := a1) ((hg1 h_2).1) (b := r3 (Int32.toNatClampNeg a1)) (if_pos (vp_lt ((hg1 h_2).1))) dX7_way_14 ?_
    have hr4 := k3_0 (Int32.toNatClampNeg a1) (vp_lt ((hg1 h_2).1))
    generalize r3 (Int32.toNatClampNeg a1) = b4 at hr4 ⊢
    refine lv_iload_n hx hb dX7_way_15 rfl (lv_at hl 2 rfl) ?_
    obtain ⟨hm5, i5, g5, hi5, he5⟩ := at_16 (xo_ h0 q n dl) hT hr4
    refine va_iald hx hb hK hP i5 0 he5 rfl (i := a2) ((hg1 h_2).2) dX7_way_16 ?_
    refine lv_topi (fun v6 _ => ?_)
    refine lv_iconst (v := 1) hx hb dX7_way_17 (by decide) ?_
    refine lv_icmp_eq (tgt := 30) hx hb dX7_way_18 (by decide) (fun h_7 => ?_) (fun h_7 => ?_)
    · skip
      refine lv_iconst (v := (-1)) hx hb dX7_way_30 (by decide) ?_
      refine W.widen (k := 1) (n := 6) (Nat.le_of_ble_eq_true rfl) (Nat.le_of_ble_eq_true rfl) ?_
      exact W.iret (v := (-1)) hx hb hr (fun t9 ht hW => ⟨⟨(-1), (L, t, f, n, dl), rfl, ⟨trivial, hD, hT, hQ, hN, ⟨rfl, rfl⟩⟩, by show va_P (dC, dI) vwCl _ t9.heap; rw [ht]; exact hP⟩, hS.F ht⟩) hS.2.2 dX7_way_31
    · skip
      refine lv_aload_n hx hb dX7_way_21 rfl (lv_at hl 0 rfl) ?_
      refine va_get (D := (dC, dI)) (ci := 6) (v := .int (nI (n 2))) (C := RX7) (T := TX7) (N := 14) hx hb hts hinX7 hown hK hP 0 rfl rfl 10 (by decide) (hts (.fieldLink RX7 63 "FurPosts" "wayCount" "I") (by decide +kernel)) (fun _ h9 => h9) rfl dX7_way_22 ?_
      refine lv_bipush (v := 12) hx hb dX7_way_25 (by decide) ?_
      refine lv_icmp_lt (tgt := 32) hx hb dX7_way_27 (by decide) (fun h_8 => ?_) (fun h_8 => ?_)
      · skip
        refine lv_iload_n hx hb dX7_way_32 rfl (lv_at hl 3 rfl) ?_
        refine lv_if_lt (tgt := 48) hx hb dX7_way_33 (by decide) (fun h_9 => ?_) (fun h_9 => ?_)
        · skip
          refine lv_iconst (v := (-1)) hx hb dX7_way_48 (by decide) ?_
          refine W.widen (k := 1) (n := 6) (Nat.le_of_ble_eq_true rfl) (Nat.le_of_ble_eq_true rfl) ?_
          exact W.iret (v := (-1)) hx hb hr (fun t9 ht hW => ⟨⟨(-1), (L, t, f, n, dl), rfl, ⟨trivial, hD, hT, hQ, hN, ⟨rfl, rfl⟩⟩, by show va_P (dC, dI) vwCl _ t9.heap; rw [ht]; exact hP⟩, hS.F ht⟩) hS.2.2 dX7_way_49
        · skip
          refine lv_iload hx hb dX7_way_36 (lv_at hl 4 rfl) ?_
          refine lv_iconst (v := 1) hx hb dX7_way_38 (by decide) ?_
          refine lv_sipush (v := 500) hx hb dX7_way_39 (by decide) ?_
          refine pu_call (va_runS (As := [.int a4, .int 1, .int 500]) (rest := []) ⟨hx, hb, hml, hown, hts⟩ (c_X7_isWithin l a4 1 500) (va_cwS 3 hts gX7_way_X7_isWithin rfl rfl rfl (by decide +kernel) ⟨Nat.le_of_ble_eq_true rfl, Nat.le_of_ble_eq_true rfl⟩) pu_preS rfl rfl hl.1 rfl (lv_room (Nat.le_of_ble_eq_true rfl)) dX7_way_42 ⟨Nat.le_of_ble_eq_true rfl, Nat.le_of_ble_eq_true rfl⟩) ?_
          refine lv_if_ne (tgt := 50) hx hb dX7_way_45 (by decide) (fun h_10 => ?_) (fun h_10 => ?_)
          · skip
            refine lv_iload_n hx hb dX7_way_50 rfl (lv_at hl 3 rfl) ?_
            refine lv_ldc (v := 1000000) hx hb hown (hts (.constant RX7 70 (1000000)) (by decide +kernel)) dX7_way_51 ?_
            refine lv_idiv hx hb dX7_way_53 (by decide) ?_
            refine lv_topi (fun v11 _ => ?_)
            refine lv_istore (lv' := [(5, .int v11), (0, .ref h0), (1, .int a1), (2, .int a2), (3, .int a3), (4, .int a4)]) hx hb dX7_way_54 hl (by decide) rfl (fun ls hl => ?_)
            refine lv_iload_n hx hb dX7_way_56 rfl (lv_at hl 4 rfl) ?_
            refine lv_sipush (v := 1000) hx hb dX7_way_57 (by decide) ?_
            refine lv_idiv hx hb dX7_way_60 (by decide) ?_
            refine lv_topi (fun v12 _ => ?_)
            refine lv_sipush (v := 1000) hx hb dX7_way_61 (by decide) ?_
            refine lv_irem hx hb dX7_way_64 (by decide) ?_
            refine lv_topi (fun v13 _ => ?_)
            refine lv_istore (lv' := [(6, .int v13), (5, .int v11), (0, .ref h0), (1, .int a1), (2, .int a2), (3, .int a3), (4, .int a4)]) hx hb dX7_way_65 hl (by decide) rfl (fun ls hl => ?_)
            refine lv_iload_n hx hb dX7_way_67 rfl (lv_at hl 5 rfl) ?_
            refine lv_sipush (v := 1000) hx hb dX7_way_68 (by decide) ?_
            refine lv_irem hx hb dX7_way_71 (by decide) ?_
            refine lv_topi (fun v14 _ => ?_)
            refine lv_istore (lv' := [(7, .int v14), (6, .int v13), (5, .int v11), (0, .ref h0), (1, .int a1), (2, .int a2), (3, .int a3), (4, .int a4)]) hx hb dX7_way_72 hl (by decide) rfl (fun ls hl => ?_)
            refine lv_iload hx hb dX7_way_74 (lv_at hl 2 rfl) ?_
            refine lv_iconst (v := 1) hx hb dX7_way_76 (by decide) ?_
            refine lv_bipush (v := 40) hx hb dX7_way_77 (by decide) ?_
            refine pu_call (va_runS (As := [.int v11, .int 1, .int 40]) (rest := []) ⟨hx, hb, hml, hown, hts⟩ (c_X7_isWithin l v11 1 40) (va_cwS 3 hts gX7_way_X7_isWithin rfl rfl rfl (by decide +kernel) ⟨Nat.le_of_ble_eq_true rfl, Nat.le_of_ble_eq_true rfl⟩) pu_preS rfl rfl hl.1 rfl (lv_room (Nat.le_of_ble_eq_true rfl)) dX7_way_79 ⟨Nat.le_of_ble_eq_true rfl, Nat.le_of_ble_eq_true rfl⟩) ?_
            refine lv_if_eq (tgt := 100) hx hb dX7_way_82 (by decide) (fun h_15 => ?_) (fun h_15 => ?_)
            · skip
              refine lv_iconst (v := (-1)) hx hb dX7_way_100 (by decide) ?_
              refine W.widen (k := 1) (n := 6) (Nat.le_of_ble_eq_true rfl) (Nat.le_of_ble_eq_true rfl) ?_
              exact W.iret (v := (-1)) hx hb hr (fun t9 ht hW => ⟨⟨(-1), (L, t, f, n, dl), rfl, ⟨trivial, hD, hT, hQ, hN, ⟨rfl, rfl⟩⟩, by show va_P (dC, dI) vwCl _ t9.heap; rw [ht]; exact hP⟩, hS.F ht⟩) hS.2.2 dX7_way_101
            · skip
              refine lv_iload hx hb dX7_way_85 (lv_at hl 1 rfl) ?_
              refine lv_iload hx hb dX7_way_87 (lv_at hl 0 rfl) ?_
              refine lv_icmp_gt (tgt := 100) hx hb dX7_way_89 (by decide) (fun h_16 => ?_) (fun h_16 => ?_)
              · skip
                refine lv_iconst (v := (-1)) hx hb dX7_way_100 (by decide) ?_
                refine W.widen (k := 1) (n := 6) (Nat.le_of_ble_eq_true rfl) (Nat.le_of_ble_eq_true rfl) ?_
                exact W.iret (v := (-1)) hx hb hr (fun t9 ht hW => ⟨⟨(-1), (L, t, f, n, dl), rfl, ⟨trivial, hD, hT, hQ, hN, ⟨rfl, rfl⟩⟩, by show va_P (dC, dI) vwCl _ t9.heap; rw [ht]; exact hP⟩, hS.F ht⟩) hS.2.2 dX7_way_101
              · skip
                refine lv_iload hx hb dX7_way_92 (lv_at hl 0 rfl) ?_
                refine lv_sipush (v := 365) hx hb dX7_way_94 (by decide) ?_
                refine lv_icmp_lt (tgt := 102) hx hb dX7_way_97 (by decide) (fun h_17 => ?_) (fun h_17 => ?_)
                · skip
                  refine lv_aload_n hx hb dX7_way_102 rfl (lv_at hl 3 rfl) ?_
                  refine va_get (D := (dC, dI)) (ci := 6) (v := .ref (q 2)) (C := RX7) (T := TX7) (N := 14) hx hb hts hinX7 hown hK hP 0 rfl rfl 1 (by decide) (hts (.fieldLink RX7 17 "FurPosts" "ways" "[LFurPosts$Way;") (by decide +kernel)) (fun _ h9 => h9) rfl dX7_way_103 ?_
                  refine lv_aload_n hx hb dX7_way_106 rfl (lv_at hl 3 rfl) ?_
                  refine va_get (D := (dC, dI)) (ci := 6) (v := .int (nI (n 2))) (C := RX7) (T := TX7) (N := 14) hx hb hts hinX7 hown hK hP 0 rfl rfl 10 (by decide) (hts (.fieldLink RX7 63 "FurPosts" "wayCount" "I") (by decide +kernel)) (fun _ h9 => h9) rfl dX7_way_107 ?_
                  refine va_new (ci := 5) (fs := [.int 0, .int 0, .int 0, .int 0, .int 0, .int 0]) (C := RX6) (T := TX6) (N := 6) hx hb hts hinX6 tyX6 tyX6_ok hown (hts (.classLink RX7 15 RX6) (by decide +kernel)) (hts (.instantiable RX6 6) (by decide +kernel)) (hts (.initialized RX6) (by decide +kernel)) hK hP hD hS hA rfl (fun j hj => by
                      match j, hj with
                      | 0, _ => rfl
                      | 1, _ => rfl
                      | 2, _ => rfl
                      | 3, _ => rfl
                      | 4, _ => rfl
                      | 5, _ => rfl
                      | k + 6, h => omega) (Nat.le_of_ble_eq_true rfl) (Nat.le_of_ble_eq_true rfl) dX7_way_110 (fun a_110 H hP2 hD2 hS => ?_)
                  have hf110 := va_pl_fresh2 hD2
                  rw [pl_push hf110] at hP2 hD2
                  obtain ⟨L, f, hP, hD, hT, hma_110, hfa_110, hta_110⟩ : ∃ (L2 : List Nat) (f2 : Nat → va_E), va_P (dC, dI) vwCl (xo_ h0 q n dl ++ va_pl L2 f2) H ∧ va_D A (xo_ h0 q n dl ++ va_pl L2 f2) ∧ ty_ cI cy L2 t f2 ∧ a_110 ∈ L2 ∧ f2 a_110 = .inr (5, [.int 0, .int 0, .int 0, .int 0, .int 0, .int 0]) ∧ t a_110 = 0 := ⟨_, _, hP2, hD2, ty_pend hT hf110, List.mem_append_right _ (List.mem_singleton.mpr rfl), va_up_self _ _ _, ty_0 hT hf110⟩
                  refine W.widen (k := 1) (n := 6) (Nat.le_of_ble_eq_true rfl) (Nat.le_of_ble_eq_true rfl) ?_
                  refine lv_dup hx hb dX7_way_113 rfl ?_
                  refine lv_iload_n hx hb dX7_way_114 rfl (lv_at hl 4 rfl) ?_
                  refine lv_iload_n hx hb dX7_way_115 rfl (lv_at hl 5 rfl) ?_
                  refine lv_iload hx hb dX7_way_116 (lv_at hl 2 rfl) ?_
                  refine lv_iload hx hb dX7_way_118 (lv_at hl 1 rfl) ?_
                  refine lv_iload hx hb dX7_way_120 (lv_at hl 0 rfl) ?_
                  refine lv_iload hx hb dX7_way_122 (lv_at hl 7 rfl) ?_
                  obtain ⟨i18, hi18⟩ := va_pl_get (X := xo_ h0 q n dl) (f := f) hma_110
                  have hs18 := pl_one hP hi18 hfa_110
                  have hAa18 : A a_110 := hD.2 i18 _ hi18
                  refine va_callv (va_runI (As := [.int a1, .int a2, .int v11, .int v13, .int v14, .int a4]) (rest := [.ref a_110, .int (nI (n 2)), .ref (q 2)]) ⟨hx, hb, hml, hown, hts⟩ (c_X6_init l dC dI a_110 a1 a2 v11 v13 v14 a4) (cwI 6 hts gX7_way_X6_init rfl rfl rfl (hts (.initialized RX6) (by decide +kernel)) (hts (.methodLink RX7 71 yX6_init) (by decide +kernel)) (hts (.instanceMethod yX6_init) (by decide +kernel)) rfl (by decide +kernel) ⟨Nat.le_of_ble_eq_true rfl, Nat.le_of_ble_eq_true rfl⟩) ⟨pu_blind, fun U hU hW => ⟨rfl, by rw [hU]; exact hs18, va_K.moved hW.alike (hK.sub [] rfl)⟩⟩ rfl rfl hl.1 rfl (lv_room (Nat.le_of_ble_eq_true rfl)) dX7_way_124 ⟨Nat.le_of_ble_eq_true rfl, Nat.le_of_ble_eq_true rfl⟩) hS (fun x _ h => by rw [h]; exact hAa18) (fun x h => by rw [h]; exact hAa18) (fun u st H1 locs ht hvm hw hB hz hk hS => ?_)
                  obtain ⟨g18, hB⟩ := hB
                  rw [ht] at hB
                  have hP3 := pl_call hP hD hma_110 hi18 hk hB
                  have hT3 := hT
                  generalize H1 = H at hP3 hS ⊢
                  have x3 := ext_ hta_110 2
                  obtain ⟨t, f, hP, hD, hT, hQ, ky19_0, ky19_1⟩ : ∃ (t2 : Nat → Nat) (f2 : Nat → va_E), va_P (dC, dI) vwCl (xo_ h0 q n dl ++ va_pl L f2) H ∧ va_D A (xo_ h0 q n dl ++ va_pl L f2) ∧ ty_ cI cy L t2 f2 ∧ qs_ q t2 ∧ t2 a_110 = 2 ∧ t2 (q 2) = 9 := ⟨va_up t a_110 2, _, hP3, pl_cell hD hma_110 hi18, ty_type hT hma_110 hta_110 ⟨g18, rfl⟩, qs_ext x3 hQ, va_up_self _ _ _, kd_m x3 hQ.2.1⟩
                  refine W.widen (k := 1) (n := 6) (Nat.le_of_ble_eq_true rfl) (Nat.le_of_ble_eq_true rfl) ?_
                  obtain ⟨hm20, i20, g20, hi20, he20, k20_0⟩ := at_9 (xo_ h0 q n dl) hT ky19_1
                  obtain ⟨hm21, i21, g21, hi21, he21⟩ := at_2 (xo_ h0 q n dl) hT ky19_0
                  refine va_astq (r := (RX6, TX6, 6)) hx hb hK hP hD hS i20 3 i21 5 he20 rfl he21 rfl (i := (nI (n 2))) (vb_in (nI_nn _ (by omega)) (fa_n h_8) rfl) dX7_way_127 (fun H locs hP2 hD2 hS => ?_)
                  rw [va_pl_set hD hm20 hi20] at hP2 hD2
                  obtain ⟨f, hP, hD, hT⟩ : ∃ f, va_P (dC, dI) vwCl (xo_ h0 q n dl ++ va_pl L f) H ∧ va_D A (xo_ h0 q n dl ++ va_pl L f) ∧ ty_ cI cy L t f := ⟨_, hP2, hD2, ty_set hT ky19_1 ⟨_, rfl, up_ok k20_0 ky19_0⟩⟩
                  refine lv_aload_n hx hb dX7_way_128 rfl (lv_at hl 3 rfl) ?_
                  refine lv_dup hx hb dX7_way_129 rfl ?_
                  refine va_get (D := (dC, dI)) (ci := 6) (v := .int (nI (n 2))) (C := RX7) (T := TX7) (N := 14) hx hb hts hinX7 hown hK hP 0 rfl rfl 10 (by decide) (hts (.fieldLink RX7 63 "FurPosts" "wayCount" "I") (by decide +kernel)) (fun _ h9 => h9) rfl dX7_way_130 ?_
                  refine lv_iconst (v := 1) hx hb dX7_way_133 (by decide) ?_
                  refine lv_iadd hx hb dX7_way_134 ?_
                  rw [nI_1]
                  refine va_put (D := (dC, dI)) (ci := 6) (v := .int (nI ((n 2) + 1))) (ty := .int) (C := RX7) (T := TX7) (N := 14) hx hb hts hinX7 tyX7 tyX7_ok nmX7 hown hK hP hD hS 0 rfl rfl 10 (by decide) (hts (.fieldLink RX7 63 "FurPosts" "wayCount" "I") (by decide +kernel)) (fun _ h9 => h9) rfl (by decide +kernel) rfl rfl (Nat.le_of_ble_eq_true rfl) dX7_way_135 (fun H locs hP2 hD2 hS => ?_)
                  obtain ⟨n22, hn22, hP, hD⟩ : ∃ n22 : Nat → Nat, n22 = va_up n 2 (((n 2) + 1)) ∧ va_P (dC, dI) vwCl (xo_ h0 q n22 dl ++ va_pl L f) H ∧ va_D A (xo_ h0 q n22 dl ++ va_pl L f) := ⟨_, rfl, hP2, hD2⟩
                  have hN : nb_ n22 := by rw [hn22]; exact ⟨hN.1, hN.2.1, (show ((n 2) + 1) ≤ 12 by have := nI_linv2 (B := 12) h_8 rfl (by omega); omega), hN.2.2.2.1, hN.2.2.2.2⟩
                  refine lv_aload_n hx hb dX7_way_138 rfl (lv_at hl 3 rfl) ?_
                  refine lv_iload_n hx hb dX7_way_139 rfl (lv_at hl 4 rfl) ?_
                  refine lv_iload_n hx hb dX7_way_140 rfl (lv_at hl 5 rfl) ?_
                  refine va_callv (va_runV (As := [.int a1, .int a2]) (rest := []) ⟨hx, hb, hml, hown, hts⟩ (m_X7_shortenDistances l dC dI h0 q n22 dl cI cy L t f hT hQ hN A hD a1 a2 ((hg1 h_2).1) ((hg1 h_2).2)) (cwV 2 hts gX7_way_X7_shortenDistances rfl rfl rfl (by decide +kernel) ⟨Nat.le_of_ble_eq_true rfl, Nat.le_of_ble_eq_true rfl⟩) (pt_pre hP hK hW0 (ci := 6) (q0 := 0) rfl rfl) rfl rfl hl.1 rfl (lv_room (Nat.le_of_ble_eq_true rfl)) dX7_way_141 ⟨Nat.le_of_ble_eq_true rfl, Nat.le_of_ble_eq_true rfl⟩) hS (fun _ _ h => h) (fun _ h => h) (fun u23 st23 H locs ht23 hvm23 hw23 hB23 hz23 hk23 hS => ?_)
                  obtain ⟨f23, n23, d23⟩ := u23
                  obtain ⟨hD23, hT23, hn23⟩ := hw23
                  have hn23 : n23 = n22 := hn23
                  have hB23 : va_P (dC, dI) vwCl (xo_ h0 q n23 d23 ++ va_pl L f23) H := by rw [← ht23]; exact hB23
                  have hD23 : va_D A (xo_ h0 q n23 d23 ++ va_pl L f23) := hD23
                  rw [hn23] at hB23 hD23
                  obtain ⟨f, dl, hP, hD, hT⟩ : ∃ (f : Nat → va_E) (dl : Int32), va_P (dC, dI) vwCl (xo_ h0 q n22 dl ++ va_pl L f) H ∧ va_D A (xo_ h0 q n22 dl ++ va_pl L f) ∧ ty_ cI cy L t f := ⟨f23, d23, hB23, hD23, hT23⟩
                  refine lv_aload_n hx hb dX7_way_144 rfl (lv_at hl 3 rfl) ?_
                  refine va_get (D := (dC, dI)) (ci := 6) (v := .int (nI (n22 2))) (C := RX7) (T := TX7) (N := 14) hx hb hts hinX7 hown hK hP 0 rfl rfl 10 (by decide) (hts (.fieldLink RX7 63 "FurPosts" "wayCount" "I") (by decide +kernel)) (fun _ h9 => h9) rfl dX7_way_145 ?_
                  refine lv_iconst (v := 1) hx hb dX7_way_148 (by decide) ?_
                  refine lv_isub hx hb dX7_way_149 ?_
                  refine lv_topi (fun v24 _ => ?_)
                  refine W.widen (k := 1) (n := 6) (Nat.le_of_ble_eq_true rfl) (Nat.le_of_ble_eq_true rfl) ?_
                  exact W.iret (v := v24) hx hb hr (fun t9 ht hW => ⟨⟨v24, (L, t, f, n22, dl), rfl, ⟨trivial, hD, hT, hQ, hN, ⟨by rw [hn22]; rfl, by rw [hn22]; rfl⟩⟩, by show va_P (dC, dI) vwCl _ t9.heap; rw [ht]; exact hP⟩, hS.F ht⟩) hS.2.2 dX7_way_150
                · skip
                  refine lv_iconst (v := (-1)) hx hb dX7_way_100 (by decide) ?_
                  refine W.widen (k := 1) (n := 6) (Nat.le_of_ble_eq_true rfl) (Nat.le_of_ble_eq_true rfl) ?_
                  exact W.iret (v := (-1)) hx hb hr (fun t9 ht hW => ⟨⟨(-1), (L, t, f, n, dl), rfl, ⟨trivial, hD, hT, hQ, hN, ⟨rfl, rfl⟩⟩, by show va_P (dC, dI) vwCl _ t9.heap; rw [ht]; exact hP⟩, hS.F ht⟩) hS.2.2 dX7_way_101
          · skip
            refine lv_iconst (v := (-1)) hx hb dX7_way_48 (by decide) ?_
            refine W.widen (k := 1) (n := 6) (Nat.le_of_ble_eq_true rfl) (Nat.le_of_ble_eq_true rfl) ?_
            exact W.iret (v := (-1)) hx hb hr (fun t9 ht hW => ⟨⟨(-1), (L, t, f, n, dl), rfl, ⟨trivial, hD, hT, hQ, hN, ⟨rfl, rfl⟩⟩, by show va_P (dC, dI) vwCl _ t9.heap; rw [ht]; exact hP⟩, hS.F ht⟩) hS.2.2 dX7_way_49
      · skip
        refine lv_iconst (v := (-1)) hx hb dX7_way_30 (by decide) ?_
        refine W.widen (k := 1) (n := 6) (Nat.le_of_ble_eq_true rfl) (Nat.le_of_ble_eq_true rfl) ?_
        exact W.iret (v := (-1)) hx hb hr (fun t9 ht hW => ⟨⟨(-1), (L, t, f, n, dl), rfl, ⟨trivial, hD, hT, hQ, hN, ⟨rfl, rfl⟩⟩, by show va_P (dC, dI) vwCl _ t9.heap; rw [ht]; exact hP⟩, hS.F ht⟩) hS.2.2 dX7_way_31

set_option maxHeartbeats 4000000 in
set_option maxRecDepth 100000 in
theorem a_X7_send (l : Launch) (dC : Nat → ClassId) (dI : Nat → Nat → Nat) (h0 : Nat) (q n : Nat → Nat) (dl : Int32) (cI : ClassId) (cy : Nat → ClassId) (L : List Nat) (t : Nat → Nat) (f : Nat → va_E) (hT : ty_ cI cy L t f) (hQ : qs_ q t) (hN : nb_ n) (A : Nat → Prop) (hD : va_D A (xo_ h0 q n dl ++ va_pl L f)) (a1 : Int32) (a2 : Int32) : Met l yX7_send wsX7_send ({ frames := 4, cells := 3, slots := 23, locals := 91 }) (va_Pc [.ref h0, .int a1, .int a2] (fun U => pt_P (dC, dI) vwCl (tt_ cI cy) (xo_ h0 q n dl ++ va_pl L f) U ∧ ∀ a, U.heap.size ≤ a → A a)) (va_Qi (fun r (u : List Nat × (Nat → Nat) × (Nat → va_E) × (Nat → Nat) × Int32) => True ∧ va_D A (xo_ h0 q u.2.2.2.1 u.2.2.2.2 ++ va_pl u.1 u.2.2.1) ∧ ty_ cI cy u.1 u.2.1 u.2.2.1 ∧ qs_ q u.2.1 ∧ nb_ u.2.2.2.1 ∧ (u.2.2.2.1 0 = n 0 ∧ u.2.2.2.1 1 = n 1)) (fun u s' => va_P (dC, dI) vwCl (xo_ h0 q u.2.2.2.1 u.2.2.2.2 ++ va_pl u.1 u.2.2.1) s'.heap) A) 3 23 A := by
  refine Met.ofW (cc := cX7_send) (maxL := 8) (ret := (some .int)) (by decide) rfl ?_
  intro p e s m args below meth c s₁ B hml hv
  obtain ⟨rfl, ⟨hP, hK, hW0⟩, hA⟩ := hv
  have hx := B.exec
  have hb := B.bytes
  have hr := B.returns
  have hts := atoms_spec (ws := wsX7_send) B.pre
  have hown : s.vm.findClass RX7 = some m.cls := findClass_of_methodNamed B.named
  have hlocks := B.notSynchronized
  have hinX0 : ∀ w ∈ u_ws RX0 TX0 11, w ∈ wsX7_send := by decide +kernel
  have hinX4 : ∀ w ∈ u_ws RX4 TX4 4, w ∈ wsX7_send := by decide +kernel
  have hinX6 : ∀ w ∈ u_ws RX6 TX6 6, w ∈ wsX7_send := by decide +kernel
  have hinX7 : ∀ w ∈ u_ws RX7 TX7 14, w ∈ wsX7_send := by decide +kernel
  have hS : va_S A s.heap s.heap [] := va_S.rf
  have hl := lv_entry ([.ref h0, .int a1, .int a2]) (n := 8) (Nat.le_of_ble_eq_true rfl)
  rw [lg_entry_eq]
  generalize (lg_sl ([.ref h0, .int a1, .int a2]) ++ List.replicate (8 - (lg_sl ([.ref h0, .int a1, .int a2])).length) Slot.unset).toArray = ls at hl ⊢
  have hl : lv_has ls 8 [(0, .ref h0), (1, .int a1), (2, .int a2)] := hl
  obtain ⟨H, hH, hP, hS⟩ : ∃ H, H = s.heap ∧ va_P (dC, dI) vwCl (xo_ h0 q n dl ++ va_pl L f) H ∧ va_S A s.heap H [] := ⟨_, rfl, hP, hS⟩
  rw [← hH]
  generalize ([] : List Loc) = locs at hS ⊢
  refine lv_aload_n hx hb dX7_send_0 rfl (lv_at hl 0 rfl) ?_
  refine lv_iload_n hx hb dX7_send_1 rfl (lv_at hl 1 rfl) ?_
  refine pg_call (va_runV (As := [.int a1]) (rest := []) ⟨hx, hb, hml, hown, hts⟩ (k_X7_postAt l dC dI h0 q n dl cI cy L t f hT hQ hN a1) (cwV 1 hts gX7_send_X7_postAt rfl rfl rfl (by decide +kernel) ⟨Nat.le_of_ble_eq_true rfl, Nat.le_of_ble_eq_true rfl⟩) (pt_pre hP hK hW0 (ci := 6) (q0 := 0) rfl rfl) rfl rfl hl.1 rfl (lv_room (Nat.le_of_ble_eq_true rfl)) dX7_send_2 ⟨Nat.le_of_ble_eq_true rfl, Nat.le_of_ble_eq_true rfl⟩) (fun w1 hw1 => ?_)
  obtain ⟨o1, rfl, hg1⟩ := hw1
  cases o1 with
  | none =>
    refine lv_astore_nN (lv' := [(3, .null), (0, .ref h0), (1, .int a1), (2, .int a2)]) hx hb dX7_send_5 rfl hl (by decide) rfl (fun ls hl => ?_)
    refine lv_aload_n hx hb dX7_send_6 rfl (lv_at hl 1 rfl) ?_
    refine lv_iload_n hx hb dX7_send_7 rfl (lv_at hl 3 rfl) ?_
    refine pg_call (va_runV (As := [.int a2]) (rest := []) ⟨hx, hb, hml, hown, hts⟩ (k_X7_wayAt l dC dI h0 q n dl cI cy L t f hT hQ hN a2) (cwV 1 hts gX7_send_X7_wayAt rfl rfl rfl (by decide +kernel) ⟨Nat.le_of_ble_eq_true rfl, Nat.le_of_ble_eq_true rfl⟩) (pt_pre hP hK hW0 (ci := 6) (q0 := 0) rfl rfl) rfl rfl hl.1 rfl (lv_room (Nat.le_of_ble_eq_true rfl)) dX7_send_8 ⟨Nat.le_of_ble_eq_true rfl, Nat.le_of_ble_eq_true rfl⟩) (fun w2 hw2 => ?_)
    obtain ⟨o2, rfl, hg2⟩ := hw2
    cases o2 with
    | none =>
      refine lv_astoreN (lv' := [(4, .null), (3, .null), (0, .ref h0), (1, .int a1), (2, .int a2)]) hx hb dX7_send_11 hl (by decide) rfl (fun ls hl => ?_)
      refine lv_aload_nN hx hb dX7_send_13 rfl (lv_at hl 1 rfl) ?_
      refine lv_ifnullN (tgt := 43) hx hb dX7_send_14 (by decide) ?_
      refine lv_iconst (v := (-1)) hx hb dX7_send_43 (by decide) ?_
      refine W.widen (k := 3) (n := 23) (Nat.le_of_ble_eq_true rfl) (Nat.le_of_ble_eq_true rfl) ?_
      exact W.iret (v := (-1)) hx hb hr (fun t9 ht hW => ⟨⟨(-1), (L, t, f, n, dl), rfl, ⟨trivial, hD, hT, hQ, hN, ⟨rfl, rfl⟩⟩, by show va_P (dC, dI) vwCl _ t9.heap; rw [ht]; exact hP⟩, hS.F ht⟩) hS.2.2 dX7_send_44
    | some b2 =>
      have hk2 := hg2 b2 rfl
      refine lv_astore (lv' := [(4, .ref b2), (3, .null), (0, .ref h0), (1, .int a1), (2, .int a2)]) hx hb dX7_send_11 hl (by decide) rfl (fun ls hl => ?_)
      refine lv_aload_nN hx hb dX7_send_13 rfl (lv_at hl 1 rfl) ?_
      refine lv_ifnullN (tgt := 43) hx hb dX7_send_14 (by decide) ?_
      refine lv_iconst (v := (-1)) hx hb dX7_send_43 (by decide) ?_
      refine W.widen (k := 3) (n := 23) (Nat.le_of_ble_eq_true rfl) (Nat.le_of_ble_eq_true rfl) ?_
      exact W.iret (v := (-1)) hx hb hr (fun t9 ht hW => ⟨⟨(-1), (L, t, f, n, dl), rfl, ⟨trivial, hD, hT, hQ, hN, ⟨rfl, rfl⟩⟩, by show va_P (dC, dI) vwCl _ t9.heap; rw [ht]; exact hP⟩, hS.F ht⟩) hS.2.2 dX7_send_44
  | some b1 =>
    have hk1 := hg1 b1 rfl
    refine lv_astore_n (lv' := [(3, .ref b1), (0, .ref h0), (1, .int a1), (2, .int a2)]) hx hb dX7_send_5 rfl hl (by decide) rfl (fun ls hl => ?_)
    refine lv_aload_n hx hb dX7_send_6 rfl (lv_at hl 1 rfl) ?_
    refine lv_iload_n hx hb dX7_send_7 rfl (lv_at hl 3 rfl) ?_
    refine pg_call (va_runV (As := [.int a2]) (rest := []) ⟨hx, hb, hml, hown, hts⟩ (k_X7_wayAt l dC dI h0 q n dl cI cy L t f hT hQ hN a2) (cwV 1 hts gX7_send_X7_wayAt rfl rfl rfl (by decide +kernel) ⟨Nat.le_of_ble_eq_true rfl, Nat.le_of_ble_eq_true rfl⟩) (pt_pre hP hK hW0 (ci := 6) (q0 := 0) rfl rfl) rfl rfl hl.1 rfl (lv_room (Nat.le_of_ble_eq_true rfl)) dX7_send_8 ⟨Nat.le_of_ble_eq_true rfl, Nat.le_of_ble_eq_true rfl⟩) (fun w3 hw3 => ?_)
    obtain ⟨o3, rfl, hg3⟩ := hw3
    cases o3 with
    | none =>
      refine lv_astoreN (lv' := [(4, .null), (3, .ref b1), (0, .ref h0), (1, .int a1), (2, .int a2)]) hx hb dX7_send_11 hl (by decide) rfl (fun ls hl => ?_)
      refine lv_aload_n hx hb dX7_send_13 rfl (lv_at hl 1 rfl) ?_
      refine lv_ifnull hx hb dX7_send_14 ?_
      refine lv_aloadN hx hb dX7_send_17 (lv_at hl 0 rfl) ?_
      refine lv_ifnullN (tgt := 43) hx hb dX7_send_19 (by decide) ?_
      refine lv_iconst (v := (-1)) hx hb dX7_send_43 (by decide) ?_
      refine W.widen (k := 3) (n := 23) (Nat.le_of_ble_eq_true rfl) (Nat.le_of_ble_eq_true rfl) ?_
      exact W.iret (v := (-1)) hx hb hr (fun t9 ht hW => ⟨⟨(-1), (L, t, f, n, dl), rfl, ⟨trivial, hD, hT, hQ, hN, ⟨rfl, rfl⟩⟩, by show va_P (dC, dI) vwCl _ t9.heap; rw [ht]; exact hP⟩, hS.F ht⟩) hS.2.2 dX7_send_44
    | some b3 =>
      have hk3 := hg3 b3 rfl
      refine lv_astore (lv' := [(4, .ref b3), (3, .ref b1), (0, .ref h0), (1, .int a1), (2, .int a2)]) hx hb dX7_send_11 hl (by decide) rfl (fun ls hl => ?_)
      refine lv_aload_n hx hb dX7_send_13 rfl (lv_at hl 1 rfl) ?_
      refine lv_ifnull hx hb dX7_send_14 ?_
      refine lv_aload hx hb dX7_send_17 (lv_at hl 0 rfl) ?_
      refine lv_ifnull hx hb dX7_send_19 ?_
      refine lv_aload hx hb dX7_send_22 (lv_at hl 0 rfl) ?_
      refine lv_iload_n hx hb dX7_send_24 rfl (lv_at hl 3 rfl) ?_
      obtain ⟨hm5, i5, g5, hi5, he5⟩ := at_2 (xo_ h0 q n dl) hT hk3.1
      refine pg_call (va_runV (As := [.int a1]) (rest := []) ⟨hx, hb, hml, hown, hts⟩ (k_X6_startsAt l dC dI h0 q n dl cI cy L t f hT hQ hN b3 hk3.1 a1) (cwV 1 hts gX7_send_X6_startsAt rfl rfl rfl (by decide +kernel) ⟨Nat.le_of_ble_eq_true rfl, Nat.le_of_ble_eq_true rfl⟩) (pt_pre hP hK hW0 (ci := 5) (q0 := i5) rfl he5) rfl rfl hl.1 rfl (lv_room (Nat.le_of_ble_eq_true rfl)) dX7_send_25 ⟨Nat.le_of_ble_eq_true rfl, Nat.le_of_ble_eq_true rfl⟩) (fun w4 hw4 => ?_)
      obtain ⟨r4, rfl, hg4⟩ := hw4
      refine lv_if_eq (tgt := 43) hx hb dX7_send_28 (by decide) (fun h_6 => ?_) (fun h_6 => ?_)
      · skip
        refine lv_iconst (v := (-1)) hx hb dX7_send_43 (by decide) ?_
        refine W.widen (k := 3) (n := 23) (Nat.le_of_ble_eq_true rfl) (Nat.le_of_ble_eq_true rfl) ?_
        exact W.iret (v := (-1)) hx hb hr (fun t9 ht hW => ⟨⟨(-1), (L, t, f, n, dl), rfl, ⟨trivial, hD, hT, hQ, hN, ⟨rfl, rfl⟩⟩, by show va_P (dC, dI) vwCl _ t9.heap; rw [ht]; exact hP⟩, hS.F ht⟩) hS.2.2 dX7_send_44
      · skip
        refine lv_aload hx hb dX7_send_31 (lv_at hl 0 rfl) ?_
        refine lv_aload_n hx hb dX7_send_33 rfl (lv_at hl 2 rfl) ?_
        refine va_get (D := (dC, dI)) (ci := 6) (v := .int (nI (n 0))) (C := RX7) (T := TX7) (N := 14) hx hb hts hinX7 hown hK hP 0 rfl rfl 8 (by decide) (hts (.fieldLink RX7 103 "FurPosts" "now" "I") (by decide +kernel)) (fun _ h9 => h9) rfl dX7_send_34 ?_
        refine pg_call (va_runV (As := [.int (nI (n 0))]) (rest := []) ⟨hx, hb, hml, hown, hts⟩ (k_X6_isOpenOn l dC dI h0 q n dl cI cy L t f hT hQ hN b3 hk3.1 (nI (n 0))) (cwV 1 hts gX7_send_X6_isOpenOn rfl rfl rfl (by decide +kernel) ⟨Nat.le_of_ble_eq_true rfl, Nat.le_of_ble_eq_true rfl⟩) (pt_pre hP hK hW0 (ci := 5) (q0 := i5) rfl he5) rfl rfl hl.1 rfl (lv_room (Nat.le_of_ble_eq_true rfl)) dX7_send_37 ⟨Nat.le_of_ble_eq_true rfl, Nat.le_of_ble_eq_true rfl⟩) (fun w7 hw7 => ?_)
        obtain ⟨r7, rfl, hg7⟩ := hw7
        refine lv_if_ne (tgt := 45) hx hb dX7_send_40 (by decide) (fun h_8 => ?_) (fun h_8 => ?_)
        · skip
          refine lv_aload_n hx hb dX7_send_45 rfl (lv_at hl 2 rfl) ?_
          refine lv_aload_n hx hb dX7_send_46 rfl (lv_at hl 1 rfl) ?_
          refine lv_aload hx hb dX7_send_47 (lv_at hl 0 rfl) ?_
          refine pg_call (va_runV (As := [.ref b1, .ref b3]) (rest := []) ⟨hx, hb, hml, hown, hts⟩ (k_X7_canLoad l dC dI h0 q n dl cI cy L t f hT hQ hN b1 hk1.1 b3 hk3.1) (cwV 2 hts gX7_send_X7_canLoad rfl rfl rfl (by decide +kernel) ⟨Nat.le_of_ble_eq_true rfl, Nat.le_of_ble_eq_true rfl⟩) (pt_pre hP hK hW0 (ci := 6) (q0 := 0) rfl rfl) rfl rfl hl.1 rfl (lv_room (Nat.le_of_ble_eq_true rfl)) dX7_send_49 ⟨Nat.le_of_ble_eq_true rfl, Nat.le_of_ble_eq_true rfl⟩) (fun w9 hw9 => ?_)
          obtain ⟨r9, rfl, hg9⟩ := hw9
          refine lv_if_eq (tgt := 74) hx hb dX7_send_52 (by decide) (fun h_10 => ?_) (fun h_10 => ?_)
          · skip
            refine lv_iconst (v := (-1)) hx hb dX7_send_74 (by decide) ?_
            refine W.widen (k := 3) (n := 23) (Nat.le_of_ble_eq_true rfl) (Nat.le_of_ble_eq_true rfl) ?_
            exact W.iret (v := (-1)) hx hb hr (fun t9 ht hW => ⟨⟨(-1), (L, t, f, n, dl), rfl, ⟨trivial, hD, hT, hQ, hN, ⟨rfl, rfl⟩⟩, by show va_P (dC, dI) vwCl _ t9.heap; rw [ht]; exact hP⟩, hS.F ht⟩) hS.2.2 dX7_send_75
          · skip
            refine lv_aload_n hx hb dX7_send_55 rfl (lv_at hl 2 rfl) ?_
            refine va_get (D := (dC, dI)) (ci := 6) (v := .int (nI (n 3))) (C := RX7) (T := TX7) (N := 14) hx hb hts hinX7 hown hK hP 0 rfl rfl 11 (by decide) (hts (.fieldLink RX7 113 "FurPosts" "canoeCount" "I") (by decide +kernel)) (fun _ h9 => h9) rfl dX7_send_56 ?_
            refine lv_bipush (v := 120) hx hb dX7_send_59 (by decide) ?_
            refine lv_icmp_ge (tgt := 74) hx hb dX7_send_61 (by decide) (fun h_11 => ?_) (fun h_11 => ?_)
            · skip
              refine lv_iconst (v := (-1)) hx hb dX7_send_74 (by decide) ?_
              refine W.widen (k := 3) (n := 23) (Nat.le_of_ble_eq_true rfl) (Nat.le_of_ble_eq_true rfl) ?_
              exact W.iret (v := (-1)) hx hb hr (fun t9 ht hW => ⟨⟨(-1), (L, t, f, n, dl), rfl, ⟨trivial, hD, hT, hQ, hN, ⟨rfl, rfl⟩⟩, by show va_P (dC, dI) vwCl _ t9.heap; rw [ht]; exact hP⟩, hS.F ht⟩) hS.2.2 dX7_send_75
            · skip
              refine lv_aload_n hx hb dX7_send_64 rfl (lv_at hl 2 rfl) ?_
              refine va_get (D := (dC, dI)) (ci := 6) (v := .int (nI (n 0))) (C := RX7) (T := TX7) (N := 14) hx hb hts hinX7 hown hK hP 0 rfl rfl 8 (by decide) (hts (.fieldLink RX7 103 "FurPosts" "now" "I") (by decide +kernel)) (fun _ h9 => h9) rfl dX7_send_65 ?_
              refine lv_sipush (v := 3000) hx hb dX7_send_68 (by decide) ?_
              refine lv_icmp_lt (tgt := 76) hx hb dX7_send_71 (by decide) (fun h_12 => ?_) (fun h_12 => ?_)
              · skip
                refine lv_aload_n hx hb dX7_send_76 rfl (lv_at hl 2 rfl) ?_
                refine va_get (D := (dC, dI)) (ci := 6) (v := .int (nI (n 3))) (C := RX7) (T := TX7) (N := 14) hx hb hts hinX7 hown hK hP 0 rfl rfl 11 (by decide) (hts (.fieldLink RX7 113 "FurPosts" "canoeCount" "I") (by decide +kernel)) (fun _ h9 => h9) rfl dX7_send_77 ?_
                refine lv_istore (lv' := [(5, .int (nI (n 3))), (4, .ref b3), (3, .ref b1), (0, .ref h0), (1, .int a1), (2, .int a2)]) hx hb dX7_send_80 hl (by decide) rfl (fun ls hl => ?_)
                refine va_new (ci := 0) (fs := [.int 0, .int 0, .int 0, .int 0, .null, .null, .int 0, .int 0, .int 0, .int 0, .int 0]) (C := RX0) (T := TX0) (N := 11) hx hb hts hinX0 tyX0 tyX0_ok hown (hts (.classLink RX7 21 RX0) (by decide +kernel)) (hts (.instantiable RX0 11) (by decide +kernel)) (hts (.initialized RX0) (by decide +kernel)) hK hP hD hS hA rfl (fun j hj => by
                    match j, hj with
                    | 0, _ => rfl
                    | 1, _ => rfl
                    | 2, _ => rfl
                    | 3, _ => rfl
                    | 4, _ => rfl
                    | 5, _ => rfl
                    | 6, _ => rfl
                    | 7, _ => rfl
                    | 8, _ => rfl
                    | 9, _ => rfl
                    | 10, _ => rfl
                    | k + 11, h => omega) (Nat.le_of_ble_eq_true rfl) (Nat.le_of_ble_eq_true rfl) dX7_send_82 (fun a_82 H hP2 hD2 hS => ?_)
                have hf82 := va_pl_fresh2 hD2
                rw [pl_push hf82] at hP2 hD2
                obtain ⟨L, f, hP, hD, hT, hma_82, hfa_82, hta_82⟩ : ∃ (L2 : List Nat) (f2 : Nat → va_E), va_P (dC, dI) vwCl (xo_ h0 q n dl ++ va_pl L2 f2) H ∧ va_D A (xo_ h0 q n dl ++ va_pl L2 f2) ∧ ty_ cI cy L2 t f2 ∧ a_82 ∈ L2 ∧ f2 a_82 = .inr (0, [.int 0, .int 0, .int 0, .int 0, .null, .null, .int 0, .int 0, .int 0, .int 0, .int 0]) ∧ t a_82 = 0 := ⟨_, _, hP2, hD2, ty_pend hT hf82, List.mem_append_right _ (List.mem_singleton.mpr rfl), va_up_self _ _ _, ty_0 hT hf82⟩
                refine W.widen (k := 1) (n := 11) (Nat.le_of_ble_eq_true rfl) (Nat.le_of_ble_eq_true rfl) ?_
                refine lv_dup hx hb dX7_send_85 rfl ?_
                refine lv_iload_n hx hb dX7_send_86 rfl (lv_at hl 4 rfl) ?_
                refine lv_aload hx hb dX7_send_87 (lv_at hl 1 rfl) ?_
                refine lv_iload_n hx hb dX7_send_89 rfl (lv_at hl 4 rfl) ?_
                obtain ⟨hm14, i14, g14, hi14, he14⟩ := at_2 (xo_ h0 q n dl) hT hk3.1
                refine pg_call (va_runV (As := [.int a1]) (rest := [.int a1, .ref a_82, .ref a_82]) ⟨hx, hb, hml, hown, hts⟩ (k_X6_otherEnd l dC dI h0 q n dl cI cy L t f hT hQ hN b3 hk3.1 a1) (cwV 1 hts gX7_send_X6_otherEnd rfl rfl rfl (by decide +kernel) ⟨Nat.le_of_ble_eq_true rfl, Nat.le_of_ble_eq_true rfl⟩) (pt_pre hP hK hW0 (ci := 5) (q0 := i14) rfl he14) rfl rfl hl.1 rfl (lv_room (Nat.le_of_ble_eq_true rfl)) dX7_send_90 ⟨Nat.le_of_ble_eq_true rfl, Nat.le_of_ble_eq_true rfl⟩) (fun w13 hw13 => ?_)
                obtain ⟨r13, rfl, hg13⟩ := hw13
                refine lv_iload_n hx hb dX7_send_93 rfl (lv_at hl 5 rfl) ?_
                refine lv_aload hx hb dX7_send_94 (lv_at hl 1 rfl) ?_
                refine va_get (D := (dC, dI)) (ci := 5) (v := .int (g14 2)) (C := RX6) (T := TX6) (N := 6) hx hb hts hinX6 hown hK hP i14 he14 rfl 2 (by decide) (hts (.fieldLink RX7 120 "FurPosts$Way" "days" "I") (by decide +kernel)) (fun _ h9 => h9) rfl dX7_send_96 ?_
                refine lv_aload_n hx hb dX7_send_99 rfl (lv_at hl 3 rfl) ?_
                refine va_get (D := (dC, dI)) (ci := 6) (v := .int (nI (n 0))) (C := RX7) (T := TX7) (N := 14) hx hb hts hinX7 hown hK hP 0 rfl rfl 8 (by decide) (hts (.fieldLink RX7 103 "FurPosts" "now" "I") (by decide +kernel)) (fun _ h9 => h9) rfl dX7_send_100 ?_
                refine lv_aload_n hx hb dX7_send_103 rfl (lv_at hl 3 rfl) ?_
                refine va_get (D := (dC, dI)) (ci := 6) (v := .ref (q 8)) (C := RX7) (T := TX7) (N := 14) hx hb hts hinX7 hown hK hP 0 rfl rfl 7 (by decide) (hts (.fieldLink RX7 44 "FurPosts" "loaded" "[I") (by decide +kernel)) (fun _ h9 => h9) rfl dX7_send_104 ?_
                obtain ⟨hm15, i15, g15, hi15, he15⟩ := at_15 (xo_ h0 q n dl) hT hQ.2.2.2.2.2.2.2
                refine va_clone hx hb (hml.trans hl.1.symm) hown (hts (.methodLink RX7 123 ⟨"[I", "clone", "()Ljava/lang/Object;"⟩) (by decide +kernel)) (hts (.sameMethod "[I" "java/lang/Object" "clone" "()Ljava/lang/Object;") (by decide +kernel)) (hts (.native ⟨"java/lang/Object", "clone", "()Ljava/lang/Object;"⟩) (by decide +kernel)) (hts (.instanceMethod ⟨"java/lang/Object", "clone", "()Ljava/lang/Object;"⟩) (by decide +kernel)) (hts (.selects "[I" ⟨"[I", "clone", "()Ljava/lang/Object;"⟩ ⟨"java/lang/Object", "clone", "()Ljava/lang/Object;"⟩) (by decide +kernel)) (nw_cl hW0) hK hP hD hS hA i15 0 he15 rfl (va_nm_int (hK.2 0 _ rfl).2) (va_fit (fun _ _ => rfl)) (Nat.le_of_ble_eq_true rfl) (Nat.le_of_ble_eq_true rfl) (Nat.le_of_ble_eq_true rfl) (Nat.le_of_ble_eq_true rfl) dX7_send_107 (fun z_107 H _ hP2 hD2 hS => ?_)
                have hf107 := va_pl_fresh2 hD2
                rw [pl_push hf107] at hP2 hD2
                have hne107 : ¬ a_82 = z_107 := fun z => hf107 (by rw [← z]; exact hma_82)
                obtain ⟨L, f, hP, hD, hT, hmz_107, hfz_107, htz_107, hma_82, hfa_82⟩ : ∃ (L2 : List Nat) (f2 : Nat → va_E), va_P (dC, dI) vwCl (xo_ h0 q n dl ++ va_pl L2 f2) H ∧ va_D A (xo_ h0 q n dl ++ va_pl L2 f2) ∧ ty_ cI cy L2 t f2 ∧ z_107 ∈ L2 ∧ f2 z_107 = .inl (cI, 6, .inl g15) ∧ t z_107 = 0 ∧ a_82 ∈ L2 ∧ f2 a_82 = .inr (0, [.int 0, .int 0, .int 0, .int 0, .null, .null, .int 0, .int 0, .int 0, .int 0, .int 0]) := ⟨_, _, hP2, hD2, ty_pend hT hf107, List.mem_append_right _ (List.mem_singleton.mpr rfl), va_up_self _ _ _, ty_0 hT hf107, List.mem_append_left _ hma_82, (va_up_ne _ _ hne107).trans hfa_82⟩
                refine W.widen (k := 2) (n := 17) (Nat.le_of_ble_eq_true rfl) (Nat.le_of_ble_eq_true rfl) ?_
                obtain ⟨i16, hi16⟩ := va_pl_get (X := xo_ h0 q n dl) (f := f) hmz_107
                refine va_castA hx hb hown (hts (.classLink RX7 124 "[I") (by decide +kernel)) hP i16 (by rw [hi16, hfz_107]) (va_nm_int (hK.2 0 _ rfl).2) dX7_send_110 ?_
                have hS0 := hS
                obtain ⟨i17, hi17⟩ := va_pl_get (X := xo_ h0 q n dl) (f := f) hma_82
                obtain ⟨iz17, hiz17⟩ := va_pl_get (X := xo_ h0 q n dl) (f := f) hmz_107
                have hs17 := pl_one hP hi17 hfa_82
                have hsz17 := pl_one hP hiz17 hfz_107
                have hAa17 : A a_82 := hD.2 i17 _ hi17
                have hAz17 : A z_107 := hD.2 iz17 _ hiz17
                have hAs17 : ∀ x, (x = a_82 ∨ x = z_107 ∨ H.size ≤ x) → A x := fun x h => h.elim (fun h => by rw [h]; exact hAa17) (fun h => h.elim (fun h => by rw [h]; exact hAz17) (fun h => hA x (Nat.le_trans hS.1 h)))
                refine va_callv (va_runI (As := [.int a1, .int r13, .int a2, .int (g14 2), .int (nI (n 0)), .ref z_107]) (rest := [.ref a_82]) ⟨hx, hb, hml, hown, hts⟩ (c_X0_init l dC dI a_82 H.size cI a1 r13 a2 (g14 2) (nI (n 0)) z_107 g15 hne107) (cwI 6 hts gX7_send_X0_init rfl rfl rfl (hts (.initialized RX0) (by decide +kernel)) (hts (.methodLink RX7 128 yX0_init) (by decide +kernel)) (hts (.instanceMethod yX0_init) (by decide +kernel)) rfl (by decide +kernel) ⟨Nat.le_of_ble_eq_true rfl, Nat.le_of_ble_eq_true rfl⟩) ⟨fun a U g mk y => by obtain ⟨y0, y1, yP, yK, yC⟩ := y; exact ⟨y0, y1, yP, va_K.moved (u := U) (U := U.calling g mk a) (Vm.Alike.refl U.vm) yK, va_Nw.same (u := U) rfl rfl yC⟩, fun U hU hW => ⟨rfl, by rw [hU], by rw [hU]; exact hs17.app hsz17, va_K.moved hW.alike (hK.sub [0] rfl), va_Nw.warmC hW (nw_cl hW0)⟩⟩ rfl rfl hl.1 rfl (lv_room (Nat.le_of_ble_eq_true rfl)) dX7_send_113 ⟨Nat.le_of_ble_eq_true rfl, Nat.le_of_ble_eq_true rfl⟩) hS (fun x _ h => hAs17 x h) (fun x h => hAs17 x h) (fun u st H1 locs ht hvm hw hB hz hk hS => ?_)
                obtain ⟨g17, w17, hB, hBD⟩ := hB
                rw [ht] at hB
                have hw1 : ¬ w17 = a_82 := fun y => absurd (hBD.1 2 0 _ _ rfl rfl y) (by decide)
                have hw2 : ¬ w17 = z_107 := fun y => absurd (hBD.1 2 1 _ _ rfl rfl y) (by decide)
                have hwz : H.size ≤ w17 := (hBD.2 2 _ rfl).elim (fun h => absurd h hw1) (fun h => h.elim (fun h => absurd h hw2) (fun h => h))
                have hkk : ∀ x : Nat, x < H.size → ¬ x = a_82 → H1[x]? = H[x]? := fun x h1 h2 => by
                  by_cases h3 : x = z_107
                  · have e1 := hB 1 _ rfl
                    have e2 := hsz17 0 _ rfl
                    rw [h3]
                    exact e1.trans e2.symm
                  · exact hk x h1 (fun h => h.elim h2 (fun h => h.elim h3 (fun h => by omega)))
                have hP3 := pl_call hP hD hma_82 hi17 hkk (hB.sub [0] rfl)
                have hD3 := pl_cell (e := .inr (0, [.int (g17 0), .int (g17 1), .int (g17 2), .int (g17 3), .ref z_107, .ref w17, .int (g17 6), .int (g17 7), .int (g17 8), .int (g17 9), .int (g17 10)])) hD hma_82 hi17
                have hwL : w17 ∉ L := fun y => absurd (va_pl_lt hP y) (by omega)
                have hw0 : ¬ w17 = h0 := fun y => absurd (show h0 < H.size from (hP 0 _ rfl).lt) (by omega)
                have hT1 := ty_typ0 hT hmz_107 htz_107 (k := 15) ⟨g15, hfz_107⟩
                have ha1 : va_up t z_107 15 a_82 = 0 := (va_up_ne _ _ hne107).trans hta_82
                have hT2 := ty_new (e := .inl (cI, 6, .inl g15)) hT1 hwL (k := 15) ⟨_, rfl⟩
                have ha2 : va_up (va_up t z_107 15) w17 15 a_82 = 0 := (va_up_ne _ _ (fun y => hw1 y.symm)).trans ha1
                have x1 := ext_ htz_107 15
                have x2 := ext_ (ty_0 hT1 hwL) 15
                have x3 := ext_ ha2 3
                have x4 : ∀ x, ¬ t x = 0 → va_up (va_up (va_up t z_107 15) w17 15) a_82 3 x = t x := fun x hx9 => by
                  have e1 := x1 x hx9
                  have e2 := x2 x (by rw [e1]; exact hx9)
                  have e3 := x3 x (by rw [e2, e1]; exact hx9)
                  rw [e3, e2, e1]
                have hzk : va_up (va_up (va_up t z_107 15) w17 15) a_82 3 z_107 = 15 := (va_up_ne _ _ (fun y => hne107 y.symm)).trans ((va_up_ne _ _ (fun y => hw2 y.symm)).trans (va_up_self _ _ _))
                have hwk : va_up (va_up (va_up t z_107 15) w17 15) a_82 3 w17 = 15 := (va_up_ne _ _ hw1).trans (va_up_self _ _ _)
                have hP4 := pl_new1 hP3 hD3 (hB.sub (ws' := [(w17, .inl (cI, 6, .inl g15))]) [2] rfl) hwL hw0 (hA w17 (Nat.le_trans hS0.1 hwz))
                rw [up_swap (fun y => hw1 y.symm)] at hP4
                have hT3 := ty_type hT2 (List.mem_append_left _ hma_82) ha2 (e := .inr (0, [.int (g17 0), .int (g17 1), .int (g17 2), .int (g17 3), .ref z_107, .ref w17, .int (g17 6), .int (g17 7), .int (g17 8), .int (g17 9), .int (g17 10)])) (k := 3) ⟨g17, z_107, w17, rfl, hzk, hwk⟩
                generalize H1 = H at hP4 hS ⊢
                obtain ⟨L, hP4, hT3⟩ : ∃ L2, (va_P (dC, dI) vwCl (xo_ h0 q n dl ++ va_pl L2 _) H ∧ va_D A (xo_ h0 q n dl ++ va_pl L2 _)) ∧ ty_ cI cy L2 _ _ := ⟨_, hP4, hT3⟩
                obtain ⟨t, f, hP, hD, hT, hQ, ky18_0, ky18_1, ky18_2⟩ : ∃ (t2 : Nat → Nat) (f2 : Nat → va_E), va_P (dC, dI) vwCl (xo_ h0 q n dl ++ va_pl L f2) H ∧ va_D A (xo_ h0 q n dl ++ va_pl L f2) ∧ ty_ cI cy L t2 f2 ∧ qs_ q t2 ∧ t2 a_82 = 3 ∧ t2 b3 = 2 ∧ t2 b1 = 1 := ⟨va_up (va_up (va_up t z_107 15) w17 15) a_82 3, _, hP4.1, hP4.2, hT3, qs_ext x4 hQ, va_up_self _ _ _, kd_m x4 hk3.1, kd_m x4 hk1.1⟩
                refine W.widen (k := 3) (n := 23) (Nat.le_of_ble_eq_true rfl) (Nat.le_of_ble_eq_true rfl) ?_
                refine lv_astore (lv' := [(6, .ref a_82), (5, .int (nI (n 3))), (4, .ref b3), (3, .ref b1), (0, .ref h0), (1, .int a1), (2, .int a2)]) hx hb dX7_send_116 hl (by decide) rfl (fun ls hl => ?_)
                refine lv_aload_n hx hb dX7_send_118 rfl (lv_at hl 4 rfl) ?_
                refine va_get (D := (dC, dI)) (ci := 6) (v := .ref (q 3)) (C := RX7) (T := TX7) (N := 14) hx hb hts hinX7 hown hK hP 0 rfl rfl 2 (by decide) (hts (.fieldLink RX7 23 "FurPosts" "canoes" "[LFurPosts$Canoe;") (by decide +kernel)) (fun _ h9 => h9) rfl dX7_send_119 ?_
                refine lv_iload hx hb dX7_send_122 (lv_at hl 1 rfl) ?_
                refine lv_aload hx hb dX7_send_124 (lv_at hl 0 rfl) ?_
                obtain ⟨hm19, i19, g19, hi19, he19, k19_0⟩ := at_10 (xo_ h0 q n dl) hT hQ.2.2.1
                obtain ⟨hm20, i20, g20, s20, w20, hi20, he20, k20_0, k20_1⟩ := at_3 (xo_ h0 q n dl) hT ky18_0
                refine va_astq (r := (RX0, TX0, 11)) hx hb hK hP hD hS i19 4 i20 0 he19 rfl he20 rfl (i := (nI (n 3))) (vb_in (nI_nn _ (by omega)) h_11 rfl) dX7_send_126 (fun H locs hP2 hD2 hS => ?_)
                rw [va_pl_set hD hm19 hi19] at hP2 hD2
                obtain ⟨f, hP, hD, hT⟩ : ∃ f, va_P (dC, dI) vwCl (xo_ h0 q n dl ++ va_pl L f) H ∧ va_D A (xo_ h0 q n dl ++ va_pl L f) ∧ ty_ cI cy L t f := ⟨_, hP2, hD2, ty_set hT hQ.2.2.1 ⟨_, rfl, up_ok k19_0 ky18_0⟩⟩
                refine lv_aload_n hx hb dX7_send_127 rfl (lv_at hl 4 rfl) ?_
                refine lv_dup hx hb dX7_send_128 rfl ?_
                refine va_get (D := (dC, dI)) (ci := 6) (v := .int (nI (n 3))) (C := RX7) (T := TX7) (N := 14) hx hb hts hinX7 hown hK hP 0 rfl rfl 11 (by decide) (hts (.fieldLink RX7 113 "FurPosts" "canoeCount" "I") (by decide +kernel)) (fun _ h9 => h9) rfl dX7_send_129 ?_
                refine lv_iconst (v := 1) hx hb dX7_send_132 (by decide) ?_
                refine lv_iadd hx hb dX7_send_133 ?_
                rw [nI_1]
                refine va_put (D := (dC, dI)) (ci := 6) (v := .int (nI ((n 3) + 1))) (ty := .int) (C := RX7) (T := TX7) (N := 14) hx hb hts hinX7 tyX7 tyX7_ok nmX7 hown hK hP hD hS 0 rfl rfl 11 (by decide) (hts (.fieldLink RX7 113 "FurPosts" "canoeCount" "I") (by decide +kernel)) (fun _ h9 => h9) rfl (by decide +kernel) rfl rfl (Nat.le_of_ble_eq_true rfl) dX7_send_134 (fun H locs hP2 hD2 hS => ?_)
                obtain ⟨n21, hn21, hP, hD⟩ : ∃ n21 : Nat → Nat, n21 = va_up n 3 (((n 3) + 1)) ∧ va_P (dC, dI) vwCl (xo_ h0 q n21 dl ++ va_pl L f) H ∧ va_D A (xo_ h0 q n21 dl ++ va_pl L f) := ⟨_, rfl, hP2, hD2⟩
                have hN : nb_ n21 := by rw [hn21]; exact ⟨hN.1, hN.2.1, hN.2.2.1, (show ((n 3) + 1) ≤ 120 by have := nI_linv (B := 120) h_11 rfl (by omega); omega), hN.2.2.2.2⟩
                refine lv_iconst (v := 0) hx hb dX7_send_137 (by decide) ?_
                refine lv_istore (lv' := [(7, .int 0), (6, .ref a_82), (5, .int (nI (n 3))), (4, .ref b3), (3, .ref b1), (0, .ref h0), (1, .int a1), (2, .int a2)]) hx hb dX7_send_138 hl (by decide) rfl (fun ls hl => ?_)
                have key140 : ∀ (k j140 : Nat) (f : Nat → va_E) (dl : Int32) (H : Heap) (locs : List Loc) (ls : Array Slot), j140 + k = 6 → va_P (dC, dI) vwCl (xo_ h0 q n21 dl ++ va_pl L f) H → va_D A (xo_ h0 q n21 dl ++ va_pl L f) → ty_ cI cy L t f → va_S A s.heap H locs → lv_has ls 8 [(7, .int (nI j140)), (6, .ref a_82), (5, .int (nI (n 3))), (4, .ref b3), (3, .ref b1), (0, .ref h0), (1, .int a1), (2, .int a2)] →
                    W p l e (headSpec wsX7_send ({ frames := 4, cells := 3, slots := 23, locals := 91 })).room s m [.ref h0, .int a1, .int a2].toArray below meth c H locs 3 23 (MQ below (va_Qi (fun r (u : List Nat × (Nat → Nat) × (Nat → va_E) × (Nat → Nat) × Int32) => True ∧ va_D A (xo_ h0 q u.2.2.2.1 u.2.2.2.2 ++ va_pl u.1 u.2.2.1) ∧ ty_ cI cy u.1 u.2.1 u.2.2.1 ∧ qs_ q u.2.1 ∧ nb_ u.2.2.2.1 ∧ (u.2.2.2.1 0 = n 0 ∧ u.2.2.2.1 1 = n 1)) (fun u s' => va_P (dC, dI) vwCl (xo_ h0 q u.2.2.2.1 u.2.2.2.2 ++ va_pl u.1 u.2.2.1) s'.heap) A) [.ref h0, .int a1, .int a2].toArray s 3 23 A) (F0 m 140 ls []) := by
                  intro k
                  induction k with
                  | zero =>
                    intro j140 f dl H locs ls hj hP hD hT hS hl
                    have hj : j140 = 6 := by omega
                    subst j140
                    refine lv_iload hx hb dX7_send_140 (lv_at hl 0 rfl) ?_
                    refine lv_bipush (v := 6) hx hb dX7_send_142 (by decide) ?_
                    refine lv_icmp_ge (tgt := 178) hx hb dX7_send_144 (by decide) (fun h_22 => ?_) (fun h_22 => absurd (lp_ge0 (B := 6) rfl) h_22)
                    refine lv_aload hx hb dX7_send_178 (lv_at hl 1 rfl) ?_
                    refine lv_aload_n hx hb dX7_send_180 rfl (lv_at hl 5 rfl) ?_
                    refine lv_iload hx hb dX7_send_181 (lv_at hl 2 rfl) ?_
                    refine lv_aload hx hb dX7_send_183 (lv_at hl 1 rfl) ?_
                    refine va_calli (va_runV (As := [.int (nI (n 3)), .ref a_82]) (rest := [.ref a_82]) ⟨hx, hb, hml, hown, hts⟩ (m_X7_takeLetters l dC dI h0 q n21 dl cI cy L t f hT hQ hN A hD (nI (n 3)) a_82 ky18_0) (cwV 2 hts gX7_send_X7_takeLetters rfl rfl rfl (by decide +kernel) ⟨Nat.le_of_ble_eq_true rfl, Nat.le_of_ble_eq_true rfl⟩) (pt_pre hP hK hW0 (ci := 6) (q0 := 0) rfl rfl) rfl rfl hl.1 rfl (lv_room (Nat.le_of_ble_eq_true rfl)) dX7_send_185 ⟨Nat.le_of_ble_eq_true rfl, Nat.le_of_ble_eq_true rfl⟩) hS (fun _ _ h => h) (fun _ h => h) (fun r23 u23 st23 H locs ht23 hvm23 hw23 hB23 hz23 hk23 hS => ?_)
                    obtain ⟨f23, n23, d23⟩ := u23
                    obtain ⟨ha23, hD23, hT23, hn23⟩ := hw23
                    have hn23 : n23 = n21 := hn23
                    have hB23 : va_P (dC, dI) vwCl (xo_ h0 q n23 d23 ++ va_pl L f23) H := by rw [← ht23]; exact hB23
                    have hD23 : va_D A (xo_ h0 q n23 d23 ++ va_pl L f23) := hD23
                    rw [hn23] at hB23 hD23
                    obtain ⟨f, dl, hP, hD, hT⟩ : ∃ (f : Nat → va_E) (dl : Int32), va_P (dC, dI) vwCl (xo_ h0 q n21 dl ++ va_pl L f) H ∧ va_D A (xo_ h0 q n21 dl ++ va_pl L f) ∧ ty_ cI cy L t f := ⟨f23, d23, hB23, hD23, hT23⟩
                    obtain ⟨hm24, i24, g24, s24, w24, hi24, he24, k24_0, k24_1⟩ := at_3 (xo_ h0 q n21 dl) hT ky18_0
                    refine va_put (D := (dC, dI)) (ci := 0) (v := .int r23) (ty := .int) (C := RX0) (T := TX0) (N := 11) hx hb hts hinX0 tyX0 tyX0_ok nmX0 hown hK hP hD hS i24 he24 rfl 6 (by decide) (hts (.fieldLink RX7 135 "FurPosts$Canoe" "lettersSent" "I") (by decide +kernel)) (fun _ h9 => h9) rfl (by decide +kernel) rfl rfl (Nat.le_of_ble_eq_true rfl) dX7_send_188 (fun H locs hP2 hD2 hS => ?_)
                    rw [va_pl_set hD hm24 hi24] at hP2 hD2
                    obtain ⟨f, hP, hD, hT⟩ : ∃ f, va_P (dC, dI) vwCl (xo_ h0 q n21 dl ++ va_pl L f) H ∧ va_D A (xo_ h0 q n21 dl ++ va_pl L f) ∧ ty_ cI cy L t f := ⟨_, hP2, hD2, ty_set hT ky18_0 ⟨va_up g24 6 r23, s24, w24, rfl, k24_0, k24_1⟩⟩
                    refine lv_iload hx hb dX7_send_191 (lv_at hl 2 rfl) ?_
                    refine W.widen (k := 3) (n := 23) (Nat.le_of_ble_eq_true rfl) (Nat.le_of_ble_eq_true rfl) ?_
                    exact W.iret (v := (nI (n 3))) hx hb hr (fun t9 ht hW => ⟨⟨(nI (n 3)), (L, t, f, n21, dl), rfl, ⟨trivial, hD, hT, hQ, hN, ⟨by rw [hn21]; rfl, by rw [hn21]; rfl⟩⟩, by show va_P (dC, dI) vwCl _ t9.heap; rw [ht]; exact hP⟩, hS.F ht⟩) hS.2.2 dX7_send_193
                  | succ k ih140 =>
                    intro j140 f dl H locs ls hj hP hD hT hS hl
                    have hj140 : j140 < 6 := by omega
                    refine lv_iload hx hb dX7_send_140 (lv_at hl 0 rfl) ?_
                    refine lv_bipush (v := 6) hx hb dX7_send_142 (by decide) ?_
                    refine lv_icmp_ge (tgt := 178) hx hb dX7_send_144 (by decide) (fun h_25 => absurd h_25 (lp_ge (B := 6) (by omega) (by omega) rfl)) (fun h_25 => ?_)
                    refine lv_aload_n hx hb dX7_send_147 rfl (lv_at hl 4 rfl) ?_
                    obtain ⟨hm26, i26, s26, p26, o26, r26, hi26, he26, k26_0, k26_1, k26_2, k26_3⟩ := at_1 (xo_ h0 q n21 dl) hT ky18_2
                    refine va_get (D := (dC, dI)) (ci := 3) (v := .ref s26) (C := RX4) (T := TX4) (N := 4) hx hb hts hinX4 hown hK hP i26 he26 rfl 0 (by decide) (hts (.fieldLink RX7 92 "FurPosts$Post" "stock" "[I") (by decide +kernel)) (fun _ h9 => h9) rfl dX7_send_148 ?_
                    refine lv_iload hx hb dX7_send_151 (lv_at hl 0 rfl) ?_
                    refine lv_dup2_11 hx hb dX7_send_153 rfl rfl ?_
                    obtain ⟨hm27, i27, g27, hi27, he27⟩ := at_15 (xo_ h0 q n21 dl) hT k26_0
                    refine va_iald hx hb hK hP i27 0 he27 rfl (i := (nI j140)) (vp_in_nI (show j140 < 6 by omega) (by decide)) dX7_send_154 ?_
                    refine lv_topi (fun v28 _ => ?_)
                    refine lv_aload_n hx hb dX7_send_155 rfl (lv_at hl 5 rfl) ?_
                    refine va_get (D := (dC, dI)) (ci := 6) (v := .ref (q 8)) (C := RX7) (T := TX7) (N := 14) hx hb hts hinX7 hown hK hP 0 rfl rfl 7 (by decide) (hts (.fieldLink RX7 44 "FurPosts" "loaded" "[I") (by decide +kernel)) (fun _ h9 => h9) rfl dX7_send_156 ?_
                    refine lv_iload hx hb dX7_send_159 (lv_at hl 0 rfl) ?_
                    obtain ⟨hm29, i29, g29, hi29, he29⟩ := at_15 (xo_ h0 q n21 dl) hT hQ.2.2.2.2.2.2.2
                    refine va_iald hx hb hK hP i29 0 he29 rfl (i := (nI j140)) (vp_in_nI (show j140 < 6 by omega) (by decide)) dX7_send_161 ?_
                    refine lv_topi (fun v30 _ => ?_)
                    refine lv_isub hx hb dX7_send_162 ?_
                    refine lv_topi (fun v31 _ => ?_)
                    refine va_iast hx hb hK hP hD hS i27 0 he27 rfl (i := (nI j140)) (vp_in_nI (show j140 < 6 by omega) (by decide)) dX7_send_163 (fun H locs hP2 hD2 hS => ?_)
                    rw [va_pl_set hD hm27 hi27] at hP2 hD2
                    obtain ⟨f, hP, hD, hT⟩ : ∃ f, va_P (dC, dI) vwCl (xo_ h0 q n21 dl ++ va_pl L f) H ∧ va_D A (xo_ h0 q n21 dl ++ va_pl L f) ∧ ty_ cI cy L t f := ⟨_, hP2, hD2, ty_set hT k26_0 ⟨_, rfl⟩⟩
                    refine lv_aload_n hx hb dX7_send_164 rfl (lv_at hl 5 rfl) ?_
                    refine va_get (D := (dC, dI)) (ci := 6) (v := .ref (q 8)) (C := RX7) (T := TX7) (N := 14) hx hb hts hinX7 hown hK hP 0 rfl rfl 7 (by decide) (hts (.fieldLink RX7 44 "FurPosts" "loaded" "[I") (by decide +kernel)) (fun _ h9 => h9) rfl dX7_send_165 ?_
                    refine lv_iload hx hb dX7_send_168 (lv_at hl 0 rfl) ?_
                    refine lv_iconst (v := 0) hx hb dX7_send_170 (by decide) ?_
                    obtain ⟨hm32, i32, g32, hi32, he32⟩ := at_15 (xo_ h0 q n21 dl) hT hQ.2.2.2.2.2.2.2
                    refine va_iast hx hb hK hP hD hS i32 0 he32 rfl (i := (nI j140)) (vp_in_nI (show j140 < 6 by omega) (by decide)) dX7_send_171 (fun H locs hP2 hD2 hS => ?_)
                    rw [va_pl_set hD hm32 hi32] at hP2 hD2
                    obtain ⟨f, hP, hD, hT⟩ : ∃ f, va_P (dC, dI) vwCl (xo_ h0 q n21 dl ++ va_pl L f) H ∧ va_D A (xo_ h0 q n21 dl ++ va_pl L f) ∧ ty_ cI cy L t f := ⟨_, hP2, hD2, ty_set hT hQ.2.2.2.2.2.2.2 ⟨_, rfl⟩⟩
                    refine lv_iinc (v := (nI (j140 + 1))) (lv' := [(7, .int (nI (j140 + 1))), (6, .ref a_82), (5, .int (nI (n 3))), (4, .ref b3), (3, .ref b1), (0, .ref h0), (1, .int a1), (2, .int a2)]) hx hb dX7_send_172 hl (k := 0) rfl (show nI j140 + 1 = nI (j140 + 1) from nI_1 j140) (by decide) rfl (fun ls hl => ?_)
                    refine lv_goto (tgt := 140) hx hb dX7_send_175 (by decide) ?_
                    exact ih140 (j140 + 1) f dl H locs ls (by omega) hP hD hT hS (lv_sub hl [0, 1, 2, 3, 4, 5, 6, 7] rfl)
                exact key140 6 0 f dl H locs ls (by omega) hP hD hT hS (lv_sub hl [0, 1, 2, 3, 4, 5, 6, 7] rfl)
              · skip
                refine lv_iconst (v := (-1)) hx hb dX7_send_74 (by decide) ?_
                refine W.widen (k := 3) (n := 23) (Nat.le_of_ble_eq_true rfl) (Nat.le_of_ble_eq_true rfl) ?_
                exact W.iret (v := (-1)) hx hb hr (fun t9 ht hW => ⟨⟨(-1), (L, t, f, n, dl), rfl, ⟨trivial, hD, hT, hQ, hN, ⟨rfl, rfl⟩⟩, by show va_P (dC, dI) vwCl _ t9.heap; rw [ht]; exact hP⟩, hS.F ht⟩) hS.2.2 dX7_send_75
        · skip
          refine lv_iconst (v := (-1)) hx hb dX7_send_43 (by decide) ?_
          refine W.widen (k := 3) (n := 23) (Nat.le_of_ble_eq_true rfl) (Nat.le_of_ble_eq_true rfl) ?_
          exact W.iret (v := (-1)) hx hb hr (fun t9 ht hW => ⟨⟨(-1), (L, t, f, n, dl), rfl, ⟨trivial, hD, hT, hQ, hN, ⟨rfl, rfl⟩⟩, by show va_P (dC, dI) vwCl _ t9.heap; rw [ht]; exact hP⟩, hS.F ht⟩) hS.2.2 dX7_send_44

set_option maxHeartbeats 4000000 in
set_option maxRecDepth 100000 in
theorem a_X7_post (l : Launch) (dC : Nat → ClassId) (dI : Nat → Nat → Nat) (h0 : Nat) (q n : Nat → Nat) (dl : Int32) (cI : ClassId) (cy : Nat → ClassId) (L : List Nat) (t : Nat → Nat) (f : Nat → va_E) (hT : ty_ cI cy L t f) (hQ : qs_ q t) (hN : nb_ n) (A : Nat → Prop) (hD : va_D A (xo_ h0 q n dl ++ va_pl L f)) : Met l yX7_post wsX7_post ({ frames := 2, cells := 5, slots := 36, locals := 43 }) (va_Pc [.ref h0] (fun U => pt_P (dC, dI) vwCl (tt_ cI cy) (xo_ h0 q n dl ++ va_pl L f) U ∧ ∀ a, U.heap.size ≤ a → A a)) (va_Qi (fun r (u : List Nat × (Nat → Nat) × (Nat → va_E) × (Nat → Nat) × Int32) => r = post_r (n 1) ∧ va_D A (xo_ h0 q u.2.2.2.1 u.2.2.2.2 ++ va_pl u.1 u.2.2.1) ∧ ty_ cI cy u.1 u.2.1 u.2.2.1 ∧ qs_ q u.2.1 ∧ nb_ u.2.2.2.1 ∧ (u.2.2.2.1 0 = n 0 ∧ u.2.2.2.1 1 = post_n (n 1))) (fun u s' => va_P (dC, dI) vwCl (xo_ h0 q u.2.2.2.1 u.2.2.2.2 ++ va_pl u.1 u.2.2.1) s'.heap) A) 5 36 A := by
  refine Met.ofW (cc := cX7_post) (maxL := 1) (ret := (some .int)) (by decide) rfl ?_
  intro p e s m args below meth c s₁ B hml hv
  obtain ⟨rfl, ⟨hP, hK, hW0⟩, hA⟩ := hv
  have hx := B.exec
  have hb := B.bytes
  have hr := B.returns
  have hts := atoms_spec (ws := wsX7_post) B.pre
  have hown : s.vm.findClass RX7 = some m.cls := findClass_of_methodNamed B.named
  have hlocks := B.notSynchronized
  have hinX4 : ∀ w ∈ u_ws RX4 TX4 4, w ∈ wsX7_post := by decide +kernel
  have hinX7 : ∀ w ∈ u_ws RX7 TX7 14, w ∈ wsX7_post := by decide +kernel
  have hS : va_S A s.heap s.heap [] := va_S.rf
  have hl := lv_entry ([.ref h0]) (n := 1) (Nat.le_of_ble_eq_true rfl)
  rw [lg_entry_eq]
  generalize (lg_sl ([.ref h0]) ++ List.replicate (1 - (lg_sl ([.ref h0])).length) Slot.unset).toArray = ls at hl ⊢
  have hl : lv_has ls 1 [(0, .ref h0)] := hl
  obtain ⟨H, hH, hP, hS⟩ : ∃ H, H = s.heap ∧ va_P (dC, dI) vwCl (xo_ h0 q n dl ++ va_pl L f) H ∧ va_S A s.heap H [] := ⟨_, rfl, hP, hS⟩
  rw [← hH]
  generalize ([] : List Loc) = locs at hS ⊢
  refine lv_aload_n hx hb dX7_post_0 rfl (lv_at hl 0 rfl) ?_
  refine va_get (D := (dC, dI)) (ci := 6) (v := .int (nI (n 1))) (C := RX7) (T := TX7) (N := 14) hx hb hts hinX7 hown hK hP 0 rfl rfl 9 (by decide) (hts (.fieldLink RX7 54 "FurPosts" "postCount" "I") (by decide +kernel)) (fun _ h9 => h9) rfl dX7_post_1 ?_
  refine lv_bipush (v := 8) hx hb dX7_post_4 (by decide) ?_
  refine lv_icmp_lt (tgt := 11) hx hb dX7_post_6 (by decide) (fun h_1 => ?_) (fun h_1 => ?_)
  · skip
    refine lv_aload_n hx hb dX7_post_11 rfl (lv_at hl 0 rfl) ?_
    refine va_get (D := (dC, dI)) (ci := 6) (v := .ref (q 1)) (C := RX7) (T := TX7) (N := 14) hx hb hts hinX7 hown hK hP 0 rfl rfl 0 (by decide) (hts (.fieldLink RX7 11 "FurPosts" "posts" "[LFurPosts$Post;") (by decide +kernel)) (fun _ h9 => h9) rfl dX7_post_12 ?_
    refine lv_aload_n hx hb dX7_post_15 rfl (lv_at hl 0 rfl) ?_
    refine va_get (D := (dC, dI)) (ci := 6) (v := .int (nI (n 1))) (C := RX7) (T := TX7) (N := 14) hx hb hts hinX7 hown hK hP 0 rfl rfl 9 (by decide) (hts (.fieldLink RX7 54 "FurPosts" "postCount" "I") (by decide +kernel)) (fun _ h9 => h9) rfl dX7_post_16 ?_
    refine va_new (ci := 3) (fs := [.null, .null, .null, .null]) (C := RX4) (T := TX4) (N := 4) hx hb hts hinX4 tyX4 tyX4_ok hown (hts (.classLink RX7 9 RX4) (by decide +kernel)) (hts (.instantiable RX4 4) (by decide +kernel)) (hts (.initialized RX4) (by decide +kernel)) hK hP hD hS hA rfl (fun j hj => by
        match j, hj with
        | 0, _ => rfl
        | 1, _ => rfl
        | 2, _ => rfl
        | 3, _ => rfl
        | k + 4, h => omega) (Nat.le_of_ble_eq_true rfl) (Nat.le_of_ble_eq_true rfl) dX7_post_19 (fun a_19 H hP2 hD2 hS => ?_)
    have hf19 := va_pl_fresh2 hD2
    rw [pl_push hf19] at hP2 hD2
    obtain ⟨L, f, hP, hD, hT, hma_19, hfa_19, hta_19⟩ : ∃ (L2 : List Nat) (f2 : Nat → va_E), va_P (dC, dI) vwCl (xo_ h0 q n dl ++ va_pl L2 f2) H ∧ va_D A (xo_ h0 q n dl ++ va_pl L2 f2) ∧ ty_ cI cy L2 t f2 ∧ a_19 ∈ L2 ∧ f2 a_19 = .inr (3, [.null, .null, .null, .null]) ∧ t a_19 = 0 := ⟨_, _, hP2, hD2, ty_pend hT hf19, List.mem_append_right _ (List.mem_singleton.mpr rfl), va_up_self _ _ _, ty_0 hT hf19⟩
    refine W.widen (k := 1) (n := 4) (Nat.le_of_ble_eq_true rfl) (Nat.le_of_ble_eq_true rfl) ?_
    refine lv_dup hx hb dX7_post_22 rfl ?_
    have hlt8 := h_1
    have hS0 := hS
    obtain ⟨i2, hi2⟩ := va_pl_get (X := xo_ h0 q n dl) (f := f) hma_19
    have hs2 := pl_one hP hi2 hfa_19
    have hAa2 : A a_19 := hD.2 i2 _ hi2
    have hAs2 : ∀ x, va_A [(a_19, .inr (3, [.null, .null, .null, .null]))] H.size x → A x := fun x h => h.elim (fun h => by obtain ⟨k9, e9, h9⟩ := h; have h1 : k9 < 1 := (List.getElem?_eq_some_iff.mp h9).1; rw [show k9 = 0 by omega] at h9; cases h9; exact hAa2) (fun h => hA x (Nat.le_trans hS.1 h))
    refine va_callv (va_runI (As := []) (rest := [.ref a_19, .int (nI (n 1)), .ref (q 1)]) ⟨hx, hb, hml, hown, hts⟩ (c_X4_init2 l dC dI a_19 H.size cI (cy 7)) (cwI 0 hts gX7_post_X4_init rfl rfl rfl (hts (.initialized RX4) (by decide +kernel)) (hts (.methodLink RX7 58 yX4_init) (by decide +kernel)) (hts (.instanceMethod yX4_init) (by decide +kernel)) rfl (by decide +kernel) ⟨Nat.le_of_ble_eq_true rfl, Nat.le_of_ble_eq_true rfl⟩) ⟨fun a U g mk y => by obtain ⟨y0, y1, yP, yK, yO⟩ := y; exact ⟨y0, y1, yP, va_K.moved (u := U) (U := U.calling g mk a) (Vm.Alike.refl U.vm) yK, va_AO.moved (u := U) (U := U.calling g mk a) (Vm.Alike.refl U.vm) yO⟩, fun U hU hW => ⟨rfl, by rw [hU], by rw [hU]; exact hs2, va_K.moved hW.alike (hK.sub [0, 1] rfl), va_AO.moved hW.alike (nw_ao hW0)⟩⟩ rfl rfl hl.1 rfl (lv_room (Nat.le_of_ble_eq_true rfl)) dX7_post_23 ⟨Nat.le_of_ble_eq_true rfl, Nat.le_of_ble_eq_true rfl⟩) hS (fun x _ h => hAs2 x h) hAs2 (fun u st H1 locs ht hvm hw hB hz hk hS => ?_)
    obtain ⟨s1, p1, o1, r1, g1, hB, hBD⟩ := hB
    rw [ht] at hB
    have hkk : ∀ x : Nat, x < H.size → ¬ x = a_19 → H1[x]? = H[x]? := fun x h1 h2 => hk x h1 (fun h => h.elim (fun h => by obtain ⟨k9, e9, h9⟩ := h; have h3 : k9 < 1 := (List.getElem?_eq_some_iff.mp h9).1; rw [show k9 = 0 by omega] at h9; cases h9; exact h2 rfl) (fun h => by omega))
    have hP3 := pl_call hP hD hma_19 hi2 hkk (hB.sub [0] rfl)
    have hD3 := pl_cell (e := .inr (3, [.ref s1, .ref p1, .ref o1, .ref r1])) hD hma_19 hi2
    have hns1 : ¬ s1 = a_19 := fun y => absurd (hBD.1 1 0 _ _ rfl rfl y) (by decide)
    have hgs1 : H.size ≤ s1 := (hBD.2 1 _ rfl).elim (fun h => by obtain ⟨k9, e9, h9⟩ := h; have h3 : k9 < 1 := (List.getElem?_eq_some_iff.mp h9).1; rw [show k9 = 0 by omega] at h9; cases h9; exact absurd rfl hns1) (fun h => h)
    have hLs1 : s1 ∉ L := fun y => absurd (va_pl_lt hP y) (by omega)
    have h0s1 : ¬ s1 = h0 := fun y => absurd (show h0 < H.size from (hP 0 _ rfl).lt) (by omega)
    have hAs1 : A s1 := hA s1 (Nat.le_trans hS0.1 hgs1)
    have hno1 : ¬ o1 = a_19 := fun y => absurd (hBD.1 2 0 _ _ rfl rfl y) (by decide)
    have hgo1 : H.size ≤ o1 := (hBD.2 2 _ rfl).elim (fun h => by obtain ⟨k9, e9, h9⟩ := h; have h3 : k9 < 1 := (List.getElem?_eq_some_iff.mp h9).1; rw [show k9 = 0 by omega] at h9; cases h9; exact absurd rfl hno1) (fun h => h)
    have hLo1 : o1 ∉ L := fun y => absurd (va_pl_lt hP y) (by omega)
    have h0o1 : ¬ o1 = h0 := fun y => absurd (show h0 < H.size from (hP 0 _ rfl).lt) (by omega)
    have hAo1 : A o1 := hA o1 (Nat.le_trans hS0.1 hgo1)
    have hnr1 : ¬ r1 = a_19 := fun y => absurd (hBD.1 3 0 _ _ rfl rfl y) (by decide)
    have hgr1 : H.size ≤ r1 := (hBD.2 3 _ rfl).elim (fun h => by obtain ⟨k9, e9, h9⟩ := h; have h3 : k9 < 1 := (List.getElem?_eq_some_iff.mp h9).1; rw [show k9 = 0 by omega] at h9; cases h9; exact absurd rfl hnr1) (fun h => h)
    have hLr1 : r1 ∉ L := fun y => absurd (va_pl_lt hP y) (by omega)
    have h0r1 : ¬ r1 = h0 := fun y => absurd (show h0 < H.size from (hP 0 _ rfl).lt) (by omega)
    have hAr1 : A r1 := hA r1 (Nat.le_trans hS0.1 hgr1)
    have hnp1 : ¬ p1 = a_19 := fun y => absurd (hBD.1 4 0 _ _ rfl rfl y) (by decide)
    have hgp1 : H.size ≤ p1 := (hBD.2 4 _ rfl).elim (fun h => by obtain ⟨k9, e9, h9⟩ := h; have h3 : k9 < 1 := (List.getElem?_eq_some_iff.mp h9).1; rw [show k9 = 0 by omega] at h9; cases h9; exact absurd rfl hnp1) (fun h => h)
    have hLp1 : p1 ∉ L := fun y => absurd (va_pl_lt hP y) (by omega)
    have h0p1 : ¬ p1 = h0 := fun y => absurd (show h0 < H.size from (hP 0 _ rfl).lt) (by omega)
    have hAp1 : A p1 := hA p1 (Nat.le_trans hS0.1 hgp1)
    have hm4s1 : s1 ∉ L := hLs1
    have hq0 := pl_new1 hP3 hD3 (hB.sub (ws' := [(s1, .inl (cI, 6, .inl zz_))]) [1] rfl) hm4s1 h0s1 hAs1
    have hTT0 := ty_new (e := .inl (cI, 6, .inl zz_)) hT hm4s1 (k := 15) ⟨_, rfl⟩
    have xx0 := ext_ (ty_0 hT hm4s1) 15
    have hdd_o1_s1 : ¬ o1 = s1 := fun y => absurd (hBD.1 2 1 _ _ rfl rfl y) (by decide)
    have hm4o1 : o1 ∉ (L ++ [s1]) := (fun y => (List.mem_append.mp y).elim hLo1 (fun y => (hdd_o1_s1) (List.mem_singleton.mp y)))
    have hq1 := pl_new1 hq0.1 hq0.2 (hB.sub (ws' := [(o1, .inl (cI, 12, .inl zz_))]) [2] rfl) hm4o1 h0o1 hAo1
    have hTT1 := ty_new (e := .inl (cI, 12, .inl zz_)) hTT0 hm4o1 (k := 17) ⟨_, rfl⟩
    have xx1 := ext_ (ty_0 hTT0 hm4o1) 17
    have hdd_r1_s1 : ¬ r1 = s1 := fun y => absurd (hBD.1 3 1 _ _ rfl rfl y) (by decide)
    have hdd_r1_o1 : ¬ r1 = o1 := fun y => absurd (hBD.1 3 2 _ _ rfl rfl y) (by decide)
    have hm4r1 : r1 ∉ ((L ++ [s1]) ++ [o1]) := (fun y => (List.mem_append.mp y).elim (fun y => (List.mem_append.mp y).elim hLr1 (fun y => (hdd_r1_s1) (List.mem_singleton.mp y))) (fun y => (hdd_r1_o1) (List.mem_singleton.mp y)))
    have hq2 := pl_new1 hq1.1 hq1.2 (hB.sub (ws' := [(r1, .inl (cy 7, 8, .inr (.inr (.inr (.inr nn_)))))]) [3] rfl) hm4r1 h0r1 hAr1
    have hTT2 := ty_new (e := .inl (cy 7, 8, .inr (.inr (.inr (.inr nn_))))) hTT1 hm4r1 (k := 7) ⟨_, rfl, fun j b h => by cases h⟩
    have xx2 := ext_ (ty_0 hTT1 hm4r1) 7
    have hdd_p1_s1 : ¬ p1 = s1 := fun y => absurd (hBD.1 4 1 _ _ rfl rfl y) (by decide)
    have hdd_p1_o1 : ¬ p1 = o1 := fun y => absurd (hBD.1 4 2 _ _ rfl rfl y) (by decide)
    have hdd_p1_r1 : ¬ p1 = r1 := fun y => absurd (hBD.1 4 3 _ _ rfl rfl y) (by decide)
    have hm4p1 : p1 ∉ (((L ++ [s1]) ++ [o1]) ++ [r1]) := (fun y => (List.mem_append.mp y).elim (fun y => (List.mem_append.mp y).elim (fun y => (List.mem_append.mp y).elim hLp1 (fun y => (hdd_p1_s1) (List.mem_singleton.mp y))) (fun y => (hdd_p1_o1) (List.mem_singleton.mp y))) (fun y => (hdd_p1_r1) (List.mem_singleton.mp y)))
    have hq3 := pl_new1 hq2.1 hq2.2 (hB.sub (ws' := [(p1, .inl (cI, 6, .inl g1))]) [4] rfl) hm4p1 h0p1 hAp1
    have hTT3 := ty_new (e := .inl (cI, 6, .inl g1)) hTT2 hm4p1 (k := 15) ⟨_, rfl⟩
    have xx3 := ext_ (ty_0 hTT2 hm4p1) 15
    have hta4 : (va_up (va_up (va_up (va_up (t) s1 15) o1 17) r1 7) p1 15) a_19 = 0 := by
      rw [va_up_ne _ _ (fun y => hnp1 y.symm), va_up_ne _ _ (fun y => hnr1 y.symm), va_up_ne _ _ (fun y => hno1 y.symm), va_up_ne _ _ (fun y => hns1 y.symm)]; exact hta_19
    have hPQ := hq3
    rw [up_swap (fun y => hns1 y.symm), up_swap (fun y => hno1 y.symm), up_swap (fun y => hnr1 y.symm), up_swap (fun y => hnp1 y.symm)] at hPQ
    have x9 := ext_ hta4 1
    have xa : ∀ x, ¬ t x = 0 → va_up (va_up (va_up (va_up (va_up (t) s1 15) o1 17) r1 7) p1 15) a_19 1 x = t x := fun x hx9 => by
      have e0 := xx0 x hx9
      have e1 := xx1 x (by rw [e0]; exact hx9)
      have e2 := xx2 x (by rw [e1, e0]; exact hx9)
      have e3 := xx3 x (by rw [e2, e1, e0]; exact hx9)
      have e4 := x9 x (by rw [e3, e2, e1, e0]; exact hx9)
      rw [e4, e3, e2, e1, e0]
    have ks : (va_up (va_up (va_up (va_up (va_up (t) s1 15) o1 17) r1 7) p1 15) a_19 1) s1 = 15 := ((((va_up_ne _ _ hns1).trans (va_up_ne _ _ (fun y => hdd_p1_s1 y.symm))).trans (va_up_ne _ _ (fun y => hdd_r1_s1 y.symm))).trans (va_up_ne _ _ (fun y => hdd_o1_s1 y.symm))).trans (va_up_self _ _ _)
    have ko : (va_up (va_up (va_up (va_up (va_up (t) s1 15) o1 17) r1 7) p1 15) a_19 1) o1 = 17 := (((va_up_ne _ _ hno1).trans (va_up_ne _ _ (fun y => hdd_p1_o1 y.symm))).trans (va_up_ne _ _ (fun y => hdd_r1_o1 y.symm))).trans (va_up_self _ _ _)
    have kr : (va_up (va_up (va_up (va_up (va_up (t) s1 15) o1 17) r1 7) p1 15) a_19 1) r1 = 7 := ((va_up_ne _ _ hnr1).trans (va_up_ne _ _ (fun y => hdd_p1_r1 y.symm))).trans (va_up_self _ _ _)
    have kp : (va_up (va_up (va_up (va_up (va_up (t) s1 15) o1 17) r1 7) p1 15) a_19 1) p1 = 15 := (va_up_ne _ _ hnp1).trans (va_up_self _ _ _)
    have hT5 := ty_type hTT3 (List.mem_append_left _ (List.mem_append_left _ (List.mem_append_left _ (List.mem_append_left _ hma_19)))) hta4 (e := .inr (3, [.ref s1, .ref p1, .ref o1, .ref r1])) (k := 1) ⟨s1, p1, o1, r1, rfl, ks, kp, ko, kr⟩
    generalize H1 = H at hPQ hS ⊢
    obtain ⟨L, hP4, hT3⟩ : ∃ L2, (va_P (dC, dI) vwCl (xo_ h0 q n dl ++ va_pl L2 _) H ∧ va_D A (xo_ h0 q n dl ++ va_pl L2 _)) ∧ ty_ cI cy L2 _ _ := ⟨_, hPQ, hT5⟩
    obtain ⟨t, f, hP, hD, hT, hQ, ky3_0, ky3_1⟩ : ∃ (t2 : Nat → Nat) (f2 : Nat → va_E), va_P (dC, dI) vwCl (xo_ h0 q n dl ++ va_pl L f2) H ∧ va_D A (xo_ h0 q n dl ++ va_pl L f2) ∧ ty_ cI cy L t2 f2 ∧ qs_ q t2 ∧ t2 a_19 = 1 ∧ t2 (q 1) = 8 := ⟨va_up (va_up (va_up (va_up (va_up (t) s1 15) o1 17) r1 7) p1 15) a_19 1, _, hP4.1, hP4.2, hT3, qs_ext xa hQ, va_up_self _ _ _, kd_m xa hQ.1⟩
    refine W.widen (k := 5) (n := 36) (Nat.le_of_ble_eq_true rfl) (Nat.le_of_ble_eq_true rfl) ?_
    obtain ⟨hm4, i4, g4, hi4, he4, k4_0⟩ := at_8 (xo_ h0 q n dl) hT ky3_1
    obtain ⟨hm5, i5, s5, p5, o5, r5, hi5, he5, k5_0, k5_1, k5_2, k5_3⟩ := at_1 (xo_ h0 q n dl) hT ky3_0
    refine va_astq (r := (RX4, TX4, 4)) hx hb hK hP hD hS i4 2 i5 3 he4 rfl he5 rfl (i := (nI (n 1))) (vb_in (nI_nn _ (by omega)) (fa_n h_1) rfl) dX7_post_26 (fun H locs hP2 hD2 hS => ?_)
    rw [va_pl_set hD hm4 hi4] at hP2 hD2
    obtain ⟨f, hP, hD, hT⟩ : ∃ f, va_P (dC, dI) vwCl (xo_ h0 q n dl ++ va_pl L f) H ∧ va_D A (xo_ h0 q n dl ++ va_pl L f) ∧ ty_ cI cy L t f := ⟨_, hP2, hD2, ty_set hT ky3_1 ⟨_, rfl, up_ok k4_0 ky3_0⟩⟩
    refine lv_aload_n hx hb dX7_post_27 rfl (lv_at hl 0 rfl) ?_
    refine lv_dup hx hb dX7_post_28 rfl ?_
    refine va_get (D := (dC, dI)) (ci := 6) (v := .int (nI (n 1))) (C := RX7) (T := TX7) (N := 14) hx hb hts hinX7 hown hK hP 0 rfl rfl 9 (by decide) (hts (.fieldLink RX7 54 "FurPosts" "postCount" "I") (by decide +kernel)) (fun _ h9 => h9) rfl dX7_post_29 ?_
    refine lv_iconst (v := 1) hx hb dX7_post_32 (by decide) ?_
    refine lv_iadd hx hb dX7_post_33 ?_
    rw [nI_1]
    refine va_put (D := (dC, dI)) (ci := 6) (v := .int (nI ((n 1) + 1))) (ty := .int) (C := RX7) (T := TX7) (N := 14) hx hb hts hinX7 tyX7 tyX7_ok nmX7 hown hK hP hD hS 0 rfl rfl 9 (by decide) (hts (.fieldLink RX7 54 "FurPosts" "postCount" "I") (by decide +kernel)) (fun _ h9 => h9) rfl (by decide +kernel) rfl rfl (Nat.le_of_ble_eq_true rfl) dX7_post_34 (fun H locs hP2 hD2 hS => ?_)
    obtain ⟨n6, hn6, hP, hD⟩ : ∃ n6 : Nat → Nat, n6 = va_up n 1 (((n 1) + 1)) ∧ va_P (dC, dI) vwCl (xo_ h0 q n6 dl ++ va_pl L f) H ∧ va_D A (xo_ h0 q n6 dl ++ va_pl L f) := ⟨_, rfl, hP2, hD2⟩
    have hN : nb_ n6 := by rw [hn6]; exact ⟨hN.1, (show ((n 1) + 1) ≤ 8 by have := nI_linv2 (B := 8) hlt8 rfl (by omega); omega), hN.2.2.1, hN.2.2.2.1, hN.2.2.2.2⟩
    refine lv_aload_n hx hb dX7_post_37 rfl (lv_at hl 0 rfl) ?_
    refine va_get (D := (dC, dI)) (ci := 6) (v := .int (nI (n6 1))) (C := RX7) (T := TX7) (N := 14) hx hb hts hinX7 hown hK hP 0 rfl rfl 9 (by decide) (hts (.fieldLink RX7 54 "FurPosts" "postCount" "I") (by decide +kernel)) (fun _ h9 => h9) rfl dX7_post_38 ?_
    refine lv_iconst (v := 1) hx hb dX7_post_41 (by decide) ?_
    refine lv_isub hx hb dX7_post_42 ?_
    refine W.widen (k := 5) (n := 36) (Nat.le_of_ble_eq_true rfl) (Nat.le_of_ble_eq_true rfl) ?_
    exact W.iret (v := ((nI (n6 1)) - 1)) hx hb hr (fun t9 ht hW => ⟨⟨((nI (n6 1)) - 1), (L, t, f, n6, dl), rfl, ⟨post_ans (nI_linv2 (B := 8) hlt8 rfl (by omega)) hn6, hD, hT, hQ, hN, ⟨by rw [hn6]; rfl, by rw [hn6]; exact (if_pos (nI_linv2 (B := 8) hlt8 rfl (by omega))).symm⟩⟩, by show va_P (dC, dI) vwCl _ t9.heap; rw [ht]; exact hP⟩, hS.F ht⟩) hS.2.2 dX7_post_43
  · skip
    refine lv_iconst (v := (-1)) hx hb dX7_post_9 (by decide) ?_
    refine W.widen (k := 5) (n := 36) (Nat.le_of_ble_eq_true rfl) (Nat.le_of_ble_eq_true rfl) ?_
    exact W.iret (v := (-1)) hx hb hr (fun t9 ht hW => ⟨⟨(-1), (L, t, f, n, dl), rfl, ⟨(if_neg (fun z => absurd (nI_lt z (by decide)) h_1)).symm, hD, hT, hQ, hN, ⟨rfl, (if_neg (fun z => absurd (nI_lt z (by decide)) h_1)).symm⟩⟩, by show va_P (dC, dI) vwCl _ t9.heap; rw [ht]; exact hP⟩, hS.F ht⟩) hS.2.2 dX7_post_10
