/-! a pool out of a list of cells that are apart -/
theorem va_D_tail {A : Nat → Prop} {x : Nat × va_E} {ws : va_W} (hD : va_D A ([x] ++ ws)) : va_D A ws := ⟨fun i j p q hi hj h => by
  have := hD.1 (i + 1) (j + 1) p q hi hj h
  omega, fun k q hk => hD.2 (k + 1) q hk⟩
theorem va_D_same {A : Nat → Prop} {ws ws' : va_W} (hD : va_D A ws) (h : ws.map (fun y => y.1) = ws'.map (fun y => y.1)) : va_D A ws' := by
  have key : ∀ (i : Nat) (p : Nat × va_E), ws'[i]? = some p → ∃ e, ws[i]? = some (p.1, e) := fun i p hi => by
    have h1 : (ws'.map (fun y => y.1))[i]? = some p.1 := by rw [List.getElem?_map, hi]; rfl
    rw [← h, List.getElem?_map] at h1
    cases hw : ws[i]? with
    | none => rw [hw] at h1; cases h1
    | some z =>
      rw [hw] at h1
      have h2 : z.1 = p.1 := Option.some.inj h1
      exact ⟨z.2, by rw [← h2]⟩
  refine ⟨fun i j p q hi hj hpq => ?_, fun k q hk => ?_⟩
  · obtain ⟨e1, h1⟩ := key i p hi
    obtain ⟨e2, h2⟩ := key j q hj
    exact hD.1 i j _ _ h1 h2 hpq
  · obtain ⟨e1, h1⟩ := key k q hk
    have h2 := hD.2 k (q.1, e1) h1
    exact h2
theorem ix_at {A : Nat → Prop} {ws : va_W} (hD : va_D A ws) {i : Nat} {x : Nat × va_E} (h : ws[i]? = some x) : ws.findIdx? (fun y => y.1 == x.1) = some i := by
  rw [List.findIdx?_eq_some_iff_getElem]
  obtain ⟨hi, hx⟩ := List.getElem?_eq_some_iff.mp h
  refine ⟨hi, by rw [hx]; exact beq_self_eq_true _, fun j hj hp => ?_⟩
  have hjl : j < ws.length := Nat.lt_trans hj hi
  have e := hD.1 j i ws[j] x (List.getElem?_eq_getElem hjl) h (eq_of_beq hp)
  omega
def fof_ (ws : va_W) (a : Nat) : va_E := match ws.findIdx? (fun y => y.1 == a) with | some i => ((ws[i]?).map (fun y => y.2)).getD (.inr (0, [])) | none => .inr (0, [])
def tof_ (ws : va_W) (ks : List Nat) (a : Nat) : Nat := match ws.findIdx? (fun y => y.1 == a) with | some i => ks.getD i 0 | none => 0
theorem tof_at {A : Nat → Prop} {ws : va_W} {ks : List Nat} (hD : va_D A ws) (i : Nat) {x : Nat × va_E} {k : Nat} (h : ws[i]? = some x) (hk : ks.getD i 0 = k := by rfl) : tof_ ws ks x.1 = k := by
  unfold tof_
  rw [ix_at hD h]
  exact hk
theorem fof_at {A : Nat → Prop} {ws : va_W} (hD : va_D A ws) {i : Nat} {x : Nat × va_E} (h : ws[i]? = some x) : fof_ ws x.1 = x.2 := by
  unfold fof_
  rw [ix_at hD h]
  show ((ws[i]?).map (fun y => y.2)).getD _ = x.2
  rw [h]
  rfl
theorem pl_of {A : Nat → Prop} {ws : va_W} (hD : va_D A ws) : va_pl (ws.map (fun y => y.1)) (fof_ ws) = ws := by
  apply List.ext_getElem?
  intro i
  unfold va_pl
  rw [List.getElem?_map, List.getElem?_map]
  cases h : ws[i]? with
  | none => rfl
  | some x =>
    show some (x.1, fof_ ws x.1) = some x
    rw [fof_at hD h]
theorem ty_of {A : Nat → Prop} {cI : ClassId} {cy : Nat → ClassId} {ws : va_W} {ks : List Nat} (hD : va_D A ws) (hk : ∀ (i : Nat) (x : Nat × va_E), ws[i]? = some x → kd_ cI cy (tof_ ws ks) x.2 (ks.getD i 0)) : ty_ cI cy (ws.map (fun y => y.1)) (tof_ ws ks) (fof_ ws) := by
  refine ⟨fun a ha => ?_, fun a => ?_⟩
  · unfold tof_ at ha
    cases h : ws.findIdx? (fun y => y.1 == a) with
    | none => rw [h] at ha; exact absurd rfl ha
    | some i =>
      obtain ⟨hi, hp, -⟩ := List.findIdx?_eq_some_iff_getElem.mp h
      exact List.mem_map.mpr ⟨ws[i], List.getElem_mem hi, eq_of_beq hp⟩
  · cases h : ws.findIdx? (fun y => y.1 == a) with
    | none =>
      have e : tof_ ws ks a = 0 := by unfold tof_; rw [h]
      rw [e]
      exact trivial
    | some i =>
      obtain ⟨hi, hp, -⟩ := List.findIdx?_eq_some_iff_getElem.mp h
      have hx : ws[i]? = some ws[i] := List.getElem?_eq_getElem hi
      have ea : ws[i].1 = a := eq_of_beq hp
      have e1 := tof_at (ks := ks) hD i hx
      have e2 := fof_at hD hx
      rw [ea] at e1 e2
      rw [e1, e2]
      exact hk i _ hx
set_option maxHeartbeats 8000000 in
set_option maxRecDepth 100000 in
theorem c_X7_init2 (l : Launch) (dC : Nat → ClassId) (dI : Nat → Nat → Nat) (h0 sz : Nat) (cI cR : ClassId) : Met l yX7_init wsX7_init ({ frames := 1, cells := 28, slots := 692, locals := 23 }) (va_Pc [.ref h0] (fun U => U.heap.size = sz ∧ va_P (dC, dI) vwCl [(h0, .inr (6, fx_B))] U.heap ∧ va_K (dC, dI) vwCl [(cI, .int), (cR, .object RX5)] U ∧ va_AO RX4 U ∧ va_AO RX6 U ∧ va_AO RX0 U ∧ va_AO RX2 U ∧ va_AOA .int U)) (va_Qv (fun _ : Unit => True) (fun _ t9 => ∃ (q : Nat → Nat) (cy : Nat → ClassId) (L : List Nat) (t : Nat → Nat) (f : Nat → va_E), va_P (dC, dI) vwCl (xo_ h0 q (fun _ => 0) 0 ++ va_pl L f) t9.heap ∧ va_K (dC, dI) vwCl (tt_ cI cy) t9 ∧ va_D (va_A [(h0, .inr (6, fx_B))] sz) (xo_ h0 q (fun _ => 0) 0 ++ va_pl L f) ∧ ty_ cI cy L t f ∧ qs_ q t) (va_A [(h0, .inr (6, fx_B))] sz)) 28 692 (va_A [(h0, .inr (6, fx_B))] sz) := by
  refine Met.ofW (cc := cX7_init) (maxL := 2) (ret := none) (by decide) rfl ?_
  intro p e s m args below meth c s₁ B hml hv
  obtain ⟨rfl, hsz, hP, hK, hO_RX4, hO_RX6, hO_RX0, hO_RX2, hOA⟩ := hv
  have hx := B.exec
  have hb := B.bytes
  have hr := B.returns
  have hts := atoms_spec (ws := wsX7_init) B.pre
  have hown : s.vm.findClass RX7 = some m.cls := findClass_of_methodNamed B.named
  have hlocks := B.notSynchronized
  have hin : meth.name = "<init>" := (name_of_methodNamed B.named B.method).1
  have hinX7 : ∀ w ∈ u_ws RX7 TX7 14, w ∈ wsX7_init := by decide +kernel
  subst hsz
  have hD := (va_D1 (A := fun _ => True) (a := h0) (e := .inr (6, fx_B)) trivial).self (sz := s.heap.size)
  generalize hAe : va_A [(h0, .inr (6, fx_B))] s.heap.size = A at hD ⊢
  have hA : ∀ q : Nat, s.heap.size ≤ q → A q := fun q h => by rw [← hAe]; exact Or.inr h
  have hS : va_S A s.heap s.heap [] := va_S.rf
  have hl := lv_entry ([.ref h0]) (n := 2) (Nat.le_of_ble_eq_true rfl)
  rw [lg_entry_eq]
  generalize (lg_sl ([.ref h0]) ++ List.replicate (2 - (lg_sl ([.ref h0])).length) Slot.unset).toArray = ls at hl ⊢
  have hl : lv_has ls 2 [(0, .ref h0)] := hl
  refine lv_aload_n hx hb dX7_init_0 rfl (lv_at hl 0 rfl) ?_
  refine W.objInit hx hb hown (hts (.methodLink RX7 1 objectInit) (by decide +kernel)) (hts (.instanceMethod objectInit) (by decide +kernel)) (hts (.code objectInit ⟨#[0xb1]⟩ 1 none) (by decide +kernel)) rfl (by rw [hml]; exact hl.1) rfl dX7_init_1 (Nat.le_of_ble_eq_true rfl) (Nat.le_of_ble_eq_true rfl) ?_
  refine W.eq (g2 := F0 m 4 ls []) rfl ?_
  refine lv_aload_n hx hb dX7_init_4 rfl (lv_at hl 0 rfl) ?_
  refine lv_bipush (v := 8) hx hb dX7_init_5 (by decide) ?_
  refine va_newq (C := RX4) hx hb hown (hts (.classLink RX7 9 RX4) (by decide +kernel)) hO_RX4 hK hP hD hS hA (by decide) (show Int32.toNatClampNeg 8 = 8 from by decide) (by decide) (Nat.le_of_ble_eq_true rfl) (Nat.le_of_ble_eq_true rfl) dX7_init_7 (fun q7 c7 H hK hP hD hS => ?_)
  have hP : va_P (dC, dI) vwCl [(h0, .inr (6, [.null, .null, .null, .null, .null, .null, .null, .null, .int 0, .int 0, .int 0, .int 0, .int 0, .int 0])), (q7, .inl (c7, 8, .inr (.inr (.inr (.inr nn_)))))] H := hP
  have hD : va_D A [(h0, .inr (6, [.null, .null, .null, .null, .null, .null, .null, .null, .int 0, .int 0, .int 0, .int 0, .int 0, .int 0])), (q7, .inl (c7, 8, .inr (.inr (.inr (.inr nn_)))))] := hD
  have hK : va_K (dC, dI) vwCl [(cI, .int), (cR, .object RX5), (c7, .object RX4)] s := hK
  refine W.widen (k := 1) (n := 8) (Nat.le_of_ble_eq_true rfl) (Nat.le_of_ble_eq_true rfl) ?_
  refine va_putF (D := (dC, dI)) (ci := 6) (v := .ref q7) (ty := .array (.object "FurPosts$Post")) (C := RX7) (T := TX7) (N := 14) hx hb hts hinX7 tyX7 tyX7_ok nmX7 hown hK hP hD hS 0 rfl rfl 0 (by decide) (hts (.fieldLink RX7 11 "FurPosts" "posts" "[LFurPosts$Post;") (by decide +kernel)) (fun _ h9 => h9) rfl hin rfl (by decide +kernel) rfl rfl (Nat.le_of_ble_eq_true rfl) dX7_init_10 (fun H locs hP hD hS => ?_)
  have hP : va_P (dC, dI) vwCl [(h0, .inr (6, [.ref q7, .null, .null, .null, .null, .null, .null, .null, .int 0, .int 0, .int 0, .int 0, .int 0, .int 0])), (q7, .inl (c7, 8, .inr (.inr (.inr (.inr nn_)))))] H := hP
  have hD : va_D A [(h0, .inr (6, [.ref q7, .null, .null, .null, .null, .null, .null, .null, .int 0, .int 0, .int 0, .int 0, .int 0, .int 0])), (q7, .inl (c7, 8, .inr (.inr (.inr (.inr nn_)))))] := hD
  refine lv_aload_n hx hb dX7_init_13 rfl (lv_at hl 0 rfl) ?_
  refine lv_bipush (v := 12) hx hb dX7_init_14 (by decide) ?_
  refine va_newq (C := RX6) hx hb hown (hts (.classLink RX7 15 RX6) (by decide +kernel)) hO_RX6 hK hP hD hS hA (by decide) (show Int32.toNatClampNeg 12 = 12 from by decide) (by decide) (Nat.le_of_ble_eq_true rfl) (Nat.le_of_ble_eq_true rfl) dX7_init_16 (fun q16 c16 H hK hP hD hS => ?_)
  have hP : va_P (dC, dI) vwCl [(h0, .inr (6, [.ref q7, .null, .null, .null, .null, .null, .null, .null, .int 0, .int 0, .int 0, .int 0, .int 0, .int 0])), (q7, .inl (c7, 8, .inr (.inr (.inr (.inr nn_))))), (q16, .inl (c16, 12, .inr (.inr (.inr (.inr nn_)))))] H := hP
  have hD : va_D A [(h0, .inr (6, [.ref q7, .null, .null, .null, .null, .null, .null, .null, .int 0, .int 0, .int 0, .int 0, .int 0, .int 0])), (q7, .inl (c7, 8, .inr (.inr (.inr (.inr nn_))))), (q16, .inl (c16, 12, .inr (.inr (.inr (.inr nn_)))))] := hD
  have hK : va_K (dC, dI) vwCl [(cI, .int), (cR, .object RX5), (c7, .object RX4), (c16, .object RX6)] s := hK
  refine W.widen (k := 2) (n := 20) (Nat.le_of_ble_eq_true rfl) (Nat.le_of_ble_eq_true rfl) ?_
  refine va_putF (D := (dC, dI)) (ci := 6) (v := .ref q16) (ty := .array (.object "FurPosts$Way")) (C := RX7) (T := TX7) (N := 14) hx hb hts hinX7 tyX7 tyX7_ok nmX7 hown hK hP hD hS 0 rfl rfl 1 (by decide) (hts (.fieldLink RX7 17 "FurPosts" "ways" "[LFurPosts$Way;") (by decide +kernel)) (fun _ h9 => h9) rfl hin rfl (by decide +kernel) rfl rfl (Nat.le_of_ble_eq_true rfl) dX7_init_19 (fun H locs hP hD hS => ?_)
  have hP : va_P (dC, dI) vwCl [(h0, .inr (6, [.ref q7, .ref q16, .null, .null, .null, .null, .null, .null, .int 0, .int 0, .int 0, .int 0, .int 0, .int 0])), (q7, .inl (c7, 8, .inr (.inr (.inr (.inr nn_))))), (q16, .inl (c16, 12, .inr (.inr (.inr (.inr nn_)))))] H := hP
  have hD : va_D A [(h0, .inr (6, [.ref q7, .ref q16, .null, .null, .null, .null, .null, .null, .int 0, .int 0, .int 0, .int 0, .int 0, .int 0])), (q7, .inl (c7, 8, .inr (.inr (.inr (.inr nn_))))), (q16, .inl (c16, 12, .inr (.inr (.inr (.inr nn_)))))] := hD
  refine lv_aload_n hx hb dX7_init_22 rfl (lv_at hl 0 rfl) ?_
  refine lv_bipush (v := 120) hx hb dX7_init_23 (by decide) ?_
  refine va_newq (C := RX0) hx hb hown (hts (.classLink RX7 21 RX0) (by decide +kernel)) hO_RX0 hK hP hD hS hA (by decide) (show Int32.toNatClampNeg 120 = 120 from by decide) (by decide) (Nat.le_of_ble_eq_true rfl) (Nat.le_of_ble_eq_true rfl) dX7_init_25 (fun q25 c25 H hK hP hD hS => ?_)
  have hP : va_P (dC, dI) vwCl [(h0, .inr (6, [.ref q7, .ref q16, .null, .null, .null, .null, .null, .null, .int 0, .int 0, .int 0, .int 0, .int 0, .int 0])), (q7, .inl (c7, 8, .inr (.inr (.inr (.inr nn_))))), (q16, .inl (c16, 12, .inr (.inr (.inr (.inr nn_))))), (q25, .inl (c25, 120, .inr (.inr (.inr (.inr nn_)))))] H := hP
  have hD : va_D A [(h0, .inr (6, [.ref q7, .ref q16, .null, .null, .null, .null, .null, .null, .int 0, .int 0, .int 0, .int 0, .int 0, .int 0])), (q7, .inl (c7, 8, .inr (.inr (.inr (.inr nn_))))), (q16, .inl (c16, 12, .inr (.inr (.inr (.inr nn_))))), (q25, .inl (c25, 120, .inr (.inr (.inr (.inr nn_)))))] := hD
  have hK : va_K (dC, dI) vwCl [(cI, .int), (cR, .object RX5), (c7, .object RX4), (c16, .object RX6), (c25, .object RX0)] s := hK
  refine W.widen (k := 3) (n := 140) (Nat.le_of_ble_eq_true rfl) (Nat.le_of_ble_eq_true rfl) ?_
  refine va_putF (D := (dC, dI)) (ci := 6) (v := .ref q25) (ty := .array (.object "FurPosts$Canoe")) (C := RX7) (T := TX7) (N := 14) hx hb hts hinX7 tyX7 tyX7_ok nmX7 hown hK hP hD hS 0 rfl rfl 2 (by decide) (hts (.fieldLink RX7 23 "FurPosts" "canoes" "[LFurPosts$Canoe;") (by decide +kernel)) (fun _ h9 => h9) rfl hin rfl (by decide +kernel) rfl rfl (Nat.le_of_ble_eq_true rfl) dX7_init_28 (fun H locs hP hD hS => ?_)
  have hP : va_P (dC, dI) vwCl [(h0, .inr (6, [.ref q7, .ref q16, .ref q25, .null, .null, .null, .null, .null, .int 0, .int 0, .int 0, .int 0, .int 0, .int 0])), (q7, .inl (c7, 8, .inr (.inr (.inr (.inr nn_))))), (q16, .inl (c16, 12, .inr (.inr (.inr (.inr nn_))))), (q25, .inl (c25, 120, .inr (.inr (.inr (.inr nn_)))))] H := hP
  have hD : va_D A [(h0, .inr (6, [.ref q7, .ref q16, .ref q25, .null, .null, .null, .null, .null, .int 0, .int 0, .int 0, .int 0, .int 0, .int 0])), (q7, .inl (c7, 8, .inr (.inr (.inr (.inr nn_))))), (q16, .inl (c16, 12, .inr (.inr (.inr (.inr nn_))))), (q25, .inl (c25, 120, .inr (.inr (.inr (.inr nn_)))))] := hD
  refine lv_aload_n hx hb dX7_init_31 rfl (lv_at hl 0 rfl) ?_
  refine lv_sipush (v := 300) hx hb dX7_init_32 (by decide) ?_
  refine va_newq (C := RX2) hx hb hown (hts (.classLink RX7 27 RX2) (by decide +kernel)) hO_RX2 hK hP hD hS hA (by decide) (show Int32.toNatClampNeg 300 = 300 from by decide) (by decide) (Nat.le_of_ble_eq_true rfl) (Nat.le_of_ble_eq_true rfl) dX7_init_35 (fun q35 c35 H hK hP hD hS => ?_)
  have hP : va_P (dC, dI) vwCl [(h0, .inr (6, [.ref q7, .ref q16, .ref q25, .null, .null, .null, .null, .null, .int 0, .int 0, .int 0, .int 0, .int 0, .int 0])), (q7, .inl (c7, 8, .inr (.inr (.inr (.inr nn_))))), (q16, .inl (c16, 12, .inr (.inr (.inr (.inr nn_))))), (q25, .inl (c25, 120, .inr (.inr (.inr (.inr nn_))))), (q35, .inl (c35, 300, .inr (.inr (.inr (.inr nn_)))))] H := hP
  have hD : va_D A [(h0, .inr (6, [.ref q7, .ref q16, .ref q25, .null, .null, .null, .null, .null, .int 0, .int 0, .int 0, .int 0, .int 0, .int 0])), (q7, .inl (c7, 8, .inr (.inr (.inr (.inr nn_))))), (q16, .inl (c16, 12, .inr (.inr (.inr (.inr nn_))))), (q25, .inl (c25, 120, .inr (.inr (.inr (.inr nn_))))), (q35, .inl (c35, 300, .inr (.inr (.inr (.inr nn_)))))] := hD
  have hK : va_K (dC, dI) vwCl [(cI, .int), (cR, .object RX5), (c7, .object RX4), (c16, .object RX6), (c25, .object RX0), (c35, .object RX2)] s := hK
  refine W.widen (k := 4) (n := 440) (Nat.le_of_ble_eq_true rfl) (Nat.le_of_ble_eq_true rfl) ?_
  refine va_putF (D := (dC, dI)) (ci := 6) (v := .ref q35) (ty := .array (.object "FurPosts$Letter")) (C := RX7) (T := TX7) (N := 14) hx hb hts hinX7 tyX7 tyX7_ok nmX7 hown hK hP hD hS 0 rfl rfl 3 (by decide) (hts (.fieldLink RX7 29 "FurPosts" "letters" "[LFurPosts$Letter;") (by decide +kernel)) (fun _ h9 => h9) rfl hin rfl (by decide +kernel) rfl rfl (Nat.le_of_ble_eq_true rfl) dX7_init_38 (fun H locs hP hD hS => ?_)
  have hP : va_P (dC, dI) vwCl [(h0, .inr (6, [.ref q7, .ref q16, .ref q25, .ref q35, .null, .null, .null, .null, .int 0, .int 0, .int 0, .int 0, .int 0, .int 0])), (q7, .inl (c7, 8, .inr (.inr (.inr (.inr nn_))))), (q16, .inl (c16, 12, .inr (.inr (.inr (.inr nn_))))), (q25, .inl (c25, 120, .inr (.inr (.inr (.inr nn_))))), (q35, .inl (c35, 300, .inr (.inr (.inr (.inr nn_)))))] H := hP
  have hD : va_D A [(h0, .inr (6, [.ref q7, .ref q16, .ref q25, .ref q35, .null, .null, .null, .null, .int 0, .int 0, .int 0, .int 0, .int 0, .int 0])), (q7, .inl (c7, 8, .inr (.inr (.inr (.inr nn_))))), (q16, .inl (c16, 12, .inr (.inr (.inr (.inr nn_))))), (q25, .inl (c25, 120, .inr (.inr (.inr (.inr nn_))))), (q35, .inl (c35, 300, .inr (.inr (.inr (.inr nn_)))))] := hD
  refine lv_aload_n hx hb dX7_init_41 rfl (lv_at hl 0 rfl) ?_
  refine lv_bipush (v := 8) hx hb dX7_init_42 (by decide) ?_
  refine lv_bipush (v := 8) hx hb dX7_init_44 (by decide) ?_
  refine mm_new hx hb hown (hts (.classLink RX7 33 "[[I") (by decide +kernel)) hOA (hts (.arrayClass .int) (by decide +kernel)) hK hP hD hS hA 0 rfl (by decide) (by decide) (show Int32.toNatClampNeg 8 = 8 from by decide) (show Int32.toNatClampNeg 8 = 8 from by decide) (by decide) (by decide) (by decide) (Nat.le_of_ble_eq_true rfl) (Nat.le_of_ble_eq_true rfl) (fun _ => mm_row _ _) dX7_init_46 (fun q46 r46 c46 H hK hP hD hS => ?_)
  have hP : va_P (dC, dI) vwCl [(h0, .inr (6, [.ref q7, .ref q16, .ref q25, .ref q35, .null, .null, .null, .null, .int 0, .int 0, .int 0, .int 0, .int 0, .int 0])), (q7, .inl (c7, 8, .inr (.inr (.inr (.inr nn_))))), (q16, .inl (c16, 12, .inr (.inr (.inr (.inr nn_))))), (q25, .inl (c25, 120, .inr (.inr (.inr (.inr nn_))))), (q35, .inl (c35, 300, .inr (.inr (.inr (.inr nn_))))), (q46, .inl (c46, 8, .inr (.inr (.inr (.inr (fun i => if i < 8 then some (r46 i) else none)))))), (r46 0, .inl (cI, 8, .inl zz_)), (r46 1, .inl (cI, 8, .inl zz_)), (r46 2, .inl (cI, 8, .inl zz_)), (r46 3, .inl (cI, 8, .inl zz_)), (r46 4, .inl (cI, 8, .inl zz_)), (r46 5, .inl (cI, 8, .inl zz_)), (r46 6, .inl (cI, 8, .inl zz_)), (r46 7, .inl (cI, 8, .inl zz_))] H := hP
  have hD : va_D A [(h0, .inr (6, [.ref q7, .ref q16, .ref q25, .ref q35, .null, .null, .null, .null, .int 0, .int 0, .int 0, .int 0, .int 0, .int 0])), (q7, .inl (c7, 8, .inr (.inr (.inr (.inr nn_))))), (q16, .inl (c16, 12, .inr (.inr (.inr (.inr nn_))))), (q25, .inl (c25, 120, .inr (.inr (.inr (.inr nn_))))), (q35, .inl (c35, 300, .inr (.inr (.inr (.inr nn_))))), (q46, .inl (c46, 8, .inr (.inr (.inr (.inr (fun i => if i < 8 then some (r46 i) else none)))))), (r46 0, .inl (cI, 8, .inl zz_)), (r46 1, .inl (cI, 8, .inl zz_)), (r46 2, .inl (cI, 8, .inl zz_)), (r46 3, .inl (cI, 8, .inl zz_)), (r46 4, .inl (cI, 8, .inl zz_)), (r46 5, .inl (cI, 8, .inl zz_)), (r46 6, .inl (cI, 8, .inl zz_)), (r46 7, .inl (cI, 8, .inl zz_))] := hD
  have hK : va_K (dC, dI) vwCl [(cI, .int), (cR, .object RX5), (c7, .object RX4), (c16, .object RX6), (c25, .object RX0), (c35, .object RX2), (c46, .array .int)] s := hK
  refine W.widen (k := 13) (n := 512) (Nat.le_of_ble_eq_true rfl) (Nat.le_of_ble_eq_true rfl) ?_
  refine va_putF (D := (dC, dI)) (ci := 6) (v := .ref q46) (ty := .array (.array .int)) (C := RX7) (T := TX7) (N := 14) hx hb hts hinX7 tyX7 tyX7_ok nmX7 hown hK hP hD hS 0 rfl rfl 4 (by decide) (hts (.fieldLink RX7 35 "FurPosts" "distances" "[[I") (by decide +kernel)) (fun _ h9 => h9) rfl hin rfl (by decide +kernel) rfl rfl (Nat.le_of_ble_eq_true rfl) dX7_init_50 (fun H locs hP hD hS => ?_)
  have hP : va_P (dC, dI) vwCl [(h0, .inr (6, [.ref q7, .ref q16, .ref q25, .ref q35, .ref q46, .null, .null, .null, .int 0, .int 0, .int 0, .int 0, .int 0, .int 0])), (q7, .inl (c7, 8, .inr (.inr (.inr (.inr nn_))))), (q16, .inl (c16, 12, .inr (.inr (.inr (.inr nn_))))), (q25, .inl (c25, 120, .inr (.inr (.inr (.inr nn_))))), (q35, .inl (c35, 300, .inr (.inr (.inr (.inr nn_))))), (q46, .inl (c46, 8, .inr (.inr (.inr (.inr (fun i => if i < 8 then some (r46 i) else none)))))), (r46 0, .inl (cI, 8, .inl zz_)), (r46 1, .inl (cI, 8, .inl zz_)), (r46 2, .inl (cI, 8, .inl zz_)), (r46 3, .inl (cI, 8, .inl zz_)), (r46 4, .inl (cI, 8, .inl zz_)), (r46 5, .inl (cI, 8, .inl zz_)), (r46 6, .inl (cI, 8, .inl zz_)), (r46 7, .inl (cI, 8, .inl zz_))] H := hP
  have hD : va_D A [(h0, .inr (6, [.ref q7, .ref q16, .ref q25, .ref q35, .ref q46, .null, .null, .null, .int 0, .int 0, .int 0, .int 0, .int 0, .int 0])), (q7, .inl (c7, 8, .inr (.inr (.inr (.inr nn_))))), (q16, .inl (c16, 12, .inr (.inr (.inr (.inr nn_))))), (q25, .inl (c25, 120, .inr (.inr (.inr (.inr nn_))))), (q35, .inl (c35, 300, .inr (.inr (.inr (.inr nn_))))), (q46, .inl (c46, 8, .inr (.inr (.inr (.inr (fun i => if i < 8 then some (r46 i) else none)))))), (r46 0, .inl (cI, 8, .inl zz_)), (r46 1, .inl (cI, 8, .inl zz_)), (r46 2, .inl (cI, 8, .inl zz_)), (r46 3, .inl (cI, 8, .inl zz_)), (r46 4, .inl (cI, 8, .inl zz_)), (r46 5, .inl (cI, 8, .inl zz_)), (r46 6, .inl (cI, 8, .inl zz_)), (r46 7, .inl (cI, 8, .inl zz_))] := hD
  refine lv_aload_n hx hb dX7_init_53 rfl (lv_at hl 0 rfl) ?_
  refine lv_bipush (v := 6) hx hb dX7_init_54 (by decide) ?_
  refine lv_bipush (v := 21) hx hb dX7_init_56 (by decide) ?_
  refine mm_new hx hb hown (hts (.classLink RX7 33 "[[I") (by decide +kernel)) hOA (hts (.arrayClass .int) (by decide +kernel)) hK hP hD hS hA 0 rfl (by decide) (by decide) (show Int32.toNatClampNeg 6 = 6 from by decide) (show Int32.toNatClampNeg 21 = 21 from by decide) (by decide) (by decide) (by decide) (Nat.le_of_ble_eq_true rfl) (Nat.le_of_ble_eq_true rfl) (fun _ => mm_row _ _) dX7_init_58 (fun q58 r58 c58 H hK hP hD hS => ?_)
  have hP : va_P (dC, dI) vwCl [(h0, .inr (6, [.ref q7, .ref q16, .ref q25, .ref q35, .ref q46, .null, .null, .null, .int 0, .int 0, .int 0, .int 0, .int 0, .int 0])), (q7, .inl (c7, 8, .inr (.inr (.inr (.inr nn_))))), (q16, .inl (c16, 12, .inr (.inr (.inr (.inr nn_))))), (q25, .inl (c25, 120, .inr (.inr (.inr (.inr nn_))))), (q35, .inl (c35, 300, .inr (.inr (.inr (.inr nn_))))), (q46, .inl (c46, 8, .inr (.inr (.inr (.inr (fun i => if i < 8 then some (r46 i) else none)))))), (r46 0, .inl (cI, 8, .inl zz_)), (r46 1, .inl (cI, 8, .inl zz_)), (r46 2, .inl (cI, 8, .inl zz_)), (r46 3, .inl (cI, 8, .inl zz_)), (r46 4, .inl (cI, 8, .inl zz_)), (r46 5, .inl (cI, 8, .inl zz_)), (r46 6, .inl (cI, 8, .inl zz_)), (r46 7, .inl (cI, 8, .inl zz_)), (q58, .inl (c58, 6, .inr (.inr (.inr (.inr (fun i => if i < 6 then some (r58 i) else none)))))), (r58 0, .inl (cI, 21, .inl zz_)), (r58 1, .inl (cI, 21, .inl zz_)), (r58 2, .inl (cI, 21, .inl zz_)), (r58 3, .inl (cI, 21, .inl zz_)), (r58 4, .inl (cI, 21, .inl zz_)), (r58 5, .inl (cI, 21, .inl zz_))] H := hP
  have hD : va_D A [(h0, .inr (6, [.ref q7, .ref q16, .ref q25, .ref q35, .ref q46, .null, .null, .null, .int 0, .int 0, .int 0, .int 0, .int 0, .int 0])), (q7, .inl (c7, 8, .inr (.inr (.inr (.inr nn_))))), (q16, .inl (c16, 12, .inr (.inr (.inr (.inr nn_))))), (q25, .inl (c25, 120, .inr (.inr (.inr (.inr nn_))))), (q35, .inl (c35, 300, .inr (.inr (.inr (.inr nn_))))), (q46, .inl (c46, 8, .inr (.inr (.inr (.inr (fun i => if i < 8 then some (r46 i) else none)))))), (r46 0, .inl (cI, 8, .inl zz_)), (r46 1, .inl (cI, 8, .inl zz_)), (r46 2, .inl (cI, 8, .inl zz_)), (r46 3, .inl (cI, 8, .inl zz_)), (r46 4, .inl (cI, 8, .inl zz_)), (r46 5, .inl (cI, 8, .inl zz_)), (r46 6, .inl (cI, 8, .inl zz_)), (r46 7, .inl (cI, 8, .inl zz_)), (q58, .inl (c58, 6, .inr (.inr (.inr (.inr (fun i => if i < 6 then some (r58 i) else none)))))), (r58 0, .inl (cI, 21, .inl zz_)), (r58 1, .inl (cI, 21, .inl zz_)), (r58 2, .inl (cI, 21, .inl zz_)), (r58 3, .inl (cI, 21, .inl zz_)), (r58 4, .inl (cI, 21, .inl zz_)), (r58 5, .inl (cI, 21, .inl zz_))] := hD
  have hK : va_K (dC, dI) vwCl [(cI, .int), (cR, .object RX5), (c7, .object RX4), (c16, .object RX6), (c25, .object RX0), (c35, .object RX2), (c46, .array .int), (c58, .array .int)] s := hK
  refine W.widen (k := 20) (n := 644) (Nat.le_of_ble_eq_true rfl) (Nat.le_of_ble_eq_true rfl) ?_
  refine va_putF (D := (dC, dI)) (ci := 6) (v := .ref q58) (ty := .array (.array .int)) (C := RX7) (T := TX7) (N := 14) hx hb hts hinX7 tyX7 tyX7_ok nmX7 hown hK hP hD hS 0 rfl rfl 5 (by decide) (hts (.fieldLink RX7 38 "FurPosts" "wants" "[[I") (by decide +kernel)) (fun _ h9 => h9) rfl hin rfl (by decide +kernel) rfl rfl (Nat.le_of_ble_eq_true rfl) dX7_init_62 (fun H locs hP hD hS => ?_)
  have hP : va_P (dC, dI) vwCl [(h0, .inr (6, [.ref q7, .ref q16, .ref q25, .ref q35, .ref q46, .ref q58, .null, .null, .int 0, .int 0, .int 0, .int 0, .int 0, .int 0])), (q7, .inl (c7, 8, .inr (.inr (.inr (.inr nn_))))), (q16, .inl (c16, 12, .inr (.inr (.inr (.inr nn_))))), (q25, .inl (c25, 120, .inr (.inr (.inr (.inr nn_))))), (q35, .inl (c35, 300, .inr (.inr (.inr (.inr nn_))))), (q46, .inl (c46, 8, .inr (.inr (.inr (.inr (fun i => if i < 8 then some (r46 i) else none)))))), (r46 0, .inl (cI, 8, .inl zz_)), (r46 1, .inl (cI, 8, .inl zz_)), (r46 2, .inl (cI, 8, .inl zz_)), (r46 3, .inl (cI, 8, .inl zz_)), (r46 4, .inl (cI, 8, .inl zz_)), (r46 5, .inl (cI, 8, .inl zz_)), (r46 6, .inl (cI, 8, .inl zz_)), (r46 7, .inl (cI, 8, .inl zz_)), (q58, .inl (c58, 6, .inr (.inr (.inr (.inr (fun i => if i < 6 then some (r58 i) else none)))))), (r58 0, .inl (cI, 21, .inl zz_)), (r58 1, .inl (cI, 21, .inl zz_)), (r58 2, .inl (cI, 21, .inl zz_)), (r58 3, .inl (cI, 21, .inl zz_)), (r58 4, .inl (cI, 21, .inl zz_)), (r58 5, .inl (cI, 21, .inl zz_))] H := hP
  have hD : va_D A [(h0, .inr (6, [.ref q7, .ref q16, .ref q25, .ref q35, .ref q46, .ref q58, .null, .null, .int 0, .int 0, .int 0, .int 0, .int 0, .int 0])), (q7, .inl (c7, 8, .inr (.inr (.inr (.inr nn_))))), (q16, .inl (c16, 12, .inr (.inr (.inr (.inr nn_))))), (q25, .inl (c25, 120, .inr (.inr (.inr (.inr nn_))))), (q35, .inl (c35, 300, .inr (.inr (.inr (.inr nn_))))), (q46, .inl (c46, 8, .inr (.inr (.inr (.inr (fun i => if i < 8 then some (r46 i) else none)))))), (r46 0, .inl (cI, 8, .inl zz_)), (r46 1, .inl (cI, 8, .inl zz_)), (r46 2, .inl (cI, 8, .inl zz_)), (r46 3, .inl (cI, 8, .inl zz_)), (r46 4, .inl (cI, 8, .inl zz_)), (r46 5, .inl (cI, 8, .inl zz_)), (r46 6, .inl (cI, 8, .inl zz_)), (r46 7, .inl (cI, 8, .inl zz_)), (q58, .inl (c58, 6, .inr (.inr (.inr (.inr (fun i => if i < 6 then some (r58 i) else none)))))), (r58 0, .inl (cI, 21, .inl zz_)), (r58 1, .inl (cI, 21, .inl zz_)), (r58 2, .inl (cI, 21, .inl zz_)), (r58 3, .inl (cI, 21, .inl zz_)), (r58 4, .inl (cI, 21, .inl zz_)), (r58 5, .inl (cI, 21, .inl zz_))] := hD
  refine lv_aload_n hx hb dX7_init_65 rfl (lv_at hl 0 rfl) ?_
  refine lv_bipush (v := 6) hx hb dX7_init_66 (by decide) ?_
  refine lv_bipush (v := 6) hx hb dX7_init_68 (by decide) ?_
  refine mm_new hx hb hown (hts (.classLink RX7 33 "[[I") (by decide +kernel)) hOA (hts (.arrayClass .int) (by decide +kernel)) hK hP hD hS hA 0 rfl (by decide) (by decide) (show Int32.toNatClampNeg 6 = 6 from by decide) (show Int32.toNatClampNeg 6 = 6 from by decide) (by decide) (by decide) (by decide) (Nat.le_of_ble_eq_true rfl) (Nat.le_of_ble_eq_true rfl) (fun _ => mm_row _ _) dX7_init_70 (fun q70 r70 c70 H hK hP hD hS => ?_)
  have hP : va_P (dC, dI) vwCl [(h0, .inr (6, [.ref q7, .ref q16, .ref q25, .ref q35, .ref q46, .ref q58, .null, .null, .int 0, .int 0, .int 0, .int 0, .int 0, .int 0])), (q7, .inl (c7, 8, .inr (.inr (.inr (.inr nn_))))), (q16, .inl (c16, 12, .inr (.inr (.inr (.inr nn_))))), (q25, .inl (c25, 120, .inr (.inr (.inr (.inr nn_))))), (q35, .inl (c35, 300, .inr (.inr (.inr (.inr nn_))))), (q46, .inl (c46, 8, .inr (.inr (.inr (.inr (fun i => if i < 8 then some (r46 i) else none)))))), (r46 0, .inl (cI, 8, .inl zz_)), (r46 1, .inl (cI, 8, .inl zz_)), (r46 2, .inl (cI, 8, .inl zz_)), (r46 3, .inl (cI, 8, .inl zz_)), (r46 4, .inl (cI, 8, .inl zz_)), (r46 5, .inl (cI, 8, .inl zz_)), (r46 6, .inl (cI, 8, .inl zz_)), (r46 7, .inl (cI, 8, .inl zz_)), (q58, .inl (c58, 6, .inr (.inr (.inr (.inr (fun i => if i < 6 then some (r58 i) else none)))))), (r58 0, .inl (cI, 21, .inl zz_)), (r58 1, .inl (cI, 21, .inl zz_)), (r58 2, .inl (cI, 21, .inl zz_)), (r58 3, .inl (cI, 21, .inl zz_)), (r58 4, .inl (cI, 21, .inl zz_)), (r58 5, .inl (cI, 21, .inl zz_)), (q70, .inl (c70, 6, .inr (.inr (.inr (.inr (fun i => if i < 6 then some (r70 i) else none)))))), (r70 0, .inl (cI, 6, .inl zz_)), (r70 1, .inl (cI, 6, .inl zz_)), (r70 2, .inl (cI, 6, .inl zz_)), (r70 3, .inl (cI, 6, .inl zz_)), (r70 4, .inl (cI, 6, .inl zz_)), (r70 5, .inl (cI, 6, .inl zz_))] H := hP
  have hD : va_D A [(h0, .inr (6, [.ref q7, .ref q16, .ref q25, .ref q35, .ref q46, .ref q58, .null, .null, .int 0, .int 0, .int 0, .int 0, .int 0, .int 0])), (q7, .inl (c7, 8, .inr (.inr (.inr (.inr nn_))))), (q16, .inl (c16, 12, .inr (.inr (.inr (.inr nn_))))), (q25, .inl (c25, 120, .inr (.inr (.inr (.inr nn_))))), (q35, .inl (c35, 300, .inr (.inr (.inr (.inr nn_))))), (q46, .inl (c46, 8, .inr (.inr (.inr (.inr (fun i => if i < 8 then some (r46 i) else none)))))), (r46 0, .inl (cI, 8, .inl zz_)), (r46 1, .inl (cI, 8, .inl zz_)), (r46 2, .inl (cI, 8, .inl zz_)), (r46 3, .inl (cI, 8, .inl zz_)), (r46 4, .inl (cI, 8, .inl zz_)), (r46 5, .inl (cI, 8, .inl zz_)), (r46 6, .inl (cI, 8, .inl zz_)), (r46 7, .inl (cI, 8, .inl zz_)), (q58, .inl (c58, 6, .inr (.inr (.inr (.inr (fun i => if i < 6 then some (r58 i) else none)))))), (r58 0, .inl (cI, 21, .inl zz_)), (r58 1, .inl (cI, 21, .inl zz_)), (r58 2, .inl (cI, 21, .inl zz_)), (r58 3, .inl (cI, 21, .inl zz_)), (r58 4, .inl (cI, 21, .inl zz_)), (r58 5, .inl (cI, 21, .inl zz_)), (q70, .inl (c70, 6, .inr (.inr (.inr (.inr (fun i => if i < 6 then some (r70 i) else none)))))), (r70 0, .inl (cI, 6, .inl zz_)), (r70 1, .inl (cI, 6, .inl zz_)), (r70 2, .inl (cI, 6, .inl zz_)), (r70 3, .inl (cI, 6, .inl zz_)), (r70 4, .inl (cI, 6, .inl zz_)), (r70 5, .inl (cI, 6, .inl zz_))] := hD
  have hK : va_K (dC, dI) vwCl [(cI, .int), (cR, .object RX5), (c7, .object RX4), (c16, .object RX6), (c25, .object RX0), (c35, .object RX2), (c46, .array .int), (c58, .array .int), (c70, .array .int)] s := hK
  refine W.widen (k := 27) (n := 686) (Nat.le_of_ble_eq_true rfl) (Nat.le_of_ble_eq_true rfl) ?_
  refine va_putF (D := (dC, dI)) (ci := 6) (v := .ref q70) (ty := .array (.array .int)) (C := RX7) (T := TX7) (N := 14) hx hb hts hinX7 tyX7 tyX7_ok nmX7 hown hK hP hD hS 0 rfl rfl 6 (by decide) (hts (.fieldLink RX7 41 "FurPosts" "tallies" "[[I") (by decide +kernel)) (fun _ h9 => h9) rfl hin rfl (by decide +kernel) rfl rfl (Nat.le_of_ble_eq_true rfl) dX7_init_74 (fun H locs hP hD hS => ?_)
  have hP : va_P (dC, dI) vwCl [(h0, .inr (6, [.ref q7, .ref q16, .ref q25, .ref q35, .ref q46, .ref q58, .ref q70, .null, .int 0, .int 0, .int 0, .int 0, .int 0, .int 0])), (q7, .inl (c7, 8, .inr (.inr (.inr (.inr nn_))))), (q16, .inl (c16, 12, .inr (.inr (.inr (.inr nn_))))), (q25, .inl (c25, 120, .inr (.inr (.inr (.inr nn_))))), (q35, .inl (c35, 300, .inr (.inr (.inr (.inr nn_))))), (q46, .inl (c46, 8, .inr (.inr (.inr (.inr (fun i => if i < 8 then some (r46 i) else none)))))), (r46 0, .inl (cI, 8, .inl zz_)), (r46 1, .inl (cI, 8, .inl zz_)), (r46 2, .inl (cI, 8, .inl zz_)), (r46 3, .inl (cI, 8, .inl zz_)), (r46 4, .inl (cI, 8, .inl zz_)), (r46 5, .inl (cI, 8, .inl zz_)), (r46 6, .inl (cI, 8, .inl zz_)), (r46 7, .inl (cI, 8, .inl zz_)), (q58, .inl (c58, 6, .inr (.inr (.inr (.inr (fun i => if i < 6 then some (r58 i) else none)))))), (r58 0, .inl (cI, 21, .inl zz_)), (r58 1, .inl (cI, 21, .inl zz_)), (r58 2, .inl (cI, 21, .inl zz_)), (r58 3, .inl (cI, 21, .inl zz_)), (r58 4, .inl (cI, 21, .inl zz_)), (r58 5, .inl (cI, 21, .inl zz_)), (q70, .inl (c70, 6, .inr (.inr (.inr (.inr (fun i => if i < 6 then some (r70 i) else none)))))), (r70 0, .inl (cI, 6, .inl zz_)), (r70 1, .inl (cI, 6, .inl zz_)), (r70 2, .inl (cI, 6, .inl zz_)), (r70 3, .inl (cI, 6, .inl zz_)), (r70 4, .inl (cI, 6, .inl zz_)), (r70 5, .inl (cI, 6, .inl zz_))] H := hP
  have hD : va_D A [(h0, .inr (6, [.ref q7, .ref q16, .ref q25, .ref q35, .ref q46, .ref q58, .ref q70, .null, .int 0, .int 0, .int 0, .int 0, .int 0, .int 0])), (q7, .inl (c7, 8, .inr (.inr (.inr (.inr nn_))))), (q16, .inl (c16, 12, .inr (.inr (.inr (.inr nn_))))), (q25, .inl (c25, 120, .inr (.inr (.inr (.inr nn_))))), (q35, .inl (c35, 300, .inr (.inr (.inr (.inr nn_))))), (q46, .inl (c46, 8, .inr (.inr (.inr (.inr (fun i => if i < 8 then some (r46 i) else none)))))), (r46 0, .inl (cI, 8, .inl zz_)), (r46 1, .inl (cI, 8, .inl zz_)), (r46 2, .inl (cI, 8, .inl zz_)), (r46 3, .inl (cI, 8, .inl zz_)), (r46 4, .inl (cI, 8, .inl zz_)), (r46 5, .inl (cI, 8, .inl zz_)), (r46 6, .inl (cI, 8, .inl zz_)), (r46 7, .inl (cI, 8, .inl zz_)), (q58, .inl (c58, 6, .inr (.inr (.inr (.inr (fun i => if i < 6 then some (r58 i) else none)))))), (r58 0, .inl (cI, 21, .inl zz_)), (r58 1, .inl (cI, 21, .inl zz_)), (r58 2, .inl (cI, 21, .inl zz_)), (r58 3, .inl (cI, 21, .inl zz_)), (r58 4, .inl (cI, 21, .inl zz_)), (r58 5, .inl (cI, 21, .inl zz_)), (q70, .inl (c70, 6, .inr (.inr (.inr (.inr (fun i => if i < 6 then some (r70 i) else none)))))), (r70 0, .inl (cI, 6, .inl zz_)), (r70 1, .inl (cI, 6, .inl zz_)), (r70 2, .inl (cI, 6, .inl zz_)), (r70 3, .inl (cI, 6, .inl zz_)), (r70 4, .inl (cI, 6, .inl zz_)), (r70 5, .inl (cI, 6, .inl zz_))] := hD
  refine lv_aload_n hx hb dX7_init_77 rfl (lv_at hl 0 rfl) ?_
  refine lv_bipush (v := 6) hx hb dX7_init_78 (by decide) ?_
  refine ia_new hx hb (hts (.arrayClass .int) (by decide +kernel)) hK hP hD hS hA 0 rfl (by decide) (show Int32.toNatClampNeg 6 = 6 from by decide) (by decide) (Nat.le_of_ble_eq_true rfl) (Nat.le_of_ble_eq_true rfl) dX7_init_80 (fun q80 H hP hD hS => ?_)
  have hP : va_P (dC, dI) vwCl [(h0, .inr (6, [.ref q7, .ref q16, .ref q25, .ref q35, .ref q46, .ref q58, .ref q70, .null, .int 0, .int 0, .int 0, .int 0, .int 0, .int 0])), (q7, .inl (c7, 8, .inr (.inr (.inr (.inr nn_))))), (q16, .inl (c16, 12, .inr (.inr (.inr (.inr nn_))))), (q25, .inl (c25, 120, .inr (.inr (.inr (.inr nn_))))), (q35, .inl (c35, 300, .inr (.inr (.inr (.inr nn_))))), (q46, .inl (c46, 8, .inr (.inr (.inr (.inr (fun i => if i < 8 then some (r46 i) else none)))))), (r46 0, .inl (cI, 8, .inl zz_)), (r46 1, .inl (cI, 8, .inl zz_)), (r46 2, .inl (cI, 8, .inl zz_)), (r46 3, .inl (cI, 8, .inl zz_)), (r46 4, .inl (cI, 8, .inl zz_)), (r46 5, .inl (cI, 8, .inl zz_)), (r46 6, .inl (cI, 8, .inl zz_)), (r46 7, .inl (cI, 8, .inl zz_)), (q58, .inl (c58, 6, .inr (.inr (.inr (.inr (fun i => if i < 6 then some (r58 i) else none)))))), (r58 0, .inl (cI, 21, .inl zz_)), (r58 1, .inl (cI, 21, .inl zz_)), (r58 2, .inl (cI, 21, .inl zz_)), (r58 3, .inl (cI, 21, .inl zz_)), (r58 4, .inl (cI, 21, .inl zz_)), (r58 5, .inl (cI, 21, .inl zz_)), (q70, .inl (c70, 6, .inr (.inr (.inr (.inr (fun i => if i < 6 then some (r70 i) else none)))))), (r70 0, .inl (cI, 6, .inl zz_)), (r70 1, .inl (cI, 6, .inl zz_)), (r70 2, .inl (cI, 6, .inl zz_)), (r70 3, .inl (cI, 6, .inl zz_)), (r70 4, .inl (cI, 6, .inl zz_)), (r70 5, .inl (cI, 6, .inl zz_)), (q80, .inl (cI, 6, .inl zz_))] H := hP
  have hD : va_D A [(h0, .inr (6, [.ref q7, .ref q16, .ref q25, .ref q35, .ref q46, .ref q58, .ref q70, .null, .int 0, .int 0, .int 0, .int 0, .int 0, .int 0])), (q7, .inl (c7, 8, .inr (.inr (.inr (.inr nn_))))), (q16, .inl (c16, 12, .inr (.inr (.inr (.inr nn_))))), (q25, .inl (c25, 120, .inr (.inr (.inr (.inr nn_))))), (q35, .inl (c35, 300, .inr (.inr (.inr (.inr nn_))))), (q46, .inl (c46, 8, .inr (.inr (.inr (.inr (fun i => if i < 8 then some (r46 i) else none)))))), (r46 0, .inl (cI, 8, .inl zz_)), (r46 1, .inl (cI, 8, .inl zz_)), (r46 2, .inl (cI, 8, .inl zz_)), (r46 3, .inl (cI, 8, .inl zz_)), (r46 4, .inl (cI, 8, .inl zz_)), (r46 5, .inl (cI, 8, .inl zz_)), (r46 6, .inl (cI, 8, .inl zz_)), (r46 7, .inl (cI, 8, .inl zz_)), (q58, .inl (c58, 6, .inr (.inr (.inr (.inr (fun i => if i < 6 then some (r58 i) else none)))))), (r58 0, .inl (cI, 21, .inl zz_)), (r58 1, .inl (cI, 21, .inl zz_)), (r58 2, .inl (cI, 21, .inl zz_)), (r58 3, .inl (cI, 21, .inl zz_)), (r58 4, .inl (cI, 21, .inl zz_)), (r58 5, .inl (cI, 21, .inl zz_)), (q70, .inl (c70, 6, .inr (.inr (.inr (.inr (fun i => if i < 6 then some (r70 i) else none)))))), (r70 0, .inl (cI, 6, .inl zz_)), (r70 1, .inl (cI, 6, .inl zz_)), (r70 2, .inl (cI, 6, .inl zz_)), (r70 3, .inl (cI, 6, .inl zz_)), (r70 4, .inl (cI, 6, .inl zz_)), (r70 5, .inl (cI, 6, .inl zz_)), (q80, .inl (cI, 6, .inl zz_))] := hD
  refine W.widen (k := 28) (n := 692) (Nat.le_of_ble_eq_true rfl) (Nat.le_of_ble_eq_true rfl) ?_
  refine va_putF (D := (dC, dI)) (ci := 6) (v := .ref q80) (ty := .array .int) (C := RX7) (T := TX7) (N := 14) hx hb hts hinX7 tyX7 tyX7_ok nmX7 hown hK hP hD hS 0 rfl rfl 7 (by decide) (hts (.fieldLink RX7 44 "FurPosts" "loaded" "[I") (by decide +kernel)) (fun _ h9 => h9) rfl hin rfl (by decide +kernel) rfl rfl (Nat.le_of_ble_eq_true rfl) dX7_init_82 (fun H locs hP hD hS => ?_)
  have hP : va_P (dC, dI) vwCl [(h0, .inr (6, [.ref q7, .ref q16, .ref q25, .ref q35, .ref q46, .ref q58, .ref q70, .ref q80, .int 0, .int 0, .int 0, .int 0, .int 0, .int 0])), (q7, .inl (c7, 8, .inr (.inr (.inr (.inr nn_))))), (q16, .inl (c16, 12, .inr (.inr (.inr (.inr nn_))))), (q25, .inl (c25, 120, .inr (.inr (.inr (.inr nn_))))), (q35, .inl (c35, 300, .inr (.inr (.inr (.inr nn_))))), (q46, .inl (c46, 8, .inr (.inr (.inr (.inr (fun i => if i < 8 then some (r46 i) else none)))))), (r46 0, .inl (cI, 8, .inl zz_)), (r46 1, .inl (cI, 8, .inl zz_)), (r46 2, .inl (cI, 8, .inl zz_)), (r46 3, .inl (cI, 8, .inl zz_)), (r46 4, .inl (cI, 8, .inl zz_)), (r46 5, .inl (cI, 8, .inl zz_)), (r46 6, .inl (cI, 8, .inl zz_)), (r46 7, .inl (cI, 8, .inl zz_)), (q58, .inl (c58, 6, .inr (.inr (.inr (.inr (fun i => if i < 6 then some (r58 i) else none)))))), (r58 0, .inl (cI, 21, .inl zz_)), (r58 1, .inl (cI, 21, .inl zz_)), (r58 2, .inl (cI, 21, .inl zz_)), (r58 3, .inl (cI, 21, .inl zz_)), (r58 4, .inl (cI, 21, .inl zz_)), (r58 5, .inl (cI, 21, .inl zz_)), (q70, .inl (c70, 6, .inr (.inr (.inr (.inr (fun i => if i < 6 then some (r70 i) else none)))))), (r70 0, .inl (cI, 6, .inl zz_)), (r70 1, .inl (cI, 6, .inl zz_)), (r70 2, .inl (cI, 6, .inl zz_)), (r70 3, .inl (cI, 6, .inl zz_)), (r70 4, .inl (cI, 6, .inl zz_)), (r70 5, .inl (cI, 6, .inl zz_)), (q80, .inl (cI, 6, .inl zz_))] H := hP
  have hD : va_D A [(h0, .inr (6, [.ref q7, .ref q16, .ref q25, .ref q35, .ref q46, .ref q58, .ref q70, .ref q80, .int 0, .int 0, .int 0, .int 0, .int 0, .int 0])), (q7, .inl (c7, 8, .inr (.inr (.inr (.inr nn_))))), (q16, .inl (c16, 12, .inr (.inr (.inr (.inr nn_))))), (q25, .inl (c25, 120, .inr (.inr (.inr (.inr nn_))))), (q35, .inl (c35, 300, .inr (.inr (.inr (.inr nn_))))), (q46, .inl (c46, 8, .inr (.inr (.inr (.inr (fun i => if i < 8 then some (r46 i) else none)))))), (r46 0, .inl (cI, 8, .inl zz_)), (r46 1, .inl (cI, 8, .inl zz_)), (r46 2, .inl (cI, 8, .inl zz_)), (r46 3, .inl (cI, 8, .inl zz_)), (r46 4, .inl (cI, 8, .inl zz_)), (r46 5, .inl (cI, 8, .inl zz_)), (r46 6, .inl (cI, 8, .inl zz_)), (r46 7, .inl (cI, 8, .inl zz_)), (q58, .inl (c58, 6, .inr (.inr (.inr (.inr (fun i => if i < 6 then some (r58 i) else none)))))), (r58 0, .inl (cI, 21, .inl zz_)), (r58 1, .inl (cI, 21, .inl zz_)), (r58 2, .inl (cI, 21, .inl zz_)), (r58 3, .inl (cI, 21, .inl zz_)), (r58 4, .inl (cI, 21, .inl zz_)), (r58 5, .inl (cI, 21, .inl zz_)), (q70, .inl (c70, 6, .inr (.inr (.inr (.inr (fun i => if i < 6 then some (r70 i) else none)))))), (r70 0, .inl (cI, 6, .inl zz_)), (r70 1, .inl (cI, 6, .inl zz_)), (r70 2, .inl (cI, 6, .inl zz_)), (r70 3, .inl (cI, 6, .inl zz_)), (r70 4, .inl (cI, 6, .inl zz_)), (r70 5, .inl (cI, 6, .inl zz_)), (q80, .inl (cI, 6, .inl zz_))] := hD
  refine lv_iconst (v := 0) hx hb dX7_init_85 (by decide) ?_
  refine lv_istore_n (lv' := [(1, .int 0), (0, .ref h0)]) hx hb dX7_init_86 rfl hl (by decide) rfl (fun ls hl => ?_)
  have hDk : va_D A ([(h0, .inr (6, [.ref q7, .ref q16, .ref q25, .ref q35, .ref q46, .ref q58, .ref q70, .ref q80, .int 0, .int 0, .int 0, .int 0, .int 0, .int 0])), (q7, .inl (c7, 8, .inr (.inr (.inr (.inr nn_))))), (q16, .inl (c16, 12, .inr (.inr (.inr (.inr nn_))))), (q25, .inl (c25, 120, .inr (.inr (.inr (.inr nn_))))), (q35, .inl (c35, 300, .inr (.inr (.inr (.inr nn_))))), (q46, .inl (c46, 8, .inr (.inr (.inr (.inr (fun i => if i < 8 then some (r46 i) else none)))))), (q58, .inl (c58, 6, .inr (.inr (.inr (.inr (fun i => if i < 6 then some (r58 i) else none)))))), (q70, .inl (c70, 6, .inr (.inr (.inr (.inr (fun i => if i < 6 then some (r70 i) else none)))))), (q80, .inl (cI, 6, .inl zz_)), (r58 0, .inl (cI, 21, .inl zz_)), (r58 1, .inl (cI, 21, .inl zz_)), (r58 2, .inl (cI, 21, .inl zz_)), (r58 3, .inl (cI, 21, .inl zz_)), (r58 4, .inl (cI, 21, .inl zz_)), (r58 5, .inl (cI, 21, .inl zz_)), (r70 0, .inl (cI, 6, .inl zz_)), (r70 1, .inl (cI, 6, .inl zz_)), (r70 2, .inl (cI, 6, .inl zz_)), (r70 3, .inl (cI, 6, .inl zz_)), (r70 4, .inl (cI, 6, .inl zz_)), (r70 5, .inl (cI, 6, .inl zz_))] ++ (List.range 8).map (fun i => (r46 i, .inl (cI, 8, .inl zz_)))) := hD.sub [0, 1, 2, 3, 4, 5, 14, 21, 28, 15, 16, 17, 18, 19, 20, 22, 23, 24, 25, 26, 27, 6, 7, 8, 9, 10, 11, 12, 13] (by decide) rfl
  have hDo : va_D A ([(h0, .inr (6, [.ref q7, .ref q16, .ref q25, .ref q35, .ref q46, .ref q58, .ref q70, .ref q80, .int 0, .int 0, .int 0, .int 0, .int 0, .int 0])), (q46, .inl (c46, 8, .inr (.inr (.inr (.inr (fun i => if i < 8 then some (r46 i) else none))))))] ++ (List.range 8).map (fun i => (r46 i, .inl (cI, 8, .inl zz_)))) := hD.sub [0, 5, 6, 7, 8, 9, 10, 11, 12, 13] (by decide) rfl
  have hDr : va_D A ((List.range 8).map (fun i => (r46 i, .inl (cI, 8, .inl zz_)))) := hD.sub [6, 7, 8, 9, 10, 11, 12, 13] (by decide) rfl
  have hPk : va_P (dC, dI) vwCl [(h0, .inr (6, [.ref q7, .ref q16, .ref q25, .ref q35, .ref q46, .ref q58, .ref q70, .ref q80, .int 0, .int 0, .int 0, .int 0, .int 0, .int 0])), (q7, .inl (c7, 8, .inr (.inr (.inr (.inr nn_))))), (q16, .inl (c16, 12, .inr (.inr (.inr (.inr nn_))))), (q25, .inl (c25, 120, .inr (.inr (.inr (.inr nn_))))), (q35, .inl (c35, 300, .inr (.inr (.inr (.inr nn_))))), (q46, .inl (c46, 8, .inr (.inr (.inr (.inr (fun i => if i < 8 then some (r46 i) else none)))))), (q58, .inl (c58, 6, .inr (.inr (.inr (.inr (fun i => if i < 6 then some (r58 i) else none)))))), (q70, .inl (c70, 6, .inr (.inr (.inr (.inr (fun i => if i < 6 then some (r70 i) else none)))))), (q80, .inl (cI, 6, .inl zz_)), (r58 0, .inl (cI, 21, .inl zz_)), (r58 1, .inl (cI, 21, .inl zz_)), (r58 2, .inl (cI, 21, .inl zz_)), (r58 3, .inl (cI, 21, .inl zz_)), (r58 4, .inl (cI, 21, .inl zz_)), (r58 5, .inl (cI, 21, .inl zz_)), (r70 0, .inl (cI, 6, .inl zz_)), (r70 1, .inl (cI, 6, .inl zz_)), (r70 2, .inl (cI, 6, .inl zz_)), (r70 3, .inl (cI, 6, .inl zz_)), (r70 4, .inl (cI, 6, .inl zz_)), (r70 5, .inl (cI, 6, .inl zz_))] H := hP.sub [0, 1, 2, 3, 4, 5, 14, 21, 28, 15, 16, 17, 18, 19, 20, 22, 23, 24, 25, 26, 27] rfl
  have hPo : va_P (dC, dI) vwCl [(h0, .inr (6, [.ref q7, .ref q16, .ref q25, .ref q35, .ref q46, .ref q58, .ref q70, .ref q80, .int 0, .int 0, .int 0, .int 0, .int 0, .int 0])), (q46, .inl (c46, 8, .inr (.inr (.inr (.inr (fun i => if i < 8 then some (r46 i) else none))))))] H := hP.sub [0, 5] rfl
  have hPr : va_P (dC, dI) vwCl ((List.range 8).map (fun i => (r46 i, .inl (cI, 8, .inl zz_)))) H := hP.sub [6, 7, 8, 9, 10, 11, 12, 13] rfl
  have hKk := hK.sub (tys' := [(cI, .int), (cR, .object RX5), (c7, .object RX4), (c16, .object RX6), (c25, .object RX0), (c35, .object RX2), (c46, .array .int), (c58, .array .int), (c70, .array .int)]) [0, 1, 2, 3, 4, 5, 6, 7, 8] rfl
  have hKo := hK.sub (tys' := [(c46, .array .int), (cI, .int)]) [6, 0] rfl
  have hKI := hK.sub (tys' := [(cI, .int)]) [0] rfl
  have hAr : ∀ j, j < 8 → A (r46 j) := fun j hj => hDr.2 j _ (row_at hj)
  have hinj : ∀ i j, i < 8 → j < 8 → i ≠ j → ¬ r46 i = r46 j := fun i j hi hj hij => apart_at hDr i j (row_at hi) (row_at hj) hij
  have hrow0 : ∀ j, j < 8 → ∃ g, va_P (dC, dI) vwCl [(r46 j, .inl (cI, 8, .inl g))] H := fun j hj => ⟨zz_, fun k x hx => by
      have h1 : k < 1 := (List.getElem?_eq_some_iff.mp hx).1
      rw [show k = 0 by omega] at hx
      cases hx
      exact hPr j _ (row_at hj)⟩
  clear hP hD
  have key : ∀ (k i : Nat) (G : Heap) (locs : List Loc) (ls : Array Slot), i + k = 8 → va_S A s.heap G locs → H.size ≤ G.size → (∀ a : Nat, a < H.size → (∀ j, j < 8 → ¬ a = r46 j) → G[a]? = H[a]?) → (∀ j, j < 8 → ∃ g, va_P (dC, dI) vwCl [(r46 j, .inl (cI, 8, .inl g))] G) → lv_has ls 2 [(1, .int (nI i)), (0, .ref h0)] →
      W p l e (headSpec wsX7_init ({ frames := 1, cells := 28, slots := 692, locals := 23 })).room s m [.ref h0].toArray below meth c G locs 28 692 (MQ below (va_Qv (fun _ : Unit => True) (fun _ t9 => ∃ (q : Nat → Nat) (cy : Nat → ClassId) (L : List Nat) (t : Nat → Nat) (f : Nat → va_E), va_P (dC, dI) vwCl (xo_ h0 q (fun _ => 0) 0 ++ va_pl L f) t9.heap ∧ va_K (dC, dI) vwCl (tt_ cI cy) t9 ∧ va_D A (xo_ h0 q (fun _ => 0) 0 ++ va_pl L f) ∧ ty_ cI cy L t f ∧ qs_ q t) A) [.ref h0].toArray s 28 692 A) (F0 m 87 ls []) := by
    intro k
    induction k with
    | zero =>
      intro i G locs ls hi hS hsz hkp hrow hl
      have hi : i = 8 := by omega
      subst i
      refine lv_iload_n hx hb dX7_init_87 rfl (lv_at hl 0 rfl) ?_
      refine lv_bipush (v := 8) hx hb dX7_init_88 (by decide) ?_
      refine lv_icmp_ge (tgt := 119) hx hb dX7_init_90 (by decide) (fun _ => ?_) (fun h => absurd (show (8 : Int32) ≤ nI 8 from by decide) h)
      have hP9 := hPk.kept (H1 := G) (fun k x hx => hkp x.1 ((hPk k x hx).lt) (fun j hj => keep_ne hDk hx (row_at hj)))
      obtain ⟨g0, hg0⟩ := hrow 0 (by decide)
      obtain ⟨g1, hg1⟩ := hrow 1 (by decide)
      obtain ⟨g2, hg2⟩ := hrow 2 (by decide)
      obtain ⟨g3, hg3⟩ := hrow 3 (by decide)
      obtain ⟨g4, hg4⟩ := hrow 4 (by decide)
      obtain ⟨g5, hg5⟩ := hrow 5 (by decide)
      obtain ⟨g6, hg6⟩ := hrow 6 (by decide)
      obtain ⟨g7, hg7⟩ := hrow 7 (by decide)
      have hP10 : va_P (dC, dI) vwCl ([(h0, .inr (6, [.ref q7, .ref q16, .ref q25, .ref q35, .ref q46, .ref q58, .ref q70, .ref q80, .int 0, .int 0, .int 0, .int 0, .int 0, .int 0]))] ++ [(q7, .inl (c7, 8, .inr (.inr (.inr (.inr nn_))))), (q16, .inl (c16, 12, .inr (.inr (.inr (.inr nn_))))), (q25, .inl (c25, 120, .inr (.inr (.inr (.inr nn_))))), (q35, .inl (c35, 300, .inr (.inr (.inr (.inr nn_))))), (q46, .inl (c46, 8, .inr (.inr (.inr (.inr (fun i => if i < 8 then some (r46 i) else none)))))), (q58, .inl (c58, 6, .inr (.inr (.inr (.inr (fun i => if i < 6 then some (r58 i) else none)))))), (q70, .inl (c70, 6, .inr (.inr (.inr (.inr (fun i => if i < 6 then some (r70 i) else none)))))), (q80, .inl (cI, 6, .inl zz_)), (r58 0, .inl (cI, 21, .inl zz_)), (r58 1, .inl (cI, 21, .inl zz_)), (r58 2, .inl (cI, 21, .inl zz_)), (r58 3, .inl (cI, 21, .inl zz_)), (r58 4, .inl (cI, 21, .inl zz_)), (r58 5, .inl (cI, 21, .inl zz_)), (r70 0, .inl (cI, 6, .inl zz_)), (r70 1, .inl (cI, 6, .inl zz_)), (r70 2, .inl (cI, 6, .inl zz_)), (r70 3, .inl (cI, 6, .inl zz_)), (r70 4, .inl (cI, 6, .inl zz_)), (r70 5, .inl (cI, 6, .inl zz_)), (r46 0, .inl (cI, 8, .inl g0)), (r46 1, .inl (cI, 8, .inl g1)), (r46 2, .inl (cI, 8, .inl g2)), (r46 3, .inl (cI, 8, .inl g3)), (r46 4, .inl (cI, 8, .inl g4)), (r46 5, .inl (cI, 8, .inl g5)), (r46 6, .inl (cI, 8, .inl g6)), (r46 7, .inl (cI, 8, .inl g7))]) G := ((((((((hP9.app hg0).app hg1).app hg2).app hg3).app hg4).app hg5).app hg6).app hg7)
      have hD10 : va_D A ([(h0, .inr (6, [.ref q7, .ref q16, .ref q25, .ref q35, .ref q46, .ref q58, .ref q70, .ref q80, .int 0, .int 0, .int 0, .int 0, .int 0, .int 0]))] ++ [(q7, .inl (c7, 8, .inr (.inr (.inr (.inr nn_))))), (q16, .inl (c16, 12, .inr (.inr (.inr (.inr nn_))))), (q25, .inl (c25, 120, .inr (.inr (.inr (.inr nn_))))), (q35, .inl (c35, 300, .inr (.inr (.inr (.inr nn_))))), (q46, .inl (c46, 8, .inr (.inr (.inr (.inr (fun i => if i < 8 then some (r46 i) else none)))))), (q58, .inl (c58, 6, .inr (.inr (.inr (.inr (fun i => if i < 6 then some (r58 i) else none)))))), (q70, .inl (c70, 6, .inr (.inr (.inr (.inr (fun i => if i < 6 then some (r70 i) else none)))))), (q80, .inl (cI, 6, .inl zz_)), (r58 0, .inl (cI, 21, .inl zz_)), (r58 1, .inl (cI, 21, .inl zz_)), (r58 2, .inl (cI, 21, .inl zz_)), (r58 3, .inl (cI, 21, .inl zz_)), (r58 4, .inl (cI, 21, .inl zz_)), (r58 5, .inl (cI, 21, .inl zz_)), (r70 0, .inl (cI, 6, .inl zz_)), (r70 1, .inl (cI, 6, .inl zz_)), (r70 2, .inl (cI, 6, .inl zz_)), (r70 3, .inl (cI, 6, .inl zz_)), (r70 4, .inl (cI, 6, .inl zz_)), (r70 5, .inl (cI, 6, .inl zz_)), (r46 0, .inl (cI, 8, .inl g0)), (r46 1, .inl (cI, 8, .inl g1)), (r46 2, .inl (cI, 8, .inl g2)), (r46 3, .inl (cI, 8, .inl g3)), (r46 4, .inl (cI, 8, .inl g4)), (r46 5, .inl (cI, 8, .inl g5)), (r46 6, .inl (cI, 8, .inl g6)), (r46 7, .inl (cI, 8, .inl g7))]) := va_D_same hDk rfl
      have hDw := va_D_tail hD10
      have hpl := pl_of hDw
      have hty : ty_ cI (fun k => [cR, cR, cR, cR, cR, cR, cR, cR, c7, c16, c25, c35, c46, c58, c70].getD k cR) (([(q7, .inl (c7, 8, .inr (.inr (.inr (.inr nn_))))), (q16, .inl (c16, 12, .inr (.inr (.inr (.inr nn_))))), (q25, .inl (c25, 120, .inr (.inr (.inr (.inr nn_))))), (q35, .inl (c35, 300, .inr (.inr (.inr (.inr nn_))))), (q46, .inl (c46, 8, .inr (.inr (.inr (.inr (fun i => if i < 8 then some (r46 i) else none)))))), (q58, .inl (c58, 6, .inr (.inr (.inr (.inr (fun i => if i < 6 then some (r58 i) else none)))))), (q70, .inl (c70, 6, .inr (.inr (.inr (.inr (fun i => if i < 6 then some (r70 i) else none)))))), (q80, .inl (cI, 6, .inl zz_)), (r58 0, .inl (cI, 21, .inl zz_)), (r58 1, .inl (cI, 21, .inl zz_)), (r58 2, .inl (cI, 21, .inl zz_)), (r58 3, .inl (cI, 21, .inl zz_)), (r58 4, .inl (cI, 21, .inl zz_)), (r58 5, .inl (cI, 21, .inl zz_)), (r70 0, .inl (cI, 6, .inl zz_)), (r70 1, .inl (cI, 6, .inl zz_)), (r70 2, .inl (cI, 6, .inl zz_)), (r70 3, .inl (cI, 6, .inl zz_)), (r70 4, .inl (cI, 6, .inl zz_)), (r70 5, .inl (cI, 6, .inl zz_)), (r46 0, .inl (cI, 8, .inl g0)), (r46 1, .inl (cI, 8, .inl g1)), (r46 2, .inl (cI, 8, .inl g2)), (r46 3, .inl (cI, 8, .inl g3)), (r46 4, .inl (cI, 8, .inl g4)), (r46 5, .inl (cI, 8, .inl g5)), (r46 6, .inl (cI, 8, .inl g6)), (r46 7, .inl (cI, 8, .inl g7))] : va_W).map (fun y => y.1)) (tof_ [(q7, .inl (c7, 8, .inr (.inr (.inr (.inr nn_))))), (q16, .inl (c16, 12, .inr (.inr (.inr (.inr nn_))))), (q25, .inl (c25, 120, .inr (.inr (.inr (.inr nn_))))), (q35, .inl (c35, 300, .inr (.inr (.inr (.inr nn_))))), (q46, .inl (c46, 8, .inr (.inr (.inr (.inr (fun i => if i < 8 then some (r46 i) else none)))))), (q58, .inl (c58, 6, .inr (.inr (.inr (.inr (fun i => if i < 6 then some (r58 i) else none)))))), (q70, .inl (c70, 6, .inr (.inr (.inr (.inr (fun i => if i < 6 then some (r70 i) else none)))))), (q80, .inl (cI, 6, .inl zz_)), (r58 0, .inl (cI, 21, .inl zz_)), (r58 1, .inl (cI, 21, .inl zz_)), (r58 2, .inl (cI, 21, .inl zz_)), (r58 3, .inl (cI, 21, .inl zz_)), (r58 4, .inl (cI, 21, .inl zz_)), (r58 5, .inl (cI, 21, .inl zz_)), (r70 0, .inl (cI, 6, .inl zz_)), (r70 1, .inl (cI, 6, .inl zz_)), (r70 2, .inl (cI, 6, .inl zz_)), (r70 3, .inl (cI, 6, .inl zz_)), (r70 4, .inl (cI, 6, .inl zz_)), (r70 5, .inl (cI, 6, .inl zz_)), (r46 0, .inl (cI, 8, .inl g0)), (r46 1, .inl (cI, 8, .inl g1)), (r46 2, .inl (cI, 8, .inl g2)), (r46 3, .inl (cI, 8, .inl g3)), (r46 4, .inl (cI, 8, .inl g4)), (r46 5, .inl (cI, 8, .inl g5)), (r46 6, .inl (cI, 8, .inl g6)), (r46 7, .inl (cI, 8, .inl g7))] [8, 9, 10, 11, 12, 13, 14, 15, 18, 18, 18, 18, 18, 18, 15, 15, 15, 15, 15, 15, 16, 16, 16, 16, 16, 16, 16, 16]) (fof_ [(q7, .inl (c7, 8, .inr (.inr (.inr (.inr nn_))))), (q16, .inl (c16, 12, .inr (.inr (.inr (.inr nn_))))), (q25, .inl (c25, 120, .inr (.inr (.inr (.inr nn_))))), (q35, .inl (c35, 300, .inr (.inr (.inr (.inr nn_))))), (q46, .inl (c46, 8, .inr (.inr (.inr (.inr (fun i => if i < 8 then some (r46 i) else none)))))), (q58, .inl (c58, 6, .inr (.inr (.inr (.inr (fun i => if i < 6 then some (r58 i) else none)))))), (q70, .inl (c70, 6, .inr (.inr (.inr (.inr (fun i => if i < 6 then some (r70 i) else none)))))), (q80, .inl (cI, 6, .inl zz_)), (r58 0, .inl (cI, 21, .inl zz_)), (r58 1, .inl (cI, 21, .inl zz_)), (r58 2, .inl (cI, 21, .inl zz_)), (r58 3, .inl (cI, 21, .inl zz_)), (r58 4, .inl (cI, 21, .inl zz_)), (r58 5, .inl (cI, 21, .inl zz_)), (r70 0, .inl (cI, 6, .inl zz_)), (r70 1, .inl (cI, 6, .inl zz_)), (r70 2, .inl (cI, 6, .inl zz_)), (r70 3, .inl (cI, 6, .inl zz_)), (r70 4, .inl (cI, 6, .inl zz_)), (r70 5, .inl (cI, 6, .inl zz_)), (r46 0, .inl (cI, 8, .inl g0)), (r46 1, .inl (cI, 8, .inl g1)), (r46 2, .inl (cI, 8, .inl g2)), (r46 3, .inl (cI, 8, .inl g3)), (r46 4, .inl (cI, 8, .inl g4)), (r46 5, .inl (cI, 8, .inl g5)), (r46 6, .inl (cI, 8, .inl g6)), (r46 7, .inl (cI, 8, .inl g7))]) := ty_of hDw (fun i x hx => by
        have h1 : i < 28 := (List.getElem?_eq_some_iff.mp hx).1
        match i, hx, h1 with
        | 0, hx, _ => cases hx; exact ⟨nn_, rfl, fun j b h => by cases h⟩
        | 1, hx, _ => cases hx; exact ⟨nn_, rfl, fun j b h => by cases h⟩
        | 2, hx, _ => cases hx; exact ⟨nn_, rfl, fun j b h => by cases h⟩
        | 3, hx, _ => cases hx; exact ⟨nn_, rfl, fun j b h => by cases h⟩
        | 4, hx, _ => cases hx; exact ⟨r46, rfl, fun i hi => by rcases (show i = 0 ∨ i = 1 ∨ i = 2 ∨ i = 3 ∨ i = 4 ∨ i = 5 ∨ i = 6 ∨ i = 7 by omega) with rfl | rfl | rfl | rfl | rfl | rfl | rfl | rfl <;> first | exact tof_at hDw 20 rfl | exact tof_at hDw 21 rfl | exact tof_at hDw 22 rfl | exact tof_at hDw 23 rfl | exact tof_at hDw 24 rfl | exact tof_at hDw 25 rfl | exact tof_at hDw 26 rfl | exact tof_at hDw 27 rfl⟩
        | 5, hx, _ => cases hx; exact ⟨r58, rfl, fun i hi => by rcases (show i = 0 ∨ i = 1 ∨ i = 2 ∨ i = 3 ∨ i = 4 ∨ i = 5 by omega) with rfl | rfl | rfl | rfl | rfl | rfl <;> first | exact tof_at hDw 8 rfl | exact tof_at hDw 9 rfl | exact tof_at hDw 10 rfl | exact tof_at hDw 11 rfl | exact tof_at hDw 12 rfl | exact tof_at hDw 13 rfl⟩
        | 6, hx, _ => cases hx; exact ⟨r70, rfl, fun i hi => by rcases (show i = 0 ∨ i = 1 ∨ i = 2 ∨ i = 3 ∨ i = 4 ∨ i = 5 by omega) with rfl | rfl | rfl | rfl | rfl | rfl <;> first | exact tof_at hDw 14 rfl | exact tof_at hDw 15 rfl | exact tof_at hDw 16 rfl | exact tof_at hDw 17 rfl | exact tof_at hDw 18 rfl | exact tof_at hDw 19 rfl⟩
        | 7, hx, _ => cases hx; exact ⟨_, rfl⟩
        | 8, hx, _ => cases hx; exact ⟨_, rfl⟩
        | 9, hx, _ => cases hx; exact ⟨_, rfl⟩
        | 10, hx, _ => cases hx; exact ⟨_, rfl⟩
        | 11, hx, _ => cases hx; exact ⟨_, rfl⟩
        | 12, hx, _ => cases hx; exact ⟨_, rfl⟩
        | 13, hx, _ => cases hx; exact ⟨_, rfl⟩
        | 14, hx, _ => cases hx; exact ⟨_, rfl⟩
        | 15, hx, _ => cases hx; exact ⟨_, rfl⟩
        | 16, hx, _ => cases hx; exact ⟨_, rfl⟩
        | 17, hx, _ => cases hx; exact ⟨_, rfl⟩
        | 18, hx, _ => cases hx; exact ⟨_, rfl⟩
        | 19, hx, _ => cases hx; exact ⟨_, rfl⟩
        | 20, hx, _ => cases hx; exact ⟨_, rfl⟩
        | 21, hx, _ => cases hx; exact ⟨_, rfl⟩
        | 22, hx, _ => cases hx; exact ⟨_, rfl⟩
        | 23, hx, _ => cases hx; exact ⟨_, rfl⟩
        | 24, hx, _ => cases hx; exact ⟨_, rfl⟩
        | 25, hx, _ => cases hx; exact ⟨_, rfl⟩
        | 26, hx, _ => cases hx; exact ⟨_, rfl⟩
        | 27, hx, _ => cases hx; exact ⟨_, rfl⟩
        | i + 28, _, h => omega)
      exact W.vret hx hb hr (fun t9 ht hW => ⟨⟨(), rfl, trivial, fun k => [0, q7, q16, q25, q35, q46, q58, q70, q80].getD k 0, (fun k => [cR, cR, cR, cR, cR, cR, cR, cR, c7, c16, c25, c35, c46, c58, c70].getD k cR), _, _, _, by rw [ht, hpl]; exact hP10, va_K.moved hW.alike hKk, by rw [hpl]; exact hD10, hty, ⟨tof_at hDw 0 rfl, tof_at hDw 1 rfl, tof_at hDw 2 rfl, tof_at hDw 3 rfl, tof_at hDw 4 rfl, tof_at hDw 5 rfl, tof_at hDw 6 rfl, tof_at hDw 7 rfl⟩⟩, hS.F ht⟩) hS.2.2 dX7_init_119
    | succ k ih =>
      intro i G locs ls hi hS hsz hkp hrow hl
      have hlt : i < 8 := by omega
      have hPo1 := hPo.kept (H1 := G) (fun k x hx => hkp x.1 ((hPo k x hx).lt) (fun j hj => keep_ne hDo hx (row_at hj)))
      refine lv_iload_n hx hb dX7_init_87 rfl (lv_at hl 0 rfl) ?_
      refine lv_bipush (v := 8) hx hb dX7_init_88 (by decide) ?_
      refine lv_icmp_ge (tgt := 119) hx hb dX7_init_90 (by decide) (fun h => absurd h (show ¬ (8 : Int32) ≤ nI i from nI_ge (b := 8) hlt (by decide))) (fun _ => ?_)
      refine lv_aload_n hx hb dX7_init_93 rfl (lv_at hl 1 rfl) ?_
      refine va_get (D := (dC, dI)) (ci := 6) (v := .ref q46) (C := RX7) (T := TX7) (N := 14) hx hb hts hinX7 hown hK hPo1 0 rfl rfl 4 (by decide) (hts (.fieldLink RX7 35 "FurPosts" "distances" "[[I") (by decide +kernel)) (fun _ h9 => h9) rfl dX7_init_94 ?_
      refine lv_iload_n hx hb dX7_init_97 rfl (lv_at hl 0 rfl) ?_
      refine va_ald2 hx hb hKo hPo1 1 0 rfl rfl (i := nI i) (vp_in_nI hlt (by decide)) (b := r46 i) (by show (if (nI i).toNatClampNeg < 8 then some (r46 (nI i).toNatClampNeg) else none) = some (r46 i); rw [nI_clamp (Nat.lt_trans hlt (by decide)), if_pos hlt]) dX7_init_98 ?_
      refine lv_bipush (v := 100) hx hb dX7_init_99 (by decide) ?_
      obtain ⟨g0, hg0⟩ := hrow i hlt
      refine va_callv (va_runS (As := [.ref (r46 i), .int 100]) (rest := []) ⟨hx, hb, hml, hown, hts⟩ (c_fill l dC dI (r46 i) cI 8 (by decide) g0 100) (va_cwS 2 hts gX7_init_J7_fill_53178 rfl rfl rfl (by decide +kernel) ⟨Nat.le_of_ble_eq_true rfl, Nat.le_of_ble_eq_true rfl⟩) ⟨pu_blind, fun U hU hW => ⟨rfl, by rw [hU]; exact hg0, va_K.moved hW.alike hKI⟩⟩ rfl rfl hl.1 rfl (lv_room (Nat.le_of_ble_eq_true rfl)) dX7_init_101 ⟨Nat.le_of_ble_eq_true rfl, Nat.le_of_ble_eq_true rfl⟩) hS (fun q _ h => by rw [h]; exact hAr i hlt) (fun q h => by rw [h]; exact hAr i hlt) (fun g1 t H1 locs ht hvm hw hB hz1 hk1 hS => ?_)
      rw [ht] at hB
      refine W.widen (k := 28) (n := 692) (Nat.le_of_ble_eq_true rfl) (Nat.le_of_ble_eq_true rfl) ?_
      have hPo2 := hPo1.kept (H1 := H1) (fun k x hx => hk1 x.1 ((hPo1 k x hx).lt) (keep_ne hDo hx (row_at hlt)))
      refine lv_aload_n hx hb dX7_init_104 rfl (lv_at hl 1 rfl) ?_
      refine va_get (D := (dC, dI)) (ci := 6) (v := .ref q46) (C := RX7) (T := TX7) (N := 14) hx hb hts hinX7 hown hK hPo2 0 rfl rfl 4 (by decide) (hts (.fieldLink RX7 35 "FurPosts" "distances" "[[I") (by decide +kernel)) (fun _ h9 => h9) rfl dX7_init_105 ?_
      refine lv_iload_n hx hb dX7_init_108 rfl (lv_at hl 0 rfl) ?_
      refine va_ald2 hx hb hKo hPo2 1 0 rfl rfl (i := nI i) (vp_in_nI hlt (by decide)) (b := r46 i) (by show (if (nI i).toNatClampNeg < 8 then some (r46 (nI i).toNatClampNeg) else none) = some (r46 i); rw [nI_clamp (Nat.lt_trans hlt (by decide)), if_pos hlt]) dX7_init_109 ?_
      refine lv_iload_n hx hb dX7_init_110 rfl (lv_at hl 0 rfl) ?_
      refine lv_iconst (v := 0) hx hb dX7_init_111 (by decide) ?_
      refine ia_st hx hb hKI hB (hAr i hlt) hS 0 rfl (vp_in_nI hlt (by decide)) dX7_init_112 (fun H2 locs hP2 hz2 hk2 hS => ?_)
      refine lv_iinc (v := nI (i + 1)) (lv' := [(1, .int (nI (i + 1))), (0, .ref h0)]) hx hb dX7_init_113 hl (k := 0) rfl (show nI i + 1 = nI (i + 1) from nI_1 i) (by decide) rfl (fun ls hl => ?_)
      refine lv_goto (tgt := 87) hx hb dX7_init_116 (by decide) ?_
      refine ih (i + 1) H2 locs ls (by omega) hS (by omega) (fun a ha hn => ?_) (fun j hj => ?_) hl
      · rw [hk2 a (hn i hlt), hk1 a (by omega) (hn i hlt)]; exact hkp a ha hn
      · by_cases hji : j = i
        · rw [hji]; exact ⟨_, hP2⟩
        · obtain ⟨g2, hg2⟩ := hrow j hj
          have h1 : ¬ r46 j = r46 i := hinj j i hj hlt hji
          refine ⟨g2, hg2.kept (fun k x hx => ?_)⟩
          have h2 : k < 1 := (List.getElem?_eq_some_iff.mp hx).1
          rw [show k = 0 by omega] at hx
          cases hx
          have h3 : r46 j < G.size := (hg2 0 _ rfl).lt
          show H2[r46 j]? = G[r46 j]?
          rw [hk2 _ h1, hk1 _ h3 h1]
  exact key 8 0 H locs ls (by omega) hS (Nat.le_refl _) (fun _ _ _ => rfl) hrow0 hl
