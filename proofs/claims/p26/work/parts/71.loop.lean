/-- the reference's addresses -/
def ma_ (m0 : Nat) (qm : Nat → Nat) : List Nat := [m0, qm 2, qm 3, qm 4, qm 6, qm 7, qm 8, qm 9, qm 10, qm 11, qm 12, qm 14, qm 15, qm 16, qm 17, qm 18, qm 19, qm 20, qm 21, qm 22, qm 23, qm 24, qm 26, qm 27, qm 28, qm 29, qm 30, qm 31, qm 32, qm 33, qm 34, qm 36]
/-- the class's part of the heap -/
def ax_ (n0 m0 : Nat) (qm : Nat → Nat) : Nat → Prop := fun a => n0 ≤ a ∧ a ∉ ma_ m0 qm
theorem ma_at {m0 : Nat} {qm n : Nat → Nat} {dl : Int32} {cI cZ : ClassId} {F : Nat → Nat → Int32} {k : Nat} {x : Nat × va_E} (h : (mw_ m0 qm n dl cI cZ F)[k]? = some x) : x.1 ∈ ma_ m0 qm := by
  have h1 : ((mw_ m0 qm n dl cI cZ F).map (fun y => y.1))[k]? = some x.1 := by rw [List.getElem?_map, h]; rfl
  exact List.mem_of_getElem? (show (ma_ m0 qm)[k]? = some x.1 from h1)
theorem ma_in {m0 : Nat} {qm n : Nat → Nat} {dl : Int32} {cI cZ : ClassId} {F : Nat → Nat → Int32} {a : Nat} (h : a ∈ ma_ m0 qm) : ∃ (k : Nat) (e : va_E), (mw_ m0 qm n dl cI cZ F)[k]? = some (a, e) := by
  have h1 : a ∈ (mw_ m0 qm n dl cI cZ F).map (fun y => y.1) := h
  obtain ⟨x, hx, e⟩ := List.mem_map.mp h1
  obtain ⟨k, hk⟩ := List.getElem?_of_mem hx
  exact ⟨k, x.2, by rw [hk, ← e]⟩
/-- the class's cells stay, where none of them is written -/
theorem cp_kept {D : va_G} {cI : ClassId} {cy : Nat → ClassId} {h0 : Nat} {q : Nat → Nat} {A : Nat → Prop} {ad : Nat → Nat → Nat} {rl : Nat → Nat × Nat} {L : List Nat} {n : Nat → Nat} {G : Nat → Nat → Int32} {H H1 : Heap} (hC : cp_ D cI cy h0 q A ad rl L n G H) (hk : ∀ a : Nat, a < H.size → A a → H1[a]? = H[a]?) : cp_ D cI cy h0 q A ad rl L n G H1 := by
  obtain ⟨f, hP, hD, hL⟩ := hC
  exact ⟨f, hP.kept (fun k x hx => hk x.1 ((hP k x hx).lt) (hD.2 k x hx)), hD, hL⟩
theorem fr_eq {n : Nat → Nat} {G F : Nat → Nat → Int32} (hR : rel_ n G F) : fr_ n G := by
  obtain ⟨hq, -, -, -, -, -, -, -, -, hf, -⟩ := hR
  intro i hi
  rw [hq 2 rfl, hq 3 rfl, hq 4 rfl, hq 32 rfl]
  exact hf i hi
theorem lw_gt {j L : Nat} (h : L < j + 6) (hL : L ≤ 100000) (hj : j ≤ 100000) : Int32.ofNat L - 6 < nI j := by
  rw [sp_lt, nI_toInt (by omega)]
  by_cases h6 : 6 ≤ L
  · rw [show (Int32.ofNat L - 6 : Int32) = nI (L - 6) from pk_sub (b := 6) h6, nI_toInt (by omega)]
    omega
  · have e := pk_sneg (a := L) (b := 6) (by decide) (by omega)
    rw [sp_lt, show (0 : Int32).toInt = 0 from rfl] at e
    have e2 : (Int32.ofNat L - 6 : Int32).toInt < 0 := e
    omega
/-! THE CLAIM OUT OF ONE WALK OF THE LAW'S BODY. Your part is whole_start (and what it stands on); all else here is the same for every law, but numbers. -/
def R_law : String := "FurPostsLaw"
def lw_P (b : Addr) (xs : List Int32) (args : Array Value) (s : State) : Prop := args = #[.ref b] ∧ s.IntsAt b xs ∧ xs.length ≤ 3072 ∧ (Jvm.Cond.and given_1 narrow_1).before args s = true
def lw_Q (_ : Array Value) (s : State) (o : Outcome) (t : State) : Prop := o = .returned (some (.int 1)) ∧ Framed s o t [] 600000 7302250
def lw_Z (below : List Frame) (a : Array Value) (s : State) : State → Prop := fun t => ∃ o, t.status = .running ∧ Ended t below o ∧ lw_Q a s o t
/-- the law's own end, with 1 on the stack, nothing written that was there before, its room as the claim has it -/
theorem lw_ret {p : Program} {l : Launch} {e : Env} {s : State} {m : MethodId} {below : List Frame} {meth : Method} {c : Code} {b : Nat} (hx : p.tables.exec = Jvm.exec) (hb : c.code = code) (hr : meth.sig.returnType = ret) (hlocks : meth.locks = false) {pc : Nat} {H : Heap} {ls : Array Slot} (hdg : decode code pc = .ok (.ireturn, 1)) : W p l e room_1 s m #[Value.ref b] below meth c H [] 600000 7302250 (lw_Z below #[Value.ref b] s) (F0 m pc ls [.int 1]) := by
  intro T hT X
  obtain ⟨fs, hret, hrun, hended, hW, hframe⟩ := X.leave (v := some (.int 1)) (hlocks := hlocks) (fun h => by rw [hr] at h; cases h)
  have hmeth' : T.vm.method? m = some meth := X.method'
  refine ⟨T.setFrames fs, ?_, .returned (some (.int 1)), hrun, hended, rfl, ⟨_, rfl⟩, hW, hframe⟩
  jvm_step X.here [X.here.top, hx, hb, hdg, hmeth', hr, ret, narrow_b1]
  (try refine ⟨rfl, ?_⟩); (try refine ⟨rfl, ?_⟩)
  first | (intro acts; rw [hret _ acts rfl rfl rfl]) | rw [hret _ _ rfl rfl rfl]
  exact Steps.refl _
/-- what holds at the law's entry: the machine, the code, the tables' words (any of lw_tbl by 'hts w (by decide +kernel)'), the script of L ints xs at the cell b, what the Statement gives of the start (any of its parts by flat_of_before) -/
def lw_At (p : Program) (s : State) (m : MethodId) (meth : Method) (c : Code) (b L : Nat) (xs : Nat → Int32) : Prop :=
  p.tables.exec = Jvm.exec ∧ c.code = code ∧ meth.sig.returnType = ret ∧ c.maxLocals = 4 ∧ s.vm.findClass R_law = some m.cls ∧ (∀ w ∈ lw_tbl, w.before #[Value.ref b] s = true) ∧ va_X b L xs s s.heap ∧ b < s.heap.size ∧ meth.locks = false ∧ (Jvm.Cond.and given_1 narrow_1).before #[Value.ref b] s = true

set_option maxHeartbeats 64000000 in
set_option maxRecDepth 100000 in
theorem law_loop {p : Program} {e : Env} {s : State} {m : MethodId} {below : List Frame} {meth : Method} {c : Code} (l : Launch) {b Ln : Nat} {xs : Nat → Int32} (hL : Ln ≤ 3072) (C0 : lw_At p s m meth c b Ln xs) (dC : Nat → ClassId) (dI : Nat → Nat → Nat) (x0 m0 : Nat) (q qm : Nat → Nat) (cI cZ : ClassId) (cy : Nat → ClassId) (hW0 : nw_ s) (hK : va_K (dC, dI) vwCl (tt_ cI cy) s) (hKm : va_K (dC, dI) vwCl (mt_ cI cZ) s) (hMa : ∀ a, a ∈ ma_ m0 qm → s.heap.size ≤ a) :
    ∀ (k j : Nat) (L : List Nat) (ad : Nat → Nat → Nat) (rl : Nat → Nat × Nat) (n : Nat → Nat) (G F : Nat → Nat → Int32) (H : Heap) (locs : List Loc) (ls : Array Slot), j + k = 513 → cp_ (dC, dI) cI cy x0 q (ax_ s.heap.size m0 qm) ad rl L n G H → va_P (dC, dI) vwCl (mw_ m0 qm n (F 44 0) cI cZ F) H → va_D (fun a => a ∈ ma_ m0 qm) (mw_ m0 qm n (F 44 0) cI cZ F) → mi_ n F → nb_ n → rel_ n G F → va_S (fun a : Nat => s.heap.size ≤ a) s.heap H locs → lv_has ls 4 [(3, .int (nI (6 * j))), (2, .ref m0), (1, .ref x0), (0, .ref b)] →
      W p l e room_1 s m #[Value.ref b] below meth c H locs (61 + 5 * j) (7067 + 36 * j) (lw_Z below #[Value.ref b] s) (F0 m 18 ls []) := by
  obtain ⟨hx, hb, hr, hml, hown, hts0, hX, hbl, hlocks, hgv⟩ := id C0
  have hbA : ¬ (fun a : Nat => s.heap.size ≤ a) b := Nat.not_le.mpr hbl
  have hts : ∀ w ∈ wsL_law, w.before #[Value.ref b] s = true := fun w h => hts0 w (wsL_law_in w h)
  intro k
  induction k with
  | zero =>
    intro j L ad rl n G F H locs ls hj hC hPm hDm hI hN hR hS hl
    refine lv_iload_n hx hb dL_law_18 rfl (lv_at hl 0 rfl) ?_
    refine lv_aload_n hx hb dL_law_19 rfl (lv_at hl 3 rfl) ?_
    refine va_slen hx hb hX hbl hbA hS dL_law_20 ?_
    refine lv_bipush (v := 6) hx hb dL_law_21 (by decide) ?_
    refine lv_isub hx hb dL_law_23 ?_
    refine lv_icmp_gt (tgt := 1176) hx hb dL_law_24 (by decide) (fun _ => ?_) (fun h => absurd (lw_gt (j := 6 * j) (by omega) (by omega) (by omega)) h)
    refine lv_iconst (v := 1) hx hb dL_law_1176 (by decide) ?_
    refine W.widen (k := 600000) (n := 7302250) (by omega) (by omega) ?_
    refine va_forget (fun q hq => hS.2.2 q hq) ?_
    exact lw_ret hx hb hr hlocks dL_law_1177
  | succ k ih =>
    intro j L ad rl n G F H locs ls hj hC hPm hDm hI hN hR hS hl
    refine lv_iload_n hx hb dL_law_18 rfl (lv_at hl 0 rfl) ?_
    refine lv_aload_n hx hb dL_law_19 rfl (lv_at hl 3 rfl) ?_
    refine va_slen hx hb hX hbl hbA hS dL_law_20 ?_
    refine lv_bipush (v := 6) hx hb dL_law_21 (by decide) ?_
    refine lv_isub hx hb dL_law_23 ?_
    refine lv_icmp_gt (tgt := 1176) hx hb dL_law_24 (by decide) (fun h_1 => ?_) (fun h_1 => ?_)
    · refine lv_iconst (v := 1) hx hb dL_law_1176 (by decide) ?_
      refine W.widen (k := 600000) (n := 7302250) (by omega) (by omega) ?_
      refine va_forget (fun q hq => hS.2.2 q hq) ?_
      exact lw_ret hx hb hr hlocks dL_law_1177
    have hj6 : 6 * j + 6 ≤ Ln := Nat.le_of_not_lt fun z => h_1 (lw_gt (j := 6 * j) (by omega) (by omega) (by omega))
    have hml2 : ∀ a, a ∈ ma_ m0 qm → a < H.size := fun a ha => by
      obtain ⟨k9, e9, h9⟩ := ma_in (n := n) (dl := F 44 0) (cI := cI) (cZ := cZ) (F := F) ha
      exact (hPm k9 _ h9).lt
    have hXs : ∀ a, H.size ≤ a → ax_ s.heap.size m0 qm a := fun a h => ⟨Nat.le_trans hS.1 h, fun z => absurd (hml2 a z) (Nat.not_lt.mpr h)⟩
    have fin : ∀ (L : List Nat) (ad : Nat → Nat → Nat) (rl : Nat → Nat × Nat) (n : Nat → Nat) (G F : Nat → Nat → Int32) (H : Heap) (locs : List Loc) (ls : Array Slot), cp_ (dC, dI) cI cy x0 q (ax_ s.heap.size m0 qm) ad rl L n G H → va_P (dC, dI) vwCl (mw_ m0 qm n (F 44 0) cI cZ F) H → va_D (fun a => a ∈ ma_ m0 qm) (mw_ m0 qm n (F 44 0) cI cZ F) → mi_ n F → nb_ n → rel_ n G F → va_S (fun a : Nat => s.heap.size ≤ a) s.heap H locs → lv_has ls 4 [(3, .int (nI (6 * j))), (2, .ref m0), (1, .ref x0), (0, .ref b)] →
        W p l e room_1 s m #[Value.ref b] below meth c H locs (61 + 5 * (j + 1)) (7067 + 36 * (j + 1)) (lw_Z below #[Value.ref b] s) (F0 m 1170 ls []) := by
      intro L ad rl n G F H locs ls hC hPm hDm hI hN hR hS hl
      refine lv_iinc (v := nI (6 * (j + 1))) (lv' := [(3, .int (nI (6 * (j + 1)))), (2, .ref m0), (1, .ref x0), (0, .ref b)]) hx hb dL_law_1170 hl (k := 0) rfl (show nI (6 * j) + 6 = nI (6 * (j + 1)) from nI_add (6 * j) 6) (by decide) rfl (fun ls hl => ?_)
      refine lv_goto (tgt := 18) hx hb dL_law_1173 (by decide) ?_
      exact ih (j + 1) L ad rl n G F H locs ls (by omega) hC hPm hDm hI hN hR hS hl
    refine lv_aload_n hx hb dL_law_27 rfl (lv_at hl 3 rfl) ?_
    refine lv_iload_n hx hb dL_law_28 rfl (lv_at hl 0 rfl) ?_
    refine va_sld hx hb hX hbl hbA hS (i := nI (6 * j)) (vp_in_nI (by omega) (by omega)) dL_law_29 ?_
    refine lv_bipush (v := 31) hx hb dL_law_30 (by decide) ?_
    refine lv_iand hx hb dL_law_32 ?_
    refine lv_topi (fun z ez => ?_)
    rcases (Decidable.em (z = 0)) with e_0 | e_0
    · refine lv_tableIn (off := 119) (tgt := 152) hx hb dL_law_33 (by rw [e_0]; decide) (by rw [e_0]; decide) (by rw [e_0]; rfl) (by decide) ?_
      refine lv_aload_n hx hb dL_law_152 rfl (lv_at hl 2 rfl) ?_
      refine va_calli (va_runV (As := []) (rest := []) ⟨hx, hb, hml, hown, hts⟩ (a_X7_post l dC dI x0 q cI cy (ax_ s.heap.size m0 qm) ad rl L n G hN (fr_eq hR)) (cwV 0 hts gL_law_X7_post rfl rfl rfl (by decide +kernel) ⟨Nat.le_of_ble_eq_true rfl, Nat.le_of_ble_eq_true rfl⟩) ⟨fun a U g mk y => ⟨y.1, ⟨y.2.1.1, va_K.moved (u := U) (U := U.calling g mk a) (Vm.Alike.refl U.vm) y.2.1.2.1, nw_call y.2.1.2.2⟩, y.2.2⟩, (ct_pre (As := []) hC hK hW0).2.1, fun U hU hW => ⟨rfl, ⟨by rw [hU]; exact hC, va_K.moved hW.alike hK, nw_warm hW hW0⟩, fun a h => hXs a (by rw [hU] at h; exact h)⟩⟩ rfl rfl hl.1 rfl (lv_room (Nat.le_of_ble_eq_true rfl)) dL_law_153 ⟨by show _ ≤ 600000; omega, by show _ ≤ 7302250; omega⟩) hS (fun a _ h => h.1) (fun a h => h.1) (fun rx u st H1 locs ht hvm hw hB hz1 hk1 hS => ?_)
      obtain ⟨L2, ad2, rl2, n2, G2⟩ := u
      have hwx : (rx, n2, G2) = sX_post n G := hw.1
      have hC2 : cp_ (dC, dI) cI cy x0 q (ax_ s.heap.size m0 qm) ad2 rl2 L2 n2 G2 H1 := by rw [← ht]; exact hB
      have hPm := hPm.kept (H1 := H1) (fun k x hx => hk1 x.1 ((hPm k x hx).lt) (fun h => h.2 (ma_at hx)))
      clear ht hvm hw hB hz1 hk1 hC hXs hml2
      refine lv_pop hx hb dL_law_156 rfl ?_
      refine lv_aload_n hx hb dL_law_157 rfl (lv_at hl 1 rfl) ?_
      refine va_calli (va_runV (As := []) (rest := []) ⟨hx, hb, hml, hown, hts⟩ (m_X8_post l dC dI m0 qm n cI cZ F hI hN (fun a => a ∈ ma_ m0 qm) hDm) (cwV 0 hts gL_law_X8_post rfl rfl rfl (by decide +kernel) ⟨Nat.le_of_ble_eq_true rfl, Nat.le_of_ble_eq_true rfl⟩) (pu_pre hPm hKm (ci := 7) (q0 := 0) rfl rfl) rfl rfl hl.1 rfl (lv_room (Nat.le_of_ble_eq_true rfl)) dL_law_158 ⟨by show _ ≤ 600000; omega, by show _ ≤ 7302250; omega⟩) hS (fun a _ h => hMa a h) (fun a h => hMa a h) (fun rm v st3 H3 locs ht hvm hw hB hz1 hk1 hS => ?_)
      obtain ⟨n3, F3⟩ := v
      obtain ⟨hwm, hDm, hI, hN3⟩ := hw
      have hwm : (rm, n3, F3) = rM_post n F := hwm
      have hPm : va_P (dC, dI) vwCl (mw_ m0 qm n3 (F3 44 0) cI cZ F3) H3 := by rw [← ht]; exact hB
      have hDm : va_D (fun a => a ∈ ma_ m0 qm) (mw_ m0 qm n3 (F3 44 0) cI cZ F3) := hDm
      have hC := cp_kept (H1 := H3) hC2 (fun a ha hA => hk1 a ha hA.2)
      obtain ⟨q1, q3, q2⟩ := s_post hR hN
      rw [← hwx, ← hwm] at q1 q3
      rw [← hwx, ← hwm] at q2
      have heq : rx = rm := q1
      have q3 : n2 = n3 := q3
      have hR : rel_ n2 G2 F3 := q2
      subst q3
      have hN : nb_ n2 := hN3
      clear hwx
      clear ht hvm hB hz1 hk1
      refine lv_pop hx hb dL_law_161 rfl ?_
      refine lv_goto (tgt := 1170) hx hb dL_law_162 (by decide) ?_
      refine W.widen (k := 61 + 5 * (j + 1)) (n := 7067 + 36 * (j + 1)) (by omega) (by omega) ?_
      exact fin L2 ad2 rl2 n2 G2 F3 _ _ ls hC hPm hDm hI hN hR hS hl
    rcases (Decidable.em (z = 1)) with e_1 | e_1
    · refine lv_tableIn (off := 132) (tgt := 165) hx hb dL_law_33 (by rw [e_1]; decide) (by rw [e_1]; decide) (by rw [e_1]; rfl) (by decide) ?_
      refine lv_aload_n hx hb dL_law_165 rfl (lv_at hl 2 rfl) ?_
      refine lv_aload_n hx hb dL_law_166 rfl (lv_at hl 3 rfl) ?_
      refine lv_iload_n hx hb dL_law_167 rfl (lv_at hl 0 rfl) ?_
      refine lv_iconst (v := 1) hx hb dL_law_168 (by decide) ?_
      refine lv_iadd hx hb dL_law_169 ?_
      rw [show (nI (6 * j) + 1 : Int32) = nI (6 * j + 1) from nI_add (6 * j) 1]
      refine va_sld hx hb hX hbl hbA hS (i := nI (6 * j + 1)) (vp_in_nI (by omega) (by omega)) dL_law_170 ?_
      refine lv_aload_n hx hb dL_law_171 rfl (lv_at hl 3 rfl) ?_
      refine lv_iload_n hx hb dL_law_172 rfl (lv_at hl 0 rfl) ?_
      refine lv_iconst (v := 2) hx hb dL_law_173 (by decide) ?_
      refine lv_iadd hx hb dL_law_174 ?_
      rw [show (nI (6 * j) + 2 : Int32) = nI (6 * j + 2) from nI_add (6 * j) 2]
      refine va_sld hx hb hX hbl hbA hS (i := nI (6 * j + 2)) (vp_in_nI (by omega) (by omega)) dL_law_175 ?_
      refine lv_aload_n hx hb dL_law_176 rfl (lv_at hl 3 rfl) ?_
      refine lv_iload_n hx hb dL_law_177 rfl (lv_at hl 0 rfl) ?_
      refine lv_iconst (v := 3) hx hb dL_law_178 (by decide) ?_
      refine lv_iadd hx hb dL_law_179 ?_
      rw [show (nI (6 * j) + 3 : Int32) = nI (6 * j + 3) from nI_add (6 * j) 3]
      refine va_sld hx hb hX hbl hbA hS (i := nI (6 * j + 3)) (vp_in_nI (by omega) (by omega)) dL_law_180 ?_
      refine lv_aload_n hx hb dL_law_181 rfl (lv_at hl 3 rfl) ?_
      refine lv_iload_n hx hb dL_law_182 rfl (lv_at hl 0 rfl) ?_
      refine lv_iconst (v := 4) hx hb dL_law_183 (by decide) ?_
      refine lv_iadd hx hb dL_law_184 ?_
      rw [show (nI (6 * j) + 4 : Int32) = nI (6 * j + 4) from nI_add (6 * j) 4]
      refine va_sld hx hb hX hbl hbA hS (i := nI (6 * j + 4)) (vp_in_nI (by omega) (by omega)) dL_law_185 ?_
      refine va_calli (va_runV (As := [.int (xs (Int32.toNatClampNeg (nI (6 * j + 1)))), .int (xs (Int32.toNatClampNeg (nI (6 * j + 2)))), .int (xs (Int32.toNatClampNeg (nI (6 * j + 3)))), .int (xs (Int32.toNatClampNeg (nI (6 * j + 4))))]) (rest := []) ⟨hx, hb, hml, hown, hts⟩ (a_X7_way l dC dI x0 q cI cy (ax_ s.heap.size m0 qm) ad rl L n G hN (xs (Int32.toNatClampNeg (nI (6 * j + 1)))) (xs (Int32.toNatClampNeg (nI (6 * j + 2)))) (xs (Int32.toNatClampNeg (nI (6 * j + 3)))) (xs (Int32.toNatClampNeg (nI (6 * j + 4))))) (cwV 4 hts gL_law_X7_way rfl rfl rfl (by decide +kernel) ⟨Nat.le_of_ble_eq_true rfl, Nat.le_of_ble_eq_true rfl⟩) ⟨fun a U g mk y => ⟨y.1, ⟨y.2.1.1, va_K.moved (u := U) (U := U.calling g mk a) (Vm.Alike.refl U.vm) y.2.1.2.1, nw_call y.2.1.2.2⟩, y.2.2⟩, (ct_pre (As := []) hC hK hW0).2.1, fun U hU hW => ⟨rfl, ⟨by rw [hU]; exact hC, va_K.moved hW.alike hK, nw_warm hW hW0⟩, fun a h => hXs a (by rw [hU] at h; exact h)⟩⟩ rfl rfl hl.1 rfl (lv_room (Nat.le_of_ble_eq_true rfl)) dL_law_186 ⟨by show _ ≤ 600000; omega, by show _ ≤ 7302250; omega⟩) hS (fun a _ h => h.1) (fun a h => h.1) (fun rx u st H1 locs ht hvm hw hB hz1 hk1 hS => ?_)
      obtain ⟨L2, ad2, rl2, n2, G2⟩ := u
      have hwx : (rx, n2, G2) = sX_way n G (xs (Int32.toNatClampNeg (nI (6 * j + 1)))) (xs (Int32.toNatClampNeg (nI (6 * j + 2)))) (xs (Int32.toNatClampNeg (nI (6 * j + 3)))) (xs (Int32.toNatClampNeg (nI (6 * j + 4)))) := hw.1
      have hC2 : cp_ (dC, dI) cI cy x0 q (ax_ s.heap.size m0 qm) ad2 rl2 L2 n2 G2 H1 := by rw [← ht]; exact hB
      have hPm := hPm.kept (H1 := H1) (fun k x hx => hk1 x.1 ((hPm k x hx).lt) (fun h => h.2 (ma_at hx)))
      clear ht hvm hw hB hz1 hk1 hC hXs hml2
      refine lv_pop hx hb dL_law_189 rfl ?_
      refine lv_aload_n hx hb dL_law_190 rfl (lv_at hl 1 rfl) ?_
      refine lv_aload_n hx hb dL_law_191 rfl (lv_at hl 3 rfl) ?_
      refine lv_iload_n hx hb dL_law_192 rfl (lv_at hl 0 rfl) ?_
      refine lv_iconst (v := 1) hx hb dL_law_193 (by decide) ?_
      refine lv_iadd hx hb dL_law_194 ?_
      rw [show (nI (6 * j) + 1 : Int32) = nI (6 * j + 1) from nI_add (6 * j) 1]
      refine va_sld hx hb hX hbl hbA hS (i := nI (6 * j + 1)) (vp_in_nI (by omega) (by omega)) dL_law_195 ?_
      refine lv_aload_n hx hb dL_law_196 rfl (lv_at hl 3 rfl) ?_
      refine lv_iload_n hx hb dL_law_197 rfl (lv_at hl 0 rfl) ?_
      refine lv_iconst (v := 2) hx hb dL_law_198 (by decide) ?_
      refine lv_iadd hx hb dL_law_199 ?_
      rw [show (nI (6 * j) + 2 : Int32) = nI (6 * j + 2) from nI_add (6 * j) 2]
      refine va_sld hx hb hX hbl hbA hS (i := nI (6 * j + 2)) (vp_in_nI (by omega) (by omega)) dL_law_200 ?_
      refine lv_aload_n hx hb dL_law_201 rfl (lv_at hl 3 rfl) ?_
      refine lv_iload_n hx hb dL_law_202 rfl (lv_at hl 0 rfl) ?_
      refine lv_iconst (v := 3) hx hb dL_law_203 (by decide) ?_
      refine lv_iadd hx hb dL_law_204 ?_
      rw [show (nI (6 * j) + 3 : Int32) = nI (6 * j + 3) from nI_add (6 * j) 3]
      refine va_sld hx hb hX hbl hbA hS (i := nI (6 * j + 3)) (vp_in_nI (by omega) (by omega)) dL_law_205 ?_
      refine lv_aload_n hx hb dL_law_206 rfl (lv_at hl 3 rfl) ?_
      refine lv_iload_n hx hb dL_law_207 rfl (lv_at hl 0 rfl) ?_
      refine lv_iconst (v := 4) hx hb dL_law_208 (by decide) ?_
      refine lv_iadd hx hb dL_law_209 ?_
      rw [show (nI (6 * j) + 4 : Int32) = nI (6 * j + 4) from nI_add (6 * j) 4]
      refine va_sld hx hb hX hbl hbA hS (i := nI (6 * j + 4)) (vp_in_nI (by omega) (by omega)) dL_law_210 ?_
      refine va_calli (va_runV (As := [.int (xs (Int32.toNatClampNeg (nI (6 * j + 1)))), .int (xs (Int32.toNatClampNeg (nI (6 * j + 2)))), .int (xs (Int32.toNatClampNeg (nI (6 * j + 3)))), .int (xs (Int32.toNatClampNeg (nI (6 * j + 4))))]) (rest := []) ⟨hx, hb, hml, hown, hts⟩ (m_X8_way l dC dI m0 qm n cI cZ F hI hN (fun a => a ∈ ma_ m0 qm) hDm (xs (Int32.toNatClampNeg (nI (6 * j + 1)))) (xs (Int32.toNatClampNeg (nI (6 * j + 2)))) (xs (Int32.toNatClampNeg (nI (6 * j + 3)))) (xs (Int32.toNatClampNeg (nI (6 * j + 4))))) (cwV 4 hts gL_law_X8_way rfl rfl rfl (by decide +kernel) ⟨Nat.le_of_ble_eq_true rfl, Nat.le_of_ble_eq_true rfl⟩) (pu_pre hPm hKm (ci := 7) (q0 := 0) rfl rfl) rfl rfl hl.1 rfl (lv_room (Nat.le_of_ble_eq_true rfl)) dL_law_211 ⟨by show _ ≤ 600000; omega, by show _ ≤ 7302250; omega⟩) hS (fun a _ h => hMa a h) (fun a h => hMa a h) (fun rm v st3 H3 locs ht hvm hw hB hz1 hk1 hS => ?_)
      obtain ⟨n3, F3⟩ := v
      obtain ⟨hwm, hDm, hI, hN3⟩ := hw
      have hwm : (rm, n3, F3) = rM_way n F (xs (Int32.toNatClampNeg (nI (6 * j + 1)))) (xs (Int32.toNatClampNeg (nI (6 * j + 2)))) (xs (Int32.toNatClampNeg (nI (6 * j + 3)))) (xs (Int32.toNatClampNeg (nI (6 * j + 4)))) := hwm
      have hPm : va_P (dC, dI) vwCl (mw_ m0 qm n3 (F3 44 0) cI cZ F3) H3 := by rw [← ht]; exact hB
      have hDm : va_D (fun a => a ∈ ma_ m0 qm) (mw_ m0 qm n3 (F3 44 0) cI cZ F3) := hDm
      have hC := cp_kept (H1 := H3) hC2 (fun a ha hA => hk1 a ha hA.2)
      obtain ⟨q1, q3, q2⟩ := s_way hR hN (xs (Int32.toNatClampNeg (nI (6 * j + 1)))) (xs (Int32.toNatClampNeg (nI (6 * j + 2)))) (xs (Int32.toNatClampNeg (nI (6 * j + 3)))) (xs (Int32.toNatClampNeg (nI (6 * j + 4))))
      rw [← hwx, ← hwm] at q1 q3
      rw [← hwx, ← hwm] at q2
      have heq : rx = rm := q1
      have q3 : n2 = n3 := q3
      have hR : rel_ n2 G2 F3 := q2
      subst q3
      have hN : nb_ n2 := hN3
      clear hwx
      clear ht hvm hB hz1 hk1
      refine lv_pop hx hb dL_law_214 rfl ?_
      refine lv_goto (tgt := 1170) hx hb dL_law_215 (by decide) ?_
      refine W.widen (k := 61 + 5 * (j + 1)) (n := 7067 + 36 * (j + 1)) (by omega) (by omega) ?_
      exact fin L2 ad2 rl2 n2 G2 F3 _ _ ls hC hPm hDm hI hN hR hS hl
    rcases (Decidable.em (z = 2)) with e_2 | e_2
    · refine lv_tableIn (off := 185) (tgt := 218) hx hb dL_law_33 (by rw [e_2]; decide) (by rw [e_2]; decide) (by rw [e_2]; rfl) (by decide) ?_
      refine lv_aload_n hx hb dL_law_218 rfl (lv_at hl 2 rfl) ?_
      refine lv_aload_n hx hb dL_law_219 rfl (lv_at hl 3 rfl) ?_
      refine lv_iload_n hx hb dL_law_220 rfl (lv_at hl 0 rfl) ?_
      refine lv_iconst (v := 1) hx hb dL_law_221 (by decide) ?_
      refine lv_iadd hx hb dL_law_222 ?_
      rw [show (nI (6 * j) + 1 : Int32) = nI (6 * j + 1) from nI_add (6 * j) 1]
      refine va_sld hx hb hX hbl hbA hS (i := nI (6 * j + 1)) (vp_in_nI (by omega) (by omega)) dL_law_223 ?_
      refine lv_aload_n hx hb dL_law_224 rfl (lv_at hl 3 rfl) ?_
      refine lv_iload_n hx hb dL_law_225 rfl (lv_at hl 0 rfl) ?_
      refine lv_iconst (v := 2) hx hb dL_law_226 (by decide) ?_
      refine lv_iadd hx hb dL_law_227 ?_
      rw [show (nI (6 * j) + 2 : Int32) = nI (6 * j + 2) from nI_add (6 * j) 2]
      refine va_sld hx hb hX hbl hbA hS (i := nI (6 * j + 2)) (vp_in_nI (by omega) (by omega)) dL_law_228 ?_
      refine lv_aload_n hx hb dL_law_229 rfl (lv_at hl 3 rfl) ?_
      refine lv_iload_n hx hb dL_law_230 rfl (lv_at hl 0 rfl) ?_
      refine lv_iconst (v := 3) hx hb dL_law_231 (by decide) ?_
      refine lv_iadd hx hb dL_law_232 ?_
      rw [show (nI (6 * j) + 3 : Int32) = nI (6 * j + 3) from nI_add (6 * j) 3]
      refine va_sld hx hb hX hbl hbA hS (i := nI (6 * j + 3)) (vp_in_nI (by omega) (by omega)) dL_law_233 ?_
      refine va_calli (va_runV (As := [.int (xs (Int32.toNatClampNeg (nI (6 * j + 1)))), .int (xs (Int32.toNatClampNeg (nI (6 * j + 2)))), .int (xs (Int32.toNatClampNeg (nI (6 * j + 3))))]) (rest := []) ⟨hx, hb, hml, hown, hts⟩ (m_X7_store l dC dI x0 q cI cy (ax_ s.heap.size m0 qm) ad rl L n G hN (xs (Int32.toNatClampNeg (nI (6 * j + 1)))) (xs (Int32.toNatClampNeg (nI (6 * j + 2)))) (xs (Int32.toNatClampNeg (nI (6 * j + 3))))) (cwV 3 hts gL_law_X7_store rfl rfl rfl (by decide +kernel) ⟨Nat.le_of_ble_eq_true rfl, Nat.le_of_ble_eq_true rfl⟩) (ct_pre hC hK hW0) rfl rfl hl.1 rfl (lv_room (Nat.le_of_ble_eq_true rfl)) dL_law_234 ⟨by show _ ≤ 600000; omega, by show _ ≤ 7302250; omega⟩) hS (fun a _ h => h.1) (fun a h => h.1) (fun rx u st H1 locs ht hvm hw hB hz1 hk1 hS => ?_)
      have hwx : (rx, u) = sX_store n G (xs (Int32.toNatClampNeg (nI (6 * j + 1)))) (xs (Int32.toNatClampNeg (nI (6 * j + 2)))) (xs (Int32.toNatClampNeg (nI (6 * j + 3)))) := hw
      have hC2 : cp_ (dC, dI) cI cy x0 q (ax_ s.heap.size m0 qm) ad rl L n u H1 := by rw [← ht]; exact hB
      have hPm := hPm.kept (H1 := H1) (fun k x hx => hk1 x.1 ((hPm k x hx).lt) (fun h => h.2 (ma_at hx)))
      clear ht hvm hw hB hz1 hk1 hC hXs hml2
      refine lv_pop hx hb dL_law_237 rfl ?_
      refine lv_aload_n hx hb dL_law_238 rfl (lv_at hl 1 rfl) ?_
      refine lv_aload_n hx hb dL_law_239 rfl (lv_at hl 3 rfl) ?_
      refine lv_iload_n hx hb dL_law_240 rfl (lv_at hl 0 rfl) ?_
      refine lv_iconst (v := 1) hx hb dL_law_241 (by decide) ?_
      refine lv_iadd hx hb dL_law_242 ?_
      rw [show (nI (6 * j) + 1 : Int32) = nI (6 * j + 1) from nI_add (6 * j) 1]
      refine va_sld hx hb hX hbl hbA hS (i := nI (6 * j + 1)) (vp_in_nI (by omega) (by omega)) dL_law_243 ?_
      refine lv_aload_n hx hb dL_law_244 rfl (lv_at hl 3 rfl) ?_
      refine lv_iload_n hx hb dL_law_245 rfl (lv_at hl 0 rfl) ?_
      refine lv_iconst (v := 2) hx hb dL_law_246 (by decide) ?_
      refine lv_iadd hx hb dL_law_247 ?_
      rw [show (nI (6 * j) + 2 : Int32) = nI (6 * j + 2) from nI_add (6 * j) 2]
      refine va_sld hx hb hX hbl hbA hS (i := nI (6 * j + 2)) (vp_in_nI (by omega) (by omega)) dL_law_248 ?_
      refine lv_aload_n hx hb dL_law_249 rfl (lv_at hl 3 rfl) ?_
      refine lv_iload_n hx hb dL_law_250 rfl (lv_at hl 0 rfl) ?_
      refine lv_iconst (v := 3) hx hb dL_law_251 (by decide) ?_
      refine lv_iadd hx hb dL_law_252 ?_
      rw [show (nI (6 * j) + 3 : Int32) = nI (6 * j + 3) from nI_add (6 * j) 3]
      refine va_sld hx hb hX hbl hbA hS (i := nI (6 * j + 3)) (vp_in_nI (by omega) (by omega)) dL_law_253 ?_
      refine va_calli (va_runV (As := [.int (xs (Int32.toNatClampNeg (nI (6 * j + 1)))), .int (xs (Int32.toNatClampNeg (nI (6 * j + 2)))), .int (xs (Int32.toNatClampNeg (nI (6 * j + 3))))]) (rest := []) ⟨hx, hb, hml, hown, hts⟩ (m_X8_store l dC dI m0 qm n cI cZ F hI hN (fun a => a ∈ ma_ m0 qm) hDm (xs (Int32.toNatClampNeg (nI (6 * j + 1)))) (xs (Int32.toNatClampNeg (nI (6 * j + 2)))) (xs (Int32.toNatClampNeg (nI (6 * j + 3))))) (cwV 3 hts gL_law_X8_store rfl rfl rfl (by decide +kernel) ⟨Nat.le_of_ble_eq_true rfl, Nat.le_of_ble_eq_true rfl⟩) (pu_pre hPm hKm (ci := 7) (q0 := 0) rfl rfl) rfl rfl hl.1 rfl (lv_room (Nat.le_of_ble_eq_true rfl)) dL_law_254 ⟨by show _ ≤ 600000; omega, by show _ ≤ 7302250; omega⟩) hS (fun a _ h => hMa a h) (fun a h => hMa a h) (fun rm v st3 H3 locs ht hvm hw hB hz1 hk1 hS => ?_)
      obtain ⟨hwm, hDm, hI⟩ := hw
      have hwm : (rm, v) = rM_store n F (xs (Int32.toNatClampNeg (nI (6 * j + 1)))) (xs (Int32.toNatClampNeg (nI (6 * j + 2)))) (xs (Int32.toNatClampNeg (nI (6 * j + 3)))) := hwm
      have hPm : va_P (dC, dI) vwCl (mw_ m0 qm n (v 44 0) cI cZ v) H3 := by rw [← ht]; exact hB
      have hDm : va_D (fun a => a ∈ ma_ m0 qm) (mw_ m0 qm n (v 44 0) cI cZ v) := hDm
      have hC := cp_kept (H1 := H3) hC2 (fun a ha hA => hk1 a ha hA.2)
      obtain ⟨q1, q2⟩ := s_store hR hN (xs (Int32.toNatClampNeg (nI (6 * j + 1)))) (xs (Int32.toNatClampNeg (nI (6 * j + 2)))) (xs (Int32.toNatClampNeg (nI (6 * j + 3))))
      rw [← hwx, ← hwm] at q1
      rw [← hwx, ← hwm] at q2
      have heq : rx = rm := q1
      have hR : rel_ n u v := q2
      clear ht hvm hB hz1 hk1
      refine lv_pop hx hb dL_law_257 rfl ?_
      refine lv_goto (tgt := 1170) hx hb dL_law_258 (by decide) ?_
      refine W.widen (k := 61 + 5 * (j + 1)) (n := 7067 + 36 * (j + 1)) (by omega) (by omega) ?_
      exact fin L ad rl n u v _ _ ls hC hPm hDm hI hN hR hS hl
    rcases (Decidable.em (z = 3)) with e_3 | e_3
    · refine lv_tableIn (off := 228) (tgt := 261) hx hb dL_law_33 (by rw [e_3]; decide) (by rw [e_3]; decide) (by rw [e_3]; rfl) (by decide) ?_
      refine lv_aload_n hx hb dL_law_261 rfl (lv_at hl 2 rfl) ?_
      refine lv_aload_n hx hb dL_law_262 rfl (lv_at hl 3 rfl) ?_
      refine lv_iload_n hx hb dL_law_263 rfl (lv_at hl 0 rfl) ?_
      refine lv_iconst (v := 1) hx hb dL_law_264 (by decide) ?_
      refine lv_iadd hx hb dL_law_265 ?_
      rw [show (nI (6 * j) + 1 : Int32) = nI (6 * j + 1) from nI_add (6 * j) 1]
      refine va_sld hx hb hX hbl hbA hS (i := nI (6 * j + 1)) (vp_in_nI (by omega) (by omega)) dL_law_266 ?_
      refine lv_aload_n hx hb dL_law_267 rfl (lv_at hl 3 rfl) ?_
      refine lv_iload_n hx hb dL_law_268 rfl (lv_at hl 0 rfl) ?_
      refine lv_iconst (v := 2) hx hb dL_law_269 (by decide) ?_
      refine lv_iadd hx hb dL_law_270 ?_
      rw [show (nI (6 * j) + 2 : Int32) = nI (6 * j + 2) from nI_add (6 * j) 2]
      refine va_sld hx hb hX hbl hbA hS (i := nI (6 * j + 2)) (vp_in_nI (by omega) (by omega)) dL_law_271 ?_
      refine va_calli (va_runV (As := [.int (xs (Int32.toNatClampNeg (nI (6 * j + 1)))), .int (xs (Int32.toNatClampNeg (nI (6 * j + 2))))]) (rest := []) ⟨hx, hb, hml, hown, hts⟩ (m_X7_load l dC dI x0 q cI cy (ax_ s.heap.size m0 qm) ad rl L n G hN (xs (Int32.toNatClampNeg (nI (6 * j + 1)))) (xs (Int32.toNatClampNeg (nI (6 * j + 2))))) (cwV 2 hts gL_law_X7_load rfl rfl rfl (by decide +kernel) ⟨Nat.le_of_ble_eq_true rfl, Nat.le_of_ble_eq_true rfl⟩) (ct_pre hC hK hW0) rfl rfl hl.1 rfl (lv_room (Nat.le_of_ble_eq_true rfl)) dL_law_272 ⟨by show _ ≤ 600000; omega, by show _ ≤ 7302250; omega⟩) hS (fun a _ h => h.1) (fun a h => h.1) (fun rx u st H1 locs ht hvm hw hB hz1 hk1 hS => ?_)
      have hwx : (rx, u) = sX_load n G (xs (Int32.toNatClampNeg (nI (6 * j + 1)))) (xs (Int32.toNatClampNeg (nI (6 * j + 2)))) := hw
      have hC2 : cp_ (dC, dI) cI cy x0 q (ax_ s.heap.size m0 qm) ad rl L n u H1 := by rw [← ht]; exact hB
      have hPm := hPm.kept (H1 := H1) (fun k x hx => hk1 x.1 ((hPm k x hx).lt) (fun h => h.2 (ma_at hx)))
      clear ht hvm hw hB hz1 hk1 hC hXs hml2
      refine lv_pop hx hb dL_law_275 rfl ?_
      refine lv_aload_n hx hb dL_law_276 rfl (lv_at hl 1 rfl) ?_
      refine lv_aload_n hx hb dL_law_277 rfl (lv_at hl 3 rfl) ?_
      refine lv_iload_n hx hb dL_law_278 rfl (lv_at hl 0 rfl) ?_
      refine lv_iconst (v := 1) hx hb dL_law_279 (by decide) ?_
      refine lv_iadd hx hb dL_law_280 ?_
      rw [show (nI (6 * j) + 1 : Int32) = nI (6 * j + 1) from nI_add (6 * j) 1]
      refine va_sld hx hb hX hbl hbA hS (i := nI (6 * j + 1)) (vp_in_nI (by omega) (by omega)) dL_law_281 ?_
      refine lv_aload_n hx hb dL_law_282 rfl (lv_at hl 3 rfl) ?_
      refine lv_iload_n hx hb dL_law_283 rfl (lv_at hl 0 rfl) ?_
      refine lv_iconst (v := 2) hx hb dL_law_284 (by decide) ?_
      refine lv_iadd hx hb dL_law_285 ?_
      rw [show (nI (6 * j) + 2 : Int32) = nI (6 * j + 2) from nI_add (6 * j) 2]
      refine va_sld hx hb hX hbl hbA hS (i := nI (6 * j + 2)) (vp_in_nI (by omega) (by omega)) dL_law_286 ?_
      refine va_calli (va_runV (As := [.int (xs (Int32.toNatClampNeg (nI (6 * j + 1)))), .int (xs (Int32.toNatClampNeg (nI (6 * j + 2))))]) (rest := []) ⟨hx, hb, hml, hown, hts⟩ (m_X8_load l dC dI m0 qm n cI cZ F hI hN (fun a => a ∈ ma_ m0 qm) hDm (xs (Int32.toNatClampNeg (nI (6 * j + 1)))) (xs (Int32.toNatClampNeg (nI (6 * j + 2))))) (cwV 2 hts gL_law_X8_load rfl rfl rfl (by decide +kernel) ⟨Nat.le_of_ble_eq_true rfl, Nat.le_of_ble_eq_true rfl⟩) (pu_pre hPm hKm (ci := 7) (q0 := 0) rfl rfl) rfl rfl hl.1 rfl (lv_room (Nat.le_of_ble_eq_true rfl)) dL_law_287 ⟨by show _ ≤ 600000; omega, by show _ ≤ 7302250; omega⟩) hS (fun a _ h => hMa a h) (fun a h => hMa a h) (fun rm v st3 H3 locs ht hvm hw hB hz1 hk1 hS => ?_)
      obtain ⟨hwm, hDm, hI⟩ := hw
      have hwm : (rm, v) = rM_load n F (xs (Int32.toNatClampNeg (nI (6 * j + 1)))) (xs (Int32.toNatClampNeg (nI (6 * j + 2)))) := hwm
      have hPm : va_P (dC, dI) vwCl (mw_ m0 qm n (v 44 0) cI cZ v) H3 := by rw [← ht]; exact hB
      have hDm : va_D (fun a => a ∈ ma_ m0 qm) (mw_ m0 qm n (v 44 0) cI cZ v) := hDm
      have hC := cp_kept (H1 := H3) hC2 (fun a ha hA => hk1 a ha hA.2)
      obtain ⟨q1, q2⟩ := s_load hR (xs (Int32.toNatClampNeg (nI (6 * j + 1)))) (xs (Int32.toNatClampNeg (nI (6 * j + 2))))
      rw [← hwx, ← hwm] at q1
      rw [← hwx, ← hwm] at q2
      have heq : rx = rm := q1
      have hR : rel_ n u v := q2
      clear ht hvm hB hz1 hk1
      refine lv_pop hx hb dL_law_290 rfl ?_
      refine lv_goto (tgt := 1170) hx hb dL_law_291 (by decide) ?_
      refine W.widen (k := 61 + 5 * (j + 1)) (n := 7067 + 36 * (j + 1)) (by omega) (by omega) ?_
      exact fin L ad rl n u v _ _ ls hC hPm hDm hI hN hR hS hl
    rcases (Decidable.em (z = 4)) with e_4 | e_4
    · refine lv_tableIn (off := 261) (tgt := 294) hx hb dL_law_33 (by rw [e_4]; decide) (by rw [e_4]; decide) (by rw [e_4]; rfl) (by decide) ?_
      refine lv_aload_n hx hb dL_law_294 rfl (lv_at hl 2 rfl) ?_
      refine lv_aload_n hx hb dL_law_295 rfl (lv_at hl 3 rfl) ?_
      refine lv_iload_n hx hb dL_law_296 rfl (lv_at hl 0 rfl) ?_
      refine lv_iconst (v := 1) hx hb dL_law_297 (by decide) ?_
      refine lv_iadd hx hb dL_law_298 ?_
      rw [show (nI (6 * j) + 1 : Int32) = nI (6 * j + 1) from nI_add (6 * j) 1]
      refine va_sld hx hb hX hbl hbA hS (i := nI (6 * j + 1)) (vp_in_nI (by omega) (by omega)) dL_law_299 ?_
      refine lv_aload_n hx hb dL_law_300 rfl (lv_at hl 3 rfl) ?_
      refine lv_iload_n hx hb dL_law_301 rfl (lv_at hl 0 rfl) ?_
      refine lv_iconst (v := 2) hx hb dL_law_302 (by decide) ?_
      refine lv_iadd hx hb dL_law_303 ?_
      rw [show (nI (6 * j) + 2 : Int32) = nI (6 * j + 2) from nI_add (6 * j) 2]
      refine va_sld hx hb hX hbl hbA hS (i := nI (6 * j + 2)) (vp_in_nI (by omega) (by omega)) dL_law_304 ?_
      refine va_calli (va_runV (As := [.int (xs (Int32.toNatClampNeg (nI (6 * j + 1)))), .int (xs (Int32.toNatClampNeg (nI (6 * j + 2))))]) (rest := []) ⟨hx, hb, hml, hown, hts⟩ (a_X7_send l dC dI x0 q cI cy (ax_ s.heap.size m0 qm) ad rl L n G hN (xs (Int32.toNatClampNeg (nI (6 * j + 1)))) (xs (Int32.toNatClampNeg (nI (6 * j + 2))))) (cwV 2 hts gL_law_X7_send rfl rfl rfl (by decide +kernel) ⟨Nat.le_of_ble_eq_true rfl, Nat.le_of_ble_eq_true rfl⟩) ⟨fun a U g mk y => ⟨y.1, ⟨y.2.1.1, va_K.moved (u := U) (U := U.calling g mk a) (Vm.Alike.refl U.vm) y.2.1.2.1, nw_call y.2.1.2.2⟩, y.2.2⟩, (ct_pre (As := []) hC hK hW0).2.1, fun U hU hW => ⟨rfl, ⟨by rw [hU]; exact hC, va_K.moved hW.alike hK, nw_warm hW hW0⟩, fun a h => hXs a (by rw [hU] at h; exact h)⟩⟩ rfl rfl hl.1 rfl (lv_room (Nat.le_of_ble_eq_true rfl)) dL_law_305 ⟨by show _ ≤ 600000; omega, by show _ ≤ 7302250; omega⟩) hS (fun a _ h => h.1) (fun a h => h.1) (fun rx u st H1 locs ht hvm hw hB hz1 hk1 hS => ?_)
      obtain ⟨L2, ad2, rl2, n2, G2⟩ := u
      have hwx : (rx, n2, G2) = sX_send n G (xs (Int32.toNatClampNeg (nI (6 * j + 1)))) (xs (Int32.toNatClampNeg (nI (6 * j + 2)))) := hw.1
      have hC2 : cp_ (dC, dI) cI cy x0 q (ax_ s.heap.size m0 qm) ad2 rl2 L2 n2 G2 H1 := by rw [← ht]; exact hB
      have hPm := hPm.kept (H1 := H1) (fun k x hx => hk1 x.1 ((hPm k x hx).lt) (fun h => h.2 (ma_at hx)))
      clear ht hvm hw hB hz1 hk1 hC hXs hml2
      refine lv_pop hx hb dL_law_308 rfl ?_
      refine lv_aload_n hx hb dL_law_309 rfl (lv_at hl 1 rfl) ?_
      refine lv_aload_n hx hb dL_law_310 rfl (lv_at hl 3 rfl) ?_
      refine lv_iload_n hx hb dL_law_311 rfl (lv_at hl 0 rfl) ?_
      refine lv_iconst (v := 1) hx hb dL_law_312 (by decide) ?_
      refine lv_iadd hx hb dL_law_313 ?_
      rw [show (nI (6 * j) + 1 : Int32) = nI (6 * j + 1) from nI_add (6 * j) 1]
      refine va_sld hx hb hX hbl hbA hS (i := nI (6 * j + 1)) (vp_in_nI (by omega) (by omega)) dL_law_314 ?_
      refine lv_aload_n hx hb dL_law_315 rfl (lv_at hl 3 rfl) ?_
      refine lv_iload_n hx hb dL_law_316 rfl (lv_at hl 0 rfl) ?_
      refine lv_iconst (v := 2) hx hb dL_law_317 (by decide) ?_
      refine lv_iadd hx hb dL_law_318 ?_
      rw [show (nI (6 * j) + 2 : Int32) = nI (6 * j + 2) from nI_add (6 * j) 2]
      refine va_sld hx hb hX hbl hbA hS (i := nI (6 * j + 2)) (vp_in_nI (by omega) (by omega)) dL_law_319 ?_
      refine va_calli (va_runV (As := [.int (xs (Int32.toNatClampNeg (nI (6 * j + 1)))), .int (xs (Int32.toNatClampNeg (nI (6 * j + 2))))]) (rest := []) ⟨hx, hb, hml, hown, hts⟩ (m_X8_send l dC dI m0 qm n cI cZ F hI hN (fun a => a ∈ ma_ m0 qm) hDm (xs (Int32.toNatClampNeg (nI (6 * j + 1)))) (xs (Int32.toNatClampNeg (nI (6 * j + 2))))) (cwV 2 hts gL_law_X8_send rfl rfl rfl (by decide +kernel) ⟨Nat.le_of_ble_eq_true rfl, Nat.le_of_ble_eq_true rfl⟩) (pu_pre hPm hKm (ci := 7) (q0 := 0) rfl rfl) rfl rfl hl.1 rfl (lv_room (Nat.le_of_ble_eq_true rfl)) dL_law_320 ⟨by show _ ≤ 600000; omega, by show _ ≤ 7302250; omega⟩) hS (fun a _ h => hMa a h) (fun a h => hMa a h) (fun rm v st3 H3 locs ht hvm hw hB hz1 hk1 hS => ?_)
      obtain ⟨n3, F3⟩ := v
      obtain ⟨hwm, hDm, hI, hN3⟩ := hw
      have hwm : (rm, n3, F3) = rM_send n F (xs (Int32.toNatClampNeg (nI (6 * j + 1)))) (xs (Int32.toNatClampNeg (nI (6 * j + 2)))) := hwm
      have hPm : va_P (dC, dI) vwCl (mw_ m0 qm n3 (F3 44 0) cI cZ F3) H3 := by rw [← ht]; exact hB
      have hDm : va_D (fun a => a ∈ ma_ m0 qm) (mw_ m0 qm n3 (F3 44 0) cI cZ F3) := hDm
      have hC := cp_kept (H1 := H3) hC2 (fun a ha hA => hk1 a ha hA.2)
      obtain ⟨q1, q3, q2⟩ := s_send hR hN (xs (Int32.toNatClampNeg (nI (6 * j + 1)))) (xs (Int32.toNatClampNeg (nI (6 * j + 2))))
      rw [← hwx, ← hwm] at q1 q3
      rw [← hwx, ← hwm] at q2
      have heq : rx = rm := q1
      have q3 : n2 = n3 := q3
      have hR : rel_ n2 G2 F3 := q2
      subst q3
      have hN : nb_ n2 := hN3
      clear hwx
      clear ht hvm hB hz1 hk1
      refine lv_pop hx hb dL_law_323 rfl ?_
      refine lv_goto (tgt := 1170) hx hb dL_law_324 (by decide) ?_
      refine W.widen (k := 61 + 5 * (j + 1)) (n := 7067 + 36 * (j + 1)) (by omega) (by omega) ?_
      exact fin L2 ad2 rl2 n2 G2 F3 _ _ ls hC hPm hDm hI hN hR hS hl
    rcases (Decidable.em (z = 5)) with e_5 | e_5
    · refine lv_tableIn (off := 294) (tgt := 327) hx hb dL_law_33 (by rw [e_5]; decide) (by rw [e_5]; decide) (by rw [e_5]; rfl) (by decide) ?_
      refine lv_aload_n hx hb dL_law_327 rfl (lv_at hl 2 rfl) ?_
      refine lv_aload_n hx hb dL_law_328 rfl (lv_at hl 3 rfl) ?_
      refine lv_iload_n hx hb dL_law_329 rfl (lv_at hl 0 rfl) ?_
      refine lv_iconst (v := 1) hx hb dL_law_330 (by decide) ?_
      refine lv_iadd hx hb dL_law_331 ?_
      rw [show (nI (6 * j) + 1 : Int32) = nI (6 * j + 1) from nI_add (6 * j) 1]
      refine va_sld hx hb hX hbl hbA hS (i := nI (6 * j + 1)) (vp_in_nI (by omega) (by omega)) dL_law_332 ?_
      refine va_calli (va_runV (As := [.int (xs (Int32.toNatClampNeg (nI (6 * j + 1))))]) (rest := []) ⟨hx, hb, hml, hown, hts⟩ (m_X7_lose l dC dI x0 q cI cy (ax_ s.heap.size m0 qm) ad rl L n G hN (xs (Int32.toNatClampNeg (nI (6 * j + 1))))) (cwV 1 hts gL_law_X7_lose rfl rfl rfl (by decide +kernel) ⟨Nat.le_of_ble_eq_true rfl, Nat.le_of_ble_eq_true rfl⟩) (ct_pre hC hK hW0) rfl rfl hl.1 rfl (lv_room (Nat.le_of_ble_eq_true rfl)) dL_law_333 ⟨by show _ ≤ 600000; omega, by show _ ≤ 7302250; omega⟩) hS (fun a _ h => h.1) (fun a h => h.1) (fun rx u st H1 locs ht hvm hw hB hz1 hk1 hS => ?_)
      have hwx : (rx, u) = sX_lose n G (xs (Int32.toNatClampNeg (nI (6 * j + 1)))) := hw
      have hC2 : cp_ (dC, dI) cI cy x0 q (ax_ s.heap.size m0 qm) ad rl L n u H1 := by rw [← ht]; exact hB
      have hPm := hPm.kept (H1 := H1) (fun k x hx => hk1 x.1 ((hPm k x hx).lt) (fun h => h.2 (ma_at hx)))
      clear ht hvm hw hB hz1 hk1 hC hXs hml2
      refine lv_pop hx hb dL_law_336 rfl ?_
      refine lv_aload_n hx hb dL_law_337 rfl (lv_at hl 1 rfl) ?_
      refine lv_aload_n hx hb dL_law_338 rfl (lv_at hl 3 rfl) ?_
      refine lv_iload_n hx hb dL_law_339 rfl (lv_at hl 0 rfl) ?_
      refine lv_iconst (v := 1) hx hb dL_law_340 (by decide) ?_
      refine lv_iadd hx hb dL_law_341 ?_
      rw [show (nI (6 * j) + 1 : Int32) = nI (6 * j + 1) from nI_add (6 * j) 1]
      refine va_sld hx hb hX hbl hbA hS (i := nI (6 * j + 1)) (vp_in_nI (by omega) (by omega)) dL_law_342 ?_
      refine va_calli (va_runV (As := [.int (xs (Int32.toNatClampNeg (nI (6 * j + 1))))]) (rest := []) ⟨hx, hb, hml, hown, hts⟩ (m_X8_lose l dC dI m0 qm n cI cZ F hI hN (fun a => a ∈ ma_ m0 qm) hDm (xs (Int32.toNatClampNeg (nI (6 * j + 1))))) (cwV 1 hts gL_law_X8_lose rfl rfl rfl (by decide +kernel) ⟨Nat.le_of_ble_eq_true rfl, Nat.le_of_ble_eq_true rfl⟩) (pu_pre hPm hKm (ci := 7) (q0 := 0) rfl rfl) rfl rfl hl.1 rfl (lv_room (Nat.le_of_ble_eq_true rfl)) dL_law_343 ⟨by show _ ≤ 600000; omega, by show _ ≤ 7302250; omega⟩) hS (fun a _ h => hMa a h) (fun a h => hMa a h) (fun rm v st3 H3 locs ht hvm hw hB hz1 hk1 hS => ?_)
      obtain ⟨hwm, hDm, hI⟩ := hw
      have hwm : (rm, v) = rM_lose n F (xs (Int32.toNatClampNeg (nI (6 * j + 1)))) := hwm
      have hPm : va_P (dC, dI) vwCl (mw_ m0 qm n (v 44 0) cI cZ v) H3 := by rw [← ht]; exact hB
      have hDm : va_D (fun a => a ∈ ma_ m0 qm) (mw_ m0 qm n (v 44 0) cI cZ v) := hDm
      have hC := cp_kept (H1 := H3) hC2 (fun a ha hA => hk1 a ha hA.2)
      obtain ⟨q1, q2⟩ := s_lose hR hN (xs (Int32.toNatClampNeg (nI (6 * j + 1))))
      rw [← hwx, ← hwm] at q1
      rw [← hwx, ← hwm] at q2
      have heq : rx = rm := q1
      have hR : rel_ n u v := q2
      clear ht hvm hB hz1 hk1
      refine lv_pop hx hb dL_law_346 rfl ?_
      refine lv_goto (tgt := 1170) hx hb dL_law_347 (by decide) ?_
      refine W.widen (k := 61 + 5 * (j + 1)) (n := 7067 + 36 * (j + 1)) (by omega) (by omega) ?_
      exact fin L ad rl n u v _ _ ls hC hPm hDm hI hN hR hS hl
    rcases (Decidable.em (z = 6)) with e_6 | e_6
    · refine lv_tableIn (off := 317) (tgt := 350) hx hb dL_law_33 (by rw [e_6]; decide) (by rw [e_6]; decide) (by rw [e_6]; rfl) (by decide) ?_
      refine lv_aload_n hx hb dL_law_350 rfl (lv_at hl 2 rfl) ?_
      refine lv_aload_n hx hb dL_law_351 rfl (lv_at hl 3 rfl) ?_
      refine lv_iload_n hx hb dL_law_352 rfl (lv_at hl 0 rfl) ?_
      refine lv_iconst (v := 1) hx hb dL_law_353 (by decide) ?_
      refine lv_iadd hx hb dL_law_354 ?_
      rw [show (nI (6 * j) + 1 : Int32) = nI (6 * j + 1) from nI_add (6 * j) 1]
      refine va_sld hx hb hX hbl hbA hS (i := nI (6 * j + 1)) (vp_in_nI (by omega) (by omega)) dL_law_355 ?_
      refine lv_aload_n hx hb dL_law_356 rfl (lv_at hl 3 rfl) ?_
      refine lv_iload_n hx hb dL_law_357 rfl (lv_at hl 0 rfl) ?_
      refine lv_iconst (v := 2) hx hb dL_law_358 (by decide) ?_
      refine lv_iadd hx hb dL_law_359 ?_
      rw [show (nI (6 * j) + 2 : Int32) = nI (6 * j + 2) from nI_add (6 * j) 2]
      refine va_sld hx hb hX hbl hbA hS (i := nI (6 * j + 2)) (vp_in_nI (by omega) (by omega)) dL_law_360 ?_
      refine lv_aload_n hx hb dL_law_361 rfl (lv_at hl 3 rfl) ?_
      refine lv_iload_n hx hb dL_law_362 rfl (lv_at hl 0 rfl) ?_
      refine lv_iconst (v := 3) hx hb dL_law_363 (by decide) ?_
      refine lv_iadd hx hb dL_law_364 ?_
      rw [show (nI (6 * j) + 3 : Int32) = nI (6 * j + 3) from nI_add (6 * j) 3]
      refine va_sld hx hb hX hbl hbA hS (i := nI (6 * j + 3)) (vp_in_nI (by omega) (by omega)) dL_law_365 ?_
      refine va_calli (va_runV (As := [.int (xs (Int32.toNatClampNeg (nI (6 * j + 1)))), .int (xs (Int32.toNatClampNeg (nI (6 * j + 2)))), .int (xs (Int32.toNatClampNeg (nI (6 * j + 3))))]) (rest := []) ⟨hx, hb, hml, hown, hts⟩ (m_X7_spoil l dC dI x0 q cI cy (ax_ s.heap.size m0 qm) ad rl L n G hN (xs (Int32.toNatClampNeg (nI (6 * j + 1)))) (xs (Int32.toNatClampNeg (nI (6 * j + 2)))) (xs (Int32.toNatClampNeg (nI (6 * j + 3))))) (cwV 3 hts gL_law_X7_spoil rfl rfl rfl (by decide +kernel) ⟨Nat.le_of_ble_eq_true rfl, Nat.le_of_ble_eq_true rfl⟩) (ct_pre hC hK hW0) rfl rfl hl.1 rfl (lv_room (Nat.le_of_ble_eq_true rfl)) dL_law_366 ⟨by show _ ≤ 600000; omega, by show _ ≤ 7302250; omega⟩) hS (fun a _ h => h.1) (fun a h => h.1) (fun rx u st H1 locs ht hvm hw hB hz1 hk1 hS => ?_)
      have hwx : (rx, u) = sX_spoil n G (xs (Int32.toNatClampNeg (nI (6 * j + 1)))) (xs (Int32.toNatClampNeg (nI (6 * j + 2)))) (xs (Int32.toNatClampNeg (nI (6 * j + 3)))) := hw
      have hC2 : cp_ (dC, dI) cI cy x0 q (ax_ s.heap.size m0 qm) ad rl L n u H1 := by rw [← ht]; exact hB
      have hPm := hPm.kept (H1 := H1) (fun k x hx => hk1 x.1 ((hPm k x hx).lt) (fun h => h.2 (ma_at hx)))
      clear ht hvm hw hB hz1 hk1 hC hXs hml2
      refine lv_pop hx hb dL_law_369 rfl ?_
      refine lv_aload_n hx hb dL_law_370 rfl (lv_at hl 1 rfl) ?_
      refine lv_aload_n hx hb dL_law_371 rfl (lv_at hl 3 rfl) ?_
      refine lv_iload_n hx hb dL_law_372 rfl (lv_at hl 0 rfl) ?_
      refine lv_iconst (v := 1) hx hb dL_law_373 (by decide) ?_
      refine lv_iadd hx hb dL_law_374 ?_
      rw [show (nI (6 * j) + 1 : Int32) = nI (6 * j + 1) from nI_add (6 * j) 1]
      refine va_sld hx hb hX hbl hbA hS (i := nI (6 * j + 1)) (vp_in_nI (by omega) (by omega)) dL_law_375 ?_
      refine lv_aload_n hx hb dL_law_376 rfl (lv_at hl 3 rfl) ?_
      refine lv_iload_n hx hb dL_law_377 rfl (lv_at hl 0 rfl) ?_
      refine lv_iconst (v := 2) hx hb dL_law_378 (by decide) ?_
      refine lv_iadd hx hb dL_law_379 ?_
      rw [show (nI (6 * j) + 2 : Int32) = nI (6 * j + 2) from nI_add (6 * j) 2]
      refine va_sld hx hb hX hbl hbA hS (i := nI (6 * j + 2)) (vp_in_nI (by omega) (by omega)) dL_law_380 ?_
      refine lv_aload_n hx hb dL_law_381 rfl (lv_at hl 3 rfl) ?_
      refine lv_iload_n hx hb dL_law_382 rfl (lv_at hl 0 rfl) ?_
      refine lv_iconst (v := 3) hx hb dL_law_383 (by decide) ?_
      refine lv_iadd hx hb dL_law_384 ?_
      rw [show (nI (6 * j) + 3 : Int32) = nI (6 * j + 3) from nI_add (6 * j) 3]
      refine va_sld hx hb hX hbl hbA hS (i := nI (6 * j + 3)) (vp_in_nI (by omega) (by omega)) dL_law_385 ?_
      refine va_calli (va_runV (As := [.int (xs (Int32.toNatClampNeg (nI (6 * j + 1)))), .int (xs (Int32.toNatClampNeg (nI (6 * j + 2)))), .int (xs (Int32.toNatClampNeg (nI (6 * j + 3))))]) (rest := []) ⟨hx, hb, hml, hown, hts⟩ (m_X8_spoil l dC dI m0 qm n cI cZ F hI hN (fun a => a ∈ ma_ m0 qm) hDm (xs (Int32.toNatClampNeg (nI (6 * j + 1)))) (xs (Int32.toNatClampNeg (nI (6 * j + 2)))) (xs (Int32.toNatClampNeg (nI (6 * j + 3))))) (cwV 3 hts gL_law_X8_spoil rfl rfl rfl (by decide +kernel) ⟨Nat.le_of_ble_eq_true rfl, Nat.le_of_ble_eq_true rfl⟩) (pu_pre hPm hKm (ci := 7) (q0 := 0) rfl rfl) rfl rfl hl.1 rfl (lv_room (Nat.le_of_ble_eq_true rfl)) dL_law_386 ⟨by show _ ≤ 600000; omega, by show _ ≤ 7302250; omega⟩) hS (fun a _ h => hMa a h) (fun a h => hMa a h) (fun rm v st3 H3 locs ht hvm hw hB hz1 hk1 hS => ?_)
      obtain ⟨hwm, hDm, hI⟩ := hw
      have hwm : (rm, v) = rM_spoil n F (xs (Int32.toNatClampNeg (nI (6 * j + 1)))) (xs (Int32.toNatClampNeg (nI (6 * j + 2)))) (xs (Int32.toNatClampNeg (nI (6 * j + 3)))) := hwm
      have hPm : va_P (dC, dI) vwCl (mw_ m0 qm n (v 44 0) cI cZ v) H3 := by rw [← ht]; exact hB
      have hDm : va_D (fun a => a ∈ ma_ m0 qm) (mw_ m0 qm n (v 44 0) cI cZ v) := hDm
      have hC := cp_kept (H1 := H3) hC2 (fun a ha hA => hk1 a ha hA.2)
      obtain ⟨q1, q2⟩ := s_spoil hR hN (xs (Int32.toNatClampNeg (nI (6 * j + 1)))) (xs (Int32.toNatClampNeg (nI (6 * j + 2)))) (xs (Int32.toNatClampNeg (nI (6 * j + 3))))
      rw [← hwx, ← hwm] at q1
      rw [← hwx, ← hwm] at q2
      have heq : rx = rm := q1
      have hR : rel_ n u v := q2
      clear ht hvm hB hz1 hk1
      refine lv_pop hx hb dL_law_389 rfl ?_
      refine lv_goto (tgt := 1170) hx hb dL_law_390 (by decide) ?_
      refine W.widen (k := 61 + 5 * (j + 1)) (n := 7067 + 36 * (j + 1)) (by omega) (by omega) ?_
      exact fin L ad rl n u v _ _ ls hC hPm hDm hI hN hR hS hl
    rcases (Decidable.em (z = 7)) with e_7 | e_7
    · refine lv_tableIn (off := 360) (tgt := 393) hx hb dL_law_33 (by rw [e_7]; decide) (by rw [e_7]; decide) (by rw [e_7]; rfl) (by decide) ?_
      refine lv_aload_n hx hb dL_law_393 rfl (lv_at hl 2 rfl) ?_
      refine lv_aload_n hx hb dL_law_394 rfl (lv_at hl 3 rfl) ?_
      refine lv_iload_n hx hb dL_law_395 rfl (lv_at hl 0 rfl) ?_
      refine lv_iconst (v := 1) hx hb dL_law_396 (by decide) ?_
      refine lv_iadd hx hb dL_law_397 ?_
      rw [show (nI (6 * j) + 1 : Int32) = nI (6 * j + 1) from nI_add (6 * j) 1]
      refine va_sld hx hb hX hbl hbA hS (i := nI (6 * j + 1)) (vp_in_nI (by omega) (by omega)) dL_law_398 ?_
      refine va_calli (va_runV (As := [.int (xs (Int32.toNatClampNeg (nI (6 * j + 1))))]) (rest := []) ⟨hx, hb, hml, hown, hts⟩ (m_X7_go l dC dI x0 q cI cy (ax_ s.heap.size m0 qm) ad rl L n G hN (xs (Int32.toNatClampNeg (nI (6 * j + 1))))) (cwV 1 hts gL_law_X7_go rfl rfl rfl (by decide +kernel) ⟨Nat.le_of_ble_eq_true rfl, Nat.le_of_ble_eq_true rfl⟩) (ct_pre hC hK hW0) rfl rfl hl.1 rfl (lv_room (Nat.le_of_ble_eq_true rfl)) dL_law_399 ⟨by show _ ≤ 600000; omega, by show _ ≤ 7302250; omega⟩) hS (fun a _ h => h.1) (fun a h => h.1) (fun rx u st H1 locs ht hvm hw hB hz1 hk1 hS => ?_)
      obtain ⟨n2, G2⟩ := u
      have hwx : (rx, n2, G2) = sX_go n G (xs (Int32.toNatClampNeg (nI (6 * j + 1)))) := hw.1
      have hC2 : cp_ (dC, dI) cI cy x0 q (ax_ s.heap.size m0 qm) ad rl L n2 G2 H1 := by rw [← ht]; exact hB
      have hPm := hPm.kept (H1 := H1) (fun k x hx => hk1 x.1 ((hPm k x hx).lt) (fun h => h.2 (ma_at hx)))
      clear ht hvm hw hB hz1 hk1 hC hXs hml2
      refine lv_pop hx hb dL_law_402 rfl ?_
      refine lv_aload_n hx hb dL_law_403 rfl (lv_at hl 1 rfl) ?_
      refine lv_aload_n hx hb dL_law_404 rfl (lv_at hl 3 rfl) ?_
      refine lv_iload_n hx hb dL_law_405 rfl (lv_at hl 0 rfl) ?_
      refine lv_iconst (v := 1) hx hb dL_law_406 (by decide) ?_
      refine lv_iadd hx hb dL_law_407 ?_
      rw [show (nI (6 * j) + 1 : Int32) = nI (6 * j + 1) from nI_add (6 * j) 1]
      refine va_sld hx hb hX hbl hbA hS (i := nI (6 * j + 1)) (vp_in_nI (by omega) (by omega)) dL_law_408 ?_
      refine va_calli (va_runV (As := [.int (xs (Int32.toNatClampNeg (nI (6 * j + 1))))]) (rest := []) ⟨hx, hb, hml, hown, hts⟩ (m_X8_go l dC dI m0 qm n cI cZ F hI hN (fun a => a ∈ ma_ m0 qm) hDm (xs (Int32.toNatClampNeg (nI (6 * j + 1))))) (cwV 1 hts gL_law_X8_go rfl rfl rfl (by decide +kernel) ⟨Nat.le_of_ble_eq_true rfl, Nat.le_of_ble_eq_true rfl⟩) (pu_pre hPm hKm (ci := 7) (q0 := 0) rfl rfl) rfl rfl hl.1 rfl (lv_room (Nat.le_of_ble_eq_true rfl)) dL_law_409 ⟨by show _ ≤ 600000; omega, by show _ ≤ 7302250; omega⟩) hS (fun a _ h => hMa a h) (fun a h => hMa a h) (fun rm v st3 H3 locs ht hvm hw hB hz1 hk1 hS => ?_)
      obtain ⟨n3, F3⟩ := v
      obtain ⟨hwm, hDm, hI, hN3⟩ := hw
      have hwm : (rm, n3, F3) = rM_go n F (xs (Int32.toNatClampNeg (nI (6 * j + 1)))) := hwm
      have hPm : va_P (dC, dI) vwCl (mw_ m0 qm n3 (F3 44 0) cI cZ F3) H3 := by rw [← ht]; exact hB
      have hDm : va_D (fun a => a ∈ ma_ m0 qm) (mw_ m0 qm n3 (F3 44 0) cI cZ F3) := hDm
      have hC := cp_kept (H1 := H3) hC2 (fun a ha hA => hk1 a ha hA.2)
      obtain ⟨q1, q3, q2⟩ := s_go hR hN (xs (Int32.toNatClampNeg (nI (6 * j + 1))))
      rw [← hwx, ← hwm] at q1 q3
      rw [← hwx, ← hwm] at q2
      have heq : rx = rm := q1
      have q3 : n2 = n3 := q3
      have hR : rel_ n2 G2 F3 := q2
      subst q3
      have hN : nb_ n2 := hN3
      clear ht hvm hB hz1 hk1
      refine lv_pop hx hb dL_law_412 rfl ?_
      refine lv_goto (tgt := 1170) hx hb dL_law_413 (by decide) ?_
      refine W.widen (k := 61 + 5 * (j + 1)) (n := 7067 + 36 * (j + 1)) (by omega) (by omega) ?_
      exact fin L ad rl n2 G2 F3 _ _ ls hC hPm hDm hI hN hR hS hl
    rcases (Decidable.em (z = 8)) with e_8 | e_8
    · refine lv_tableIn (off := 383) (tgt := 416) hx hb dL_law_33 (by rw [e_8]; decide) (by rw [e_8]; decide) (by rw [e_8]; rfl) (by decide) ?_
      refine lv_aload_n hx hb dL_law_416 rfl (lv_at hl 2 rfl) ?_
      refine lv_aload_n hx hb dL_law_417 rfl (lv_at hl 3 rfl) ?_
      refine lv_iload_n hx hb dL_law_418 rfl (lv_at hl 0 rfl) ?_
      refine lv_iconst (v := 1) hx hb dL_law_419 (by decide) ?_
      refine lv_iadd hx hb dL_law_420 ?_
      rw [show (nI (6 * j) + 1 : Int32) = nI (6 * j + 1) from nI_add (6 * j) 1]
      refine va_sld hx hb hX hbl hbA hS (i := nI (6 * j + 1)) (vp_in_nI (by omega) (by omega)) dL_law_421 ?_
      refine lv_aload_n hx hb dL_law_422 rfl (lv_at hl 3 rfl) ?_
      refine lv_iload_n hx hb dL_law_423 rfl (lv_at hl 0 rfl) ?_
      refine lv_iconst (v := 2) hx hb dL_law_424 (by decide) ?_
      refine lv_iadd hx hb dL_law_425 ?_
      rw [show (nI (6 * j) + 2 : Int32) = nI (6 * j + 2) from nI_add (6 * j) 2]
      refine va_sld hx hb hX hbl hbA hS (i := nI (6 * j + 2)) (vp_in_nI (by omega) (by omega)) dL_law_426 ?_
      refine lv_aload_n hx hb dL_law_427 rfl (lv_at hl 3 rfl) ?_
      refine lv_iload_n hx hb dL_law_428 rfl (lv_at hl 0 rfl) ?_
      refine lv_iconst (v := 3) hx hb dL_law_429 (by decide) ?_
      refine lv_iadd hx hb dL_law_430 ?_
      rw [show (nI (6 * j) + 3 : Int32) = nI (6 * j + 3) from nI_add (6 * j) 3]
      refine va_sld hx hb hX hbl hbA hS (i := nI (6 * j + 3)) (vp_in_nI (by omega) (by omega)) dL_law_431 ?_
      refine lv_aload_n hx hb dL_law_432 rfl (lv_at hl 3 rfl) ?_
      refine lv_iload_n hx hb dL_law_433 rfl (lv_at hl 0 rfl) ?_
      refine lv_iconst (v := 4) hx hb dL_law_434 (by decide) ?_
      refine lv_iadd hx hb dL_law_435 ?_
      rw [show (nI (6 * j) + 4 : Int32) = nI (6 * j + 4) from nI_add (6 * j) 4]
      refine va_sld hx hb hX hbl hbA hS (i := nI (6 * j + 4)) (vp_in_nI (by omega) (by omega)) dL_law_436 ?_
      refine va_calli (va_runV (As := [.int (xs (Int32.toNatClampNeg (nI (6 * j + 1)))), .int (xs (Int32.toNatClampNeg (nI (6 * j + 2)))), .int (xs (Int32.toNatClampNeg (nI (6 * j + 3)))), .int (xs (Int32.toNatClampNeg (nI (6 * j + 4))))]) (rest := []) ⟨hx, hb, hml, hown, hts⟩ (m_X7_sell l dC dI x0 q cI cy (ax_ s.heap.size m0 qm) ad rl L n G hN (xs (Int32.toNatClampNeg (nI (6 * j + 1)))) (xs (Int32.toNatClampNeg (nI (6 * j + 2)))) (xs (Int32.toNatClampNeg (nI (6 * j + 3)))) (xs (Int32.toNatClampNeg (nI (6 * j + 4))))) (cwV 4 hts gL_law_X7_sell rfl rfl rfl (by decide +kernel) ⟨Nat.le_of_ble_eq_true rfl, Nat.le_of_ble_eq_true rfl⟩) (ct_pre hC hK hW0) rfl rfl hl.1 rfl (lv_room (Nat.le_of_ble_eq_true rfl)) dL_law_437 ⟨by show _ ≤ 600000; omega, by show _ ≤ 7302250; omega⟩) hS (fun a _ h => h.1) (fun a h => h.1) (fun rx u st H1 locs ht hvm hw hB hz1 hk1 hS => ?_)
      have hwx : (rx, u) = sX_sell n G (xs (Int32.toNatClampNeg (nI (6 * j + 1)))) (xs (Int32.toNatClampNeg (nI (6 * j + 2)))) (xs (Int32.toNatClampNeg (nI (6 * j + 3)))) (xs (Int32.toNatClampNeg (nI (6 * j + 4)))) := hw
      have hC2 : cp_ (dC, dI) cI cy x0 q (ax_ s.heap.size m0 qm) ad rl L n u H1 := by rw [← ht]; exact hB
      have hPm := hPm.kept (H1 := H1) (fun k x hx => hk1 x.1 ((hPm k x hx).lt) (fun h => h.2 (ma_at hx)))
      clear ht hvm hw hB hz1 hk1 hC hXs hml2
      refine lv_pop hx hb dL_law_440 rfl ?_
      refine lv_aload_n hx hb dL_law_441 rfl (lv_at hl 1 rfl) ?_
      refine lv_aload_n hx hb dL_law_442 rfl (lv_at hl 3 rfl) ?_
      refine lv_iload_n hx hb dL_law_443 rfl (lv_at hl 0 rfl) ?_
      refine lv_iconst (v := 1) hx hb dL_law_444 (by decide) ?_
      refine lv_iadd hx hb dL_law_445 ?_
      rw [show (nI (6 * j) + 1 : Int32) = nI (6 * j + 1) from nI_add (6 * j) 1]
      refine va_sld hx hb hX hbl hbA hS (i := nI (6 * j + 1)) (vp_in_nI (by omega) (by omega)) dL_law_446 ?_
      refine lv_aload_n hx hb dL_law_447 rfl (lv_at hl 3 rfl) ?_
      refine lv_iload_n hx hb dL_law_448 rfl (lv_at hl 0 rfl) ?_
      refine lv_iconst (v := 2) hx hb dL_law_449 (by decide) ?_
      refine lv_iadd hx hb dL_law_450 ?_
      rw [show (nI (6 * j) + 2 : Int32) = nI (6 * j + 2) from nI_add (6 * j) 2]
      refine va_sld hx hb hX hbl hbA hS (i := nI (6 * j + 2)) (vp_in_nI (by omega) (by omega)) dL_law_451 ?_
      refine lv_aload_n hx hb dL_law_452 rfl (lv_at hl 3 rfl) ?_
      refine lv_iload_n hx hb dL_law_453 rfl (lv_at hl 0 rfl) ?_
      refine lv_iconst (v := 3) hx hb dL_law_454 (by decide) ?_
      refine lv_iadd hx hb dL_law_455 ?_
      rw [show (nI (6 * j) + 3 : Int32) = nI (6 * j + 3) from nI_add (6 * j) 3]
      refine va_sld hx hb hX hbl hbA hS (i := nI (6 * j + 3)) (vp_in_nI (by omega) (by omega)) dL_law_456 ?_
      refine lv_aload_n hx hb dL_law_457 rfl (lv_at hl 3 rfl) ?_
      refine lv_iload_n hx hb dL_law_458 rfl (lv_at hl 0 rfl) ?_
      refine lv_iconst (v := 4) hx hb dL_law_459 (by decide) ?_
      refine lv_iadd hx hb dL_law_460 ?_
      rw [show (nI (6 * j) + 4 : Int32) = nI (6 * j + 4) from nI_add (6 * j) 4]
      refine va_sld hx hb hX hbl hbA hS (i := nI (6 * j + 4)) (vp_in_nI (by omega) (by omega)) dL_law_461 ?_
      refine va_calli (va_runV (As := [.int (xs (Int32.toNatClampNeg (nI (6 * j + 1)))), .int (xs (Int32.toNatClampNeg (nI (6 * j + 2)))), .int (xs (Int32.toNatClampNeg (nI (6 * j + 3)))), .int (xs (Int32.toNatClampNeg (nI (6 * j + 4))))]) (rest := []) ⟨hx, hb, hml, hown, hts⟩ (m_X8_sell l dC dI m0 qm n cI cZ F hI hN (fun a => a ∈ ma_ m0 qm) hDm (xs (Int32.toNatClampNeg (nI (6 * j + 1)))) (xs (Int32.toNatClampNeg (nI (6 * j + 2)))) (xs (Int32.toNatClampNeg (nI (6 * j + 3)))) (xs (Int32.toNatClampNeg (nI (6 * j + 4))))) (cwV 4 hts gL_law_X8_sell rfl rfl rfl (by decide +kernel) ⟨Nat.le_of_ble_eq_true rfl, Nat.le_of_ble_eq_true rfl⟩) (pu_pre hPm hKm (ci := 7) (q0 := 0) rfl rfl) rfl rfl hl.1 rfl (lv_room (Nat.le_of_ble_eq_true rfl)) dL_law_462 ⟨by show _ ≤ 600000; omega, by show _ ≤ 7302250; omega⟩) hS (fun a _ h => hMa a h) (fun a h => hMa a h) (fun rm v st3 H3 locs ht hvm hw hB hz1 hk1 hS => ?_)
      obtain ⟨hwm, hDm, hI⟩ := hw
      have hwm : (rm, v) = rM_sell n F (xs (Int32.toNatClampNeg (nI (6 * j + 1)))) (xs (Int32.toNatClampNeg (nI (6 * j + 2)))) (xs (Int32.toNatClampNeg (nI (6 * j + 3)))) (xs (Int32.toNatClampNeg (nI (6 * j + 4)))) := hwm
      have hPm : va_P (dC, dI) vwCl (mw_ m0 qm n (v 44 0) cI cZ v) H3 := by rw [← ht]; exact hB
      have hDm : va_D (fun a => a ∈ ma_ m0 qm) (mw_ m0 qm n (v 44 0) cI cZ v) := hDm
      have hC := cp_kept (H1 := H3) hC2 (fun a ha hA => hk1 a ha hA.2)
      obtain ⟨q1, q2⟩ := s_sell hR hN (xs (Int32.toNatClampNeg (nI (6 * j + 1)))) (xs (Int32.toNatClampNeg (nI (6 * j + 2)))) (xs (Int32.toNatClampNeg (nI (6 * j + 3)))) (xs (Int32.toNatClampNeg (nI (6 * j + 4))))
      rw [← hwx, ← hwm] at q1
      rw [← hwx, ← hwm] at q2
      have heq : rx = rm := q1
      have hR : rel_ n u v := q2
      clear ht hvm hB hz1 hk1
      refine lv_pop hx hb dL_law_465 rfl ?_
      refine lv_goto (tgt := 1170) hx hb dL_law_466 (by decide) ?_
      refine W.widen (k := 61 + 5 * (j + 1)) (n := 7067 + 36 * (j + 1)) (by omega) (by omega) ?_
      exact fin L ad rl n u v _ _ ls hC hPm hDm hI hN hR hS hl
    rcases (Decidable.em (z = 9)) with e_9 | e_9
    · refine lv_tableIn (off := 436) (tgt := 469) hx hb dL_law_33 (by rw [e_9]; decide) (by rw [e_9]; decide) (by rw [e_9]; rfl) (by decide) ?_
      refine lv_aload_n hx hb dL_law_469 rfl (lv_at hl 2 rfl) ?_
      refine lv_aload_n hx hb dL_law_470 rfl (lv_at hl 3 rfl) ?_
      refine lv_iload_n hx hb dL_law_471 rfl (lv_at hl 0 rfl) ?_
      refine lv_iconst (v := 1) hx hb dL_law_472 (by decide) ?_
      refine lv_iadd hx hb dL_law_473 ?_
      rw [show (nI (6 * j) + 1 : Int32) = nI (6 * j + 1) from nI_add (6 * j) 1]
      refine va_sld hx hb hX hbl hbA hS (i := nI (6 * j + 1)) (vp_in_nI (by omega) (by omega)) dL_law_474 ?_
      refine lv_aload_n hx hb dL_law_475 rfl (lv_at hl 3 rfl) ?_
      refine lv_iload_n hx hb dL_law_476 rfl (lv_at hl 0 rfl) ?_
      refine lv_iconst (v := 2) hx hb dL_law_477 (by decide) ?_
      refine lv_iadd hx hb dL_law_478 ?_
      rw [show (nI (6 * j) + 2 : Int32) = nI (6 * j + 2) from nI_add (6 * j) 2]
      refine va_sld hx hb hX hbl hbA hS (i := nI (6 * j + 2)) (vp_in_nI (by omega) (by omega)) dL_law_479 ?_
      refine lv_aload_n hx hb dL_law_480 rfl (lv_at hl 3 rfl) ?_
      refine lv_iload_n hx hb dL_law_481 rfl (lv_at hl 0 rfl) ?_
      refine lv_iconst (v := 3) hx hb dL_law_482 (by decide) ?_
      refine lv_iadd hx hb dL_law_483 ?_
      rw [show (nI (6 * j) + 3 : Int32) = nI (6 * j + 3) from nI_add (6 * j) 3]
      refine va_sld hx hb hX hbl hbA hS (i := nI (6 * j + 3)) (vp_in_nI (by omega) (by omega)) dL_law_484 ?_
      refine lv_aload_n hx hb dL_law_485 rfl (lv_at hl 3 rfl) ?_
      refine lv_iload_n hx hb dL_law_486 rfl (lv_at hl 0 rfl) ?_
      refine lv_iconst (v := 4) hx hb dL_law_487 (by decide) ?_
      refine lv_iadd hx hb dL_law_488 ?_
      rw [show (nI (6 * j) + 4 : Int32) = nI (6 * j + 4) from nI_add (6 * j) 4]
      refine va_sld hx hb hX hbl hbA hS (i := nI (6 * j + 4)) (vp_in_nI (by omega) (by omega)) dL_law_489 ?_
      refine va_calli (va_runV (As := [.int (xs (Int32.toNatClampNeg (nI (6 * j + 1)))), .int (xs (Int32.toNatClampNeg (nI (6 * j + 2)))), .int (xs (Int32.toNatClampNeg (nI (6 * j + 3)))), .int (xs (Int32.toNatClampNeg (nI (6 * j + 4))))]) (rest := []) ⟨hx, hb, hml, hown, hts⟩ (m_X7_buy l dC dI x0 q cI cy (ax_ s.heap.size m0 qm) ad rl L n G hN (xs (Int32.toNatClampNeg (nI (6 * j + 1)))) (xs (Int32.toNatClampNeg (nI (6 * j + 2)))) (xs (Int32.toNatClampNeg (nI (6 * j + 3)))) (xs (Int32.toNatClampNeg (nI (6 * j + 4))))) (cwV 4 hts gL_law_X7_buy rfl rfl rfl (by decide +kernel) ⟨Nat.le_of_ble_eq_true rfl, Nat.le_of_ble_eq_true rfl⟩) (ct_pre hC hK hW0) rfl rfl hl.1 rfl (lv_room (Nat.le_of_ble_eq_true rfl)) dL_law_490 ⟨by show _ ≤ 600000; omega, by show _ ≤ 7302250; omega⟩) hS (fun a _ h => h.1) (fun a h => h.1) (fun rx u st H1 locs ht hvm hw hB hz1 hk1 hS => ?_)
      have hwx : (rx, u) = sX_buy n G (xs (Int32.toNatClampNeg (nI (6 * j + 1)))) (xs (Int32.toNatClampNeg (nI (6 * j + 2)))) (xs (Int32.toNatClampNeg (nI (6 * j + 3)))) (xs (Int32.toNatClampNeg (nI (6 * j + 4)))) := hw
      have hC2 : cp_ (dC, dI) cI cy x0 q (ax_ s.heap.size m0 qm) ad rl L n u H1 := by rw [← ht]; exact hB
      have hPm := hPm.kept (H1 := H1) (fun k x hx => hk1 x.1 ((hPm k x hx).lt) (fun h => h.2 (ma_at hx)))
      clear ht hvm hw hB hz1 hk1 hC hXs hml2
      refine lv_pop hx hb dL_law_493 rfl ?_
      refine lv_aload_n hx hb dL_law_494 rfl (lv_at hl 1 rfl) ?_
      refine lv_aload_n hx hb dL_law_495 rfl (lv_at hl 3 rfl) ?_
      refine lv_iload_n hx hb dL_law_496 rfl (lv_at hl 0 rfl) ?_
      refine lv_iconst (v := 1) hx hb dL_law_497 (by decide) ?_
      refine lv_iadd hx hb dL_law_498 ?_
      rw [show (nI (6 * j) + 1 : Int32) = nI (6 * j + 1) from nI_add (6 * j) 1]
      refine va_sld hx hb hX hbl hbA hS (i := nI (6 * j + 1)) (vp_in_nI (by omega) (by omega)) dL_law_499 ?_
      refine lv_aload_n hx hb dL_law_500 rfl (lv_at hl 3 rfl) ?_
      refine lv_iload_n hx hb dL_law_501 rfl (lv_at hl 0 rfl) ?_
      refine lv_iconst (v := 2) hx hb dL_law_502 (by decide) ?_
      refine lv_iadd hx hb dL_law_503 ?_
      rw [show (nI (6 * j) + 2 : Int32) = nI (6 * j + 2) from nI_add (6 * j) 2]
      refine va_sld hx hb hX hbl hbA hS (i := nI (6 * j + 2)) (vp_in_nI (by omega) (by omega)) dL_law_504 ?_
      refine lv_aload_n hx hb dL_law_505 rfl (lv_at hl 3 rfl) ?_
      refine lv_iload_n hx hb dL_law_506 rfl (lv_at hl 0 rfl) ?_
      refine lv_iconst (v := 3) hx hb dL_law_507 (by decide) ?_
      refine lv_iadd hx hb dL_law_508 ?_
      rw [show (nI (6 * j) + 3 : Int32) = nI (6 * j + 3) from nI_add (6 * j) 3]
      refine va_sld hx hb hX hbl hbA hS (i := nI (6 * j + 3)) (vp_in_nI (by omega) (by omega)) dL_law_509 ?_
      refine lv_aload_n hx hb dL_law_510 rfl (lv_at hl 3 rfl) ?_
      refine lv_iload_n hx hb dL_law_511 rfl (lv_at hl 0 rfl) ?_
      refine lv_iconst (v := 4) hx hb dL_law_512 (by decide) ?_
      refine lv_iadd hx hb dL_law_513 ?_
      rw [show (nI (6 * j) + 4 : Int32) = nI (6 * j + 4) from nI_add (6 * j) 4]
      refine va_sld hx hb hX hbl hbA hS (i := nI (6 * j + 4)) (vp_in_nI (by omega) (by omega)) dL_law_514 ?_
      refine va_calli (va_runV (As := [.int (xs (Int32.toNatClampNeg (nI (6 * j + 1)))), .int (xs (Int32.toNatClampNeg (nI (6 * j + 2)))), .int (xs (Int32.toNatClampNeg (nI (6 * j + 3)))), .int (xs (Int32.toNatClampNeg (nI (6 * j + 4))))]) (rest := []) ⟨hx, hb, hml, hown, hts⟩ (m_X8_buy l dC dI m0 qm n cI cZ F hI hN (fun a => a ∈ ma_ m0 qm) hDm (xs (Int32.toNatClampNeg (nI (6 * j + 1)))) (xs (Int32.toNatClampNeg (nI (6 * j + 2)))) (xs (Int32.toNatClampNeg (nI (6 * j + 3)))) (xs (Int32.toNatClampNeg (nI (6 * j + 4))))) (cwV 4 hts gL_law_X8_buy rfl rfl rfl (by decide +kernel) ⟨Nat.le_of_ble_eq_true rfl, Nat.le_of_ble_eq_true rfl⟩) (pu_pre hPm hKm (ci := 7) (q0 := 0) rfl rfl) rfl rfl hl.1 rfl (lv_room (Nat.le_of_ble_eq_true rfl)) dL_law_515 ⟨by show _ ≤ 600000; omega, by show _ ≤ 7302250; omega⟩) hS (fun a _ h => hMa a h) (fun a h => hMa a h) (fun rm v st3 H3 locs ht hvm hw hB hz1 hk1 hS => ?_)
      obtain ⟨hwm, hDm, hI⟩ := hw
      have hwm : (rm, v) = rM_buy n F (xs (Int32.toNatClampNeg (nI (6 * j + 1)))) (xs (Int32.toNatClampNeg (nI (6 * j + 2)))) (xs (Int32.toNatClampNeg (nI (6 * j + 3)))) (xs (Int32.toNatClampNeg (nI (6 * j + 4)))) := hwm
      have hPm : va_P (dC, dI) vwCl (mw_ m0 qm n (v 44 0) cI cZ v) H3 := by rw [← ht]; exact hB
      have hDm : va_D (fun a => a ∈ ma_ m0 qm) (mw_ m0 qm n (v 44 0) cI cZ v) := hDm
      have hC := cp_kept (H1 := H3) hC2 (fun a ha hA => hk1 a ha hA.2)
      obtain ⟨q1, q2⟩ := s_buy hR hN (xs (Int32.toNatClampNeg (nI (6 * j + 1)))) (xs (Int32.toNatClampNeg (nI (6 * j + 2)))) (xs (Int32.toNatClampNeg (nI (6 * j + 3)))) (xs (Int32.toNatClampNeg (nI (6 * j + 4))))
      rw [← hwx, ← hwm] at q1
      rw [← hwx, ← hwm] at q2
      have heq : rx = rm := q1
      have hR : rel_ n u v := q2
      clear ht hvm hB hz1 hk1
      refine lv_pop hx hb dL_law_518 rfl ?_
      refine lv_goto (tgt := 1170) hx hb dL_law_519 (by decide) ?_
      refine W.widen (k := 61 + 5 * (j + 1)) (n := 7067 + 36 * (j + 1)) (by omega) (by omega) ?_
      exact fin L ad rl n u v _ _ ls hC hPm hDm hI hN hR hS hl
    rcases (Decidable.em (z = 10)) with e_10 | e_10
    · refine lv_tableIn (off := 489) (tgt := 522) hx hb dL_law_33 (by rw [e_10]; decide) (by rw [e_10]; decide) (by rw [e_10]; rfl) (by decide) ?_
      refine lv_aload_n hx hb dL_law_522 rfl (lv_at hl 2 rfl) ?_
      refine lv_aload_n hx hb dL_law_523 rfl (lv_at hl 3 rfl) ?_
      refine lv_iload_n hx hb dL_law_524 rfl (lv_at hl 0 rfl) ?_
      refine lv_iconst (v := 1) hx hb dL_law_525 (by decide) ?_
      refine lv_iadd hx hb dL_law_526 ?_
      rw [show (nI (6 * j) + 1 : Int32) = nI (6 * j + 1) from nI_add (6 * j) 1]
      refine va_sld hx hb hX hbl hbA hS (i := nI (6 * j + 1)) (vp_in_nI (by omega) (by omega)) dL_law_527 ?_
      refine lv_aload_n hx hb dL_law_528 rfl (lv_at hl 3 rfl) ?_
      refine lv_iload_n hx hb dL_law_529 rfl (lv_at hl 0 rfl) ?_
      refine lv_iconst (v := 2) hx hb dL_law_530 (by decide) ?_
      refine lv_iadd hx hb dL_law_531 ?_
      rw [show (nI (6 * j) + 2 : Int32) = nI (6 * j + 2) from nI_add (6 * j) 2]
      refine va_sld hx hb hX hbl hbA hS (i := nI (6 * j + 2)) (vp_in_nI (by omega) (by omega)) dL_law_532 ?_
      refine lv_aload_n hx hb dL_law_533 rfl (lv_at hl 3 rfl) ?_
      refine lv_iload_n hx hb dL_law_534 rfl (lv_at hl 0 rfl) ?_
      refine lv_iconst (v := 3) hx hb dL_law_535 (by decide) ?_
      refine lv_iadd hx hb dL_law_536 ?_
      rw [show (nI (6 * j) + 3 : Int32) = nI (6 * j + 3) from nI_add (6 * j) 3]
      refine va_sld hx hb hX hbl hbA hS (i := nI (6 * j + 3)) (vp_in_nI (by omega) (by omega)) dL_law_537 ?_
      refine lv_aload_n hx hb dL_law_538 rfl (lv_at hl 3 rfl) ?_
      refine lv_iload_n hx hb dL_law_539 rfl (lv_at hl 0 rfl) ?_
      refine lv_iconst (v := 4) hx hb dL_law_540 (by decide) ?_
      refine lv_iadd hx hb dL_law_541 ?_
      rw [show (nI (6 * j) + 4 : Int32) = nI (6 * j + 4) from nI_add (6 * j) 4]
      refine va_sld hx hb hX hbl hbA hS (i := nI (6 * j + 4)) (vp_in_nI (by omega) (by omega)) dL_law_542 ?_
      refine va_calli (va_runV (As := [.int (xs (Int32.toNatClampNeg (nI (6 * j + 1)))), .int (xs (Int32.toNatClampNeg (nI (6 * j + 2)))), .int (xs (Int32.toNatClampNeg (nI (6 * j + 3)))), .int (xs (Int32.toNatClampNeg (nI (6 * j + 4))))]) (rest := []) ⟨hx, hb, hml, hown, hts⟩ (m_X7_give l dC dI x0 q cI cy (ax_ s.heap.size m0 qm) ad rl L n G hN (xs (Int32.toNatClampNeg (nI (6 * j + 1)))) (xs (Int32.toNatClampNeg (nI (6 * j + 2)))) (xs (Int32.toNatClampNeg (nI (6 * j + 3)))) (xs (Int32.toNatClampNeg (nI (6 * j + 4))))) (cwV 4 hts gL_law_X7_give rfl rfl rfl (by decide +kernel) ⟨Nat.le_of_ble_eq_true rfl, Nat.le_of_ble_eq_true rfl⟩) (ct_pre hC hK hW0) rfl rfl hl.1 rfl (lv_room (Nat.le_of_ble_eq_true rfl)) dL_law_543 ⟨by show _ ≤ 600000; omega, by show _ ≤ 7302250; omega⟩) hS (fun a _ h => h.1) (fun a h => h.1) (fun rx u st H1 locs ht hvm hw hB hz1 hk1 hS => ?_)
      have hwx : (rx, u) = sX_give n G (xs (Int32.toNatClampNeg (nI (6 * j + 1)))) (xs (Int32.toNatClampNeg (nI (6 * j + 2)))) (xs (Int32.toNatClampNeg (nI (6 * j + 3)))) (xs (Int32.toNatClampNeg (nI (6 * j + 4)))) := hw
      have hC2 : cp_ (dC, dI) cI cy x0 q (ax_ s.heap.size m0 qm) ad rl L n u H1 := by rw [← ht]; exact hB
      have hPm := hPm.kept (H1 := H1) (fun k x hx => hk1 x.1 ((hPm k x hx).lt) (fun h => h.2 (ma_at hx)))
      clear ht hvm hw hB hz1 hk1 hC hXs hml2
      refine lv_pop hx hb dL_law_546 rfl ?_
      refine lv_aload_n hx hb dL_law_547 rfl (lv_at hl 1 rfl) ?_
      refine lv_aload_n hx hb dL_law_548 rfl (lv_at hl 3 rfl) ?_
      refine lv_iload_n hx hb dL_law_549 rfl (lv_at hl 0 rfl) ?_
      refine lv_iconst (v := 1) hx hb dL_law_550 (by decide) ?_
      refine lv_iadd hx hb dL_law_551 ?_
      rw [show (nI (6 * j) + 1 : Int32) = nI (6 * j + 1) from nI_add (6 * j) 1]
      refine va_sld hx hb hX hbl hbA hS (i := nI (6 * j + 1)) (vp_in_nI (by omega) (by omega)) dL_law_552 ?_
      refine lv_aload_n hx hb dL_law_553 rfl (lv_at hl 3 rfl) ?_
      refine lv_iload_n hx hb dL_law_554 rfl (lv_at hl 0 rfl) ?_
      refine lv_iconst (v := 2) hx hb dL_law_555 (by decide) ?_
      refine lv_iadd hx hb dL_law_556 ?_
      rw [show (nI (6 * j) + 2 : Int32) = nI (6 * j + 2) from nI_add (6 * j) 2]
      refine va_sld hx hb hX hbl hbA hS (i := nI (6 * j + 2)) (vp_in_nI (by omega) (by omega)) dL_law_557 ?_
      refine lv_aload_n hx hb dL_law_558 rfl (lv_at hl 3 rfl) ?_
      refine lv_iload_n hx hb dL_law_559 rfl (lv_at hl 0 rfl) ?_
      refine lv_iconst (v := 3) hx hb dL_law_560 (by decide) ?_
      refine lv_iadd hx hb dL_law_561 ?_
      rw [show (nI (6 * j) + 3 : Int32) = nI (6 * j + 3) from nI_add (6 * j) 3]
      refine va_sld hx hb hX hbl hbA hS (i := nI (6 * j + 3)) (vp_in_nI (by omega) (by omega)) dL_law_562 ?_
      refine lv_aload_n hx hb dL_law_563 rfl (lv_at hl 3 rfl) ?_
      refine lv_iload_n hx hb dL_law_564 rfl (lv_at hl 0 rfl) ?_
      refine lv_iconst (v := 4) hx hb dL_law_565 (by decide) ?_
      refine lv_iadd hx hb dL_law_566 ?_
      rw [show (nI (6 * j) + 4 : Int32) = nI (6 * j + 4) from nI_add (6 * j) 4]
      refine va_sld hx hb hX hbl hbA hS (i := nI (6 * j + 4)) (vp_in_nI (by omega) (by omega)) dL_law_567 ?_
      refine va_calli (va_runV (As := [.int (xs (Int32.toNatClampNeg (nI (6 * j + 1)))), .int (xs (Int32.toNatClampNeg (nI (6 * j + 2)))), .int (xs (Int32.toNatClampNeg (nI (6 * j + 3)))), .int (xs (Int32.toNatClampNeg (nI (6 * j + 4))))]) (rest := []) ⟨hx, hb, hml, hown, hts⟩ (m_X8_give l dC dI m0 qm n cI cZ F hI hN (fun a => a ∈ ma_ m0 qm) hDm (xs (Int32.toNatClampNeg (nI (6 * j + 1)))) (xs (Int32.toNatClampNeg (nI (6 * j + 2)))) (xs (Int32.toNatClampNeg (nI (6 * j + 3)))) (xs (Int32.toNatClampNeg (nI (6 * j + 4))))) (cwV 4 hts gL_law_X8_give rfl rfl rfl (by decide +kernel) ⟨Nat.le_of_ble_eq_true rfl, Nat.le_of_ble_eq_true rfl⟩) (pu_pre hPm hKm (ci := 7) (q0 := 0) rfl rfl) rfl rfl hl.1 rfl (lv_room (Nat.le_of_ble_eq_true rfl)) dL_law_568 ⟨by show _ ≤ 600000; omega, by show _ ≤ 7302250; omega⟩) hS (fun a _ h => hMa a h) (fun a h => hMa a h) (fun rm v st3 H3 locs ht hvm hw hB hz1 hk1 hS => ?_)
      obtain ⟨hwm, hDm, hI⟩ := hw
      have hwm : (rm, v) = rM_give n F (xs (Int32.toNatClampNeg (nI (6 * j + 1)))) (xs (Int32.toNatClampNeg (nI (6 * j + 2)))) (xs (Int32.toNatClampNeg (nI (6 * j + 3)))) (xs (Int32.toNatClampNeg (nI (6 * j + 4)))) := hwm
      have hPm : va_P (dC, dI) vwCl (mw_ m0 qm n (v 44 0) cI cZ v) H3 := by rw [← ht]; exact hB
      have hDm : va_D (fun a => a ∈ ma_ m0 qm) (mw_ m0 qm n (v 44 0) cI cZ v) := hDm
      have hC := cp_kept (H1 := H3) hC2 (fun a ha hA => hk1 a ha hA.2)
      obtain ⟨q1, q2⟩ := s_give hR hN (xs (Int32.toNatClampNeg (nI (6 * j + 1)))) (xs (Int32.toNatClampNeg (nI (6 * j + 2)))) (xs (Int32.toNatClampNeg (nI (6 * j + 3)))) (xs (Int32.toNatClampNeg (nI (6 * j + 4))))
      rw [← hwx, ← hwm] at q1
      rw [← hwx, ← hwm] at q2
      have heq : rx = rm := q1
      have hR : rel_ n u v := q2
      clear ht hvm hB hz1 hk1
      refine lv_pop hx hb dL_law_571 rfl ?_
      refine lv_goto (tgt := 1170) hx hb dL_law_572 (by decide) ?_
      refine W.widen (k := 61 + 5 * (j + 1)) (n := 7067 + 36 * (j + 1)) (by omega) (by omega) ?_
      exact fin L ad rl n u v _ _ ls hC hPm hDm hI hN hR hS hl
    rcases (Decidable.em (z = 11)) with e_11 | e_11
    · refine lv_tableIn (off := 542) (tgt := 575) hx hb dL_law_33 (by rw [e_11]; decide) (by rw [e_11]; decide) (by rw [e_11]; rfl) (by decide) ?_
      refine lv_aload_n hx hb dL_law_575 rfl (lv_at hl 2 rfl) ?_
      refine lv_aload_n hx hb dL_law_576 rfl (lv_at hl 3 rfl) ?_
      refine lv_iload_n hx hb dL_law_577 rfl (lv_at hl 0 rfl) ?_
      refine lv_iconst (v := 1) hx hb dL_law_578 (by decide) ?_
      refine lv_iadd hx hb dL_law_579 ?_
      rw [show (nI (6 * j) + 1 : Int32) = nI (6 * j + 1) from nI_add (6 * j) 1]
      refine va_sld hx hb hX hbl hbA hS (i := nI (6 * j + 1)) (vp_in_nI (by omega) (by omega)) dL_law_580 ?_
      refine lv_aload_n hx hb dL_law_581 rfl (lv_at hl 3 rfl) ?_
      refine lv_iload_n hx hb dL_law_582 rfl (lv_at hl 0 rfl) ?_
      refine lv_iconst (v := 2) hx hb dL_law_583 (by decide) ?_
      refine lv_iadd hx hb dL_law_584 ?_
      rw [show (nI (6 * j) + 2 : Int32) = nI (6 * j + 2) from nI_add (6 * j) 2]
      refine va_sld hx hb hX hbl hbA hS (i := nI (6 * j + 2)) (vp_in_nI (by omega) (by omega)) dL_law_585 ?_
      refine pu_call (va_runV (As := [.int (xs (Int32.toNatClampNeg (nI (6 * j + 1)))), .int (xs (Int32.toNatClampNeg (nI (6 * j + 2))))]) (rest := []) ⟨hx, hb, hml, hown, hts⟩ (k_X7_owes l dC dI x0 q cI cy (ax_ s.heap.size m0 qm) ad rl L n G hN (xs (Int32.toNatClampNeg (nI (6 * j + 1)))) (xs (Int32.toNatClampNeg (nI (6 * j + 2))))) (cwV 2 hts gL_law_X7_owes rfl rfl rfl (by decide +kernel) ⟨Nat.le_of_ble_eq_true rfl, Nat.le_of_ble_eq_true rfl⟩) (ct_pre hC hK hW0) rfl rfl hl.1 rfl (lv_room (Nat.le_of_ble_eq_true rfl)) dL_law_586 ⟨by show _ ≤ 600000; omega, by show _ ≤ 7302250; omega⟩) ?_
      refine lv_pop hx hb dL_law_589 rfl ?_
      refine lv_aload_n hx hb dL_law_590 rfl (lv_at hl 1 rfl) ?_
      refine lv_aload_n hx hb dL_law_591 rfl (lv_at hl 3 rfl) ?_
      refine lv_iload_n hx hb dL_law_592 rfl (lv_at hl 0 rfl) ?_
      refine lv_iconst (v := 1) hx hb dL_law_593 (by decide) ?_
      refine lv_iadd hx hb dL_law_594 ?_
      rw [show (nI (6 * j) + 1 : Int32) = nI (6 * j + 1) from nI_add (6 * j) 1]
      refine va_sld hx hb hX hbl hbA hS (i := nI (6 * j + 1)) (vp_in_nI (by omega) (by omega)) dL_law_595 ?_
      refine lv_aload_n hx hb dL_law_596 rfl (lv_at hl 3 rfl) ?_
      refine lv_iload_n hx hb dL_law_597 rfl (lv_at hl 0 rfl) ?_
      refine lv_iconst (v := 2) hx hb dL_law_598 (by decide) ?_
      refine lv_iadd hx hb dL_law_599 ?_
      rw [show (nI (6 * j) + 2 : Int32) = nI (6 * j + 2) from nI_add (6 * j) 2]
      refine va_sld hx hb hX hbl hbA hS (i := nI (6 * j + 2)) (vp_in_nI (by omega) (by omega)) dL_law_600 ?_
      refine pu_call (va_runV (As := [.int (xs (Int32.toNatClampNeg (nI (6 * j + 1)))), .int (xs (Int32.toNatClampNeg (nI (6 * j + 2))))]) (rest := []) ⟨hx, hb, hml, hown, hts⟩ (k_X8_owes l dC dI m0 qm n cI cZ F hI hN (xs (Int32.toNatClampNeg (nI (6 * j + 1)))) (xs (Int32.toNatClampNeg (nI (6 * j + 2))))) (cwV 2 hts gL_law_X8_owes rfl rfl rfl (by decide +kernel) ⟨Nat.le_of_ble_eq_true rfl, Nat.le_of_ble_eq_true rfl⟩) (pu_pre hPm hKm (ci := 7) (q0 := 0) rfl rfl) rfl rfl hl.1 rfl (lv_room (Nat.le_of_ble_eq_true rfl)) dL_law_601 ⟨by show _ ≤ 600000; omega, by show _ ≤ 7302250; omega⟩) ?_
      refine lv_pop hx hb dL_law_604 rfl ?_
      refine lv_goto (tgt := 1170) hx hb dL_law_605 (by decide) ?_
      refine W.widen (k := 61 + 5 * (j + 1)) (n := 7067 + 36 * (j + 1)) (by omega) (by omega) ?_
      exact fin L ad rl n G F _ _ ls hC hPm hDm hI hN hR hS hl
    rcases (Decidable.em (z = 12)) with e_12 | e_12
    · refine lv_tableIn (off := 575) (tgt := 608) hx hb dL_law_33 (by rw [e_12]; decide) (by rw [e_12]; decide) (by rw [e_12]; rfl) (by decide) ?_
      refine lv_aload_n hx hb dL_law_608 rfl (lv_at hl 2 rfl) ?_
      refine lv_aload_n hx hb dL_law_609 rfl (lv_at hl 3 rfl) ?_
      refine lv_iload_n hx hb dL_law_610 rfl (lv_at hl 0 rfl) ?_
      refine lv_iconst (v := 1) hx hb dL_law_611 (by decide) ?_
      refine lv_iadd hx hb dL_law_612 ?_
      rw [show (nI (6 * j) + 1 : Int32) = nI (6 * j + 1) from nI_add (6 * j) 1]
      refine va_sld hx hb hX hbl hbA hS (i := nI (6 * j + 1)) (vp_in_nI (by omega) (by omega)) dL_law_613 ?_
      refine lv_aload_n hx hb dL_law_614 rfl (lv_at hl 3 rfl) ?_
      refine lv_iload_n hx hb dL_law_615 rfl (lv_at hl 0 rfl) ?_
      refine lv_iconst (v := 2) hx hb dL_law_616 (by decide) ?_
      refine lv_iadd hx hb dL_law_617 ?_
      rw [show (nI (6 * j) + 2 : Int32) = nI (6 * j + 2) from nI_add (6 * j) 2]
      refine va_sld hx hb hX hbl hbA hS (i := nI (6 * j + 2)) (vp_in_nI (by omega) (by omega)) dL_law_618 ?_
      refine pu_call (va_runV (As := [.int (xs (Int32.toNatClampNeg (nI (6 * j + 1)))), .int (xs (Int32.toNatClampNeg (nI (6 * j + 2))))]) (rest := []) ⟨hx, hb, hml, hown, hts⟩ (k_X7_price l dC dI x0 q cI cy (ax_ s.heap.size m0 qm) ad rl L n G hN (xs (Int32.toNatClampNeg (nI (6 * j + 1)))) (xs (Int32.toNatClampNeg (nI (6 * j + 2))))) (cwV 2 hts gL_law_X7_price rfl rfl rfl (by decide +kernel) ⟨Nat.le_of_ble_eq_true rfl, Nat.le_of_ble_eq_true rfl⟩) (ct_pre hC hK hW0) rfl rfl hl.1 rfl (lv_room (Nat.le_of_ble_eq_true rfl)) dL_law_619 ⟨by show _ ≤ 600000; omega, by show _ ≤ 7302250; omega⟩) ?_
      refine lv_pop hx hb dL_law_622 rfl ?_
      refine lv_aload_n hx hb dL_law_623 rfl (lv_at hl 1 rfl) ?_
      refine lv_aload_n hx hb dL_law_624 rfl (lv_at hl 3 rfl) ?_
      refine lv_iload_n hx hb dL_law_625 rfl (lv_at hl 0 rfl) ?_
      refine lv_iconst (v := 1) hx hb dL_law_626 (by decide) ?_
      refine lv_iadd hx hb dL_law_627 ?_
      rw [show (nI (6 * j) + 1 : Int32) = nI (6 * j + 1) from nI_add (6 * j) 1]
      refine va_sld hx hb hX hbl hbA hS (i := nI (6 * j + 1)) (vp_in_nI (by omega) (by omega)) dL_law_628 ?_
      refine lv_aload_n hx hb dL_law_629 rfl (lv_at hl 3 rfl) ?_
      refine lv_iload_n hx hb dL_law_630 rfl (lv_at hl 0 rfl) ?_
      refine lv_iconst (v := 2) hx hb dL_law_631 (by decide) ?_
      refine lv_iadd hx hb dL_law_632 ?_
      rw [show (nI (6 * j) + 2 : Int32) = nI (6 * j + 2) from nI_add (6 * j) 2]
      refine va_sld hx hb hX hbl hbA hS (i := nI (6 * j + 2)) (vp_in_nI (by omega) (by omega)) dL_law_633 ?_
      refine pu_call (va_runV (As := [.int (xs (Int32.toNatClampNeg (nI (6 * j + 1)))), .int (xs (Int32.toNatClampNeg (nI (6 * j + 2))))]) (rest := []) ⟨hx, hb, hml, hown, hts⟩ (k_X8_price l dC dI m0 qm n cI cZ F hI hN (xs (Int32.toNatClampNeg (nI (6 * j + 1)))) (xs (Int32.toNatClampNeg (nI (6 * j + 2))))) (cwV 2 hts gL_law_X8_price rfl rfl rfl (by decide +kernel) ⟨Nat.le_of_ble_eq_true rfl, Nat.le_of_ble_eq_true rfl⟩) (pu_pre hPm hKm (ci := 7) (q0 := 0) rfl rfl) rfl rfl hl.1 rfl (lv_room (Nat.le_of_ble_eq_true rfl)) dL_law_634 ⟨by show _ ≤ 600000; omega, by show _ ≤ 7302250; omega⟩) ?_
      refine lv_pop hx hb dL_law_637 rfl ?_
      refine lv_goto (tgt := 1170) hx hb dL_law_638 (by decide) ?_
      refine W.widen (k := 61 + 5 * (j + 1)) (n := 7067 + 36 * (j + 1)) (by omega) (by omega) ?_
      exact fin L ad rl n G F _ _ ls hC hPm hDm hI hN hR hS hl
    rcases (Decidable.em (z = 13)) with e_13 | e_13
    · refine lv_tableIn (off := 608) (tgt := 641) hx hb dL_law_33 (by rw [e_13]; decide) (by rw [e_13]; decide) (by rw [e_13]; rfl) (by decide) ?_
      refine lv_aload_n hx hb dL_law_641 rfl (lv_at hl 2 rfl) ?_
      refine lv_aload_n hx hb dL_law_642 rfl (lv_at hl 3 rfl) ?_
      refine lv_iload_n hx hb dL_law_643 rfl (lv_at hl 0 rfl) ?_
      refine lv_iconst (v := 1) hx hb dL_law_644 (by decide) ?_
      refine lv_iadd hx hb dL_law_645 ?_
      rw [show (nI (6 * j) + 1 : Int32) = nI (6 * j + 1) from nI_add (6 * j) 1]
      refine va_sld hx hb hX hbl hbA hS (i := nI (6 * j + 1)) (vp_in_nI (by omega) (by omega)) dL_law_646 ?_
      refine lv_aload_n hx hb dL_law_647 rfl (lv_at hl 3 rfl) ?_
      refine lv_iload_n hx hb dL_law_648 rfl (lv_at hl 0 rfl) ?_
      refine lv_iconst (v := 2) hx hb dL_law_649 (by decide) ?_
      refine lv_iadd hx hb dL_law_650 ?_
      rw [show (nI (6 * j) + 2 : Int32) = nI (6 * j + 2) from nI_add (6 * j) 2]
      refine va_sld hx hb hX hbl hbA hS (i := nI (6 * j + 2)) (vp_in_nI (by omega) (by omega)) dL_law_651 ?_
      refine lv_aload_n hx hb dL_law_652 rfl (lv_at hl 3 rfl) ?_
      refine lv_iload_n hx hb dL_law_653 rfl (lv_at hl 0 rfl) ?_
      refine lv_iconst (v := 3) hx hb dL_law_654 (by decide) ?_
      refine lv_iadd hx hb dL_law_655 ?_
      rw [show (nI (6 * j) + 3 : Int32) = nI (6 * j + 3) from nI_add (6 * j) 3]
      refine va_sld hx hb hX hbl hbA hS (i := nI (6 * j + 3)) (vp_in_nI (by omega) (by omega)) dL_law_656 ?_
      refine lv_aload_n hx hb dL_law_657 rfl (lv_at hl 3 rfl) ?_
      refine lv_iload_n hx hb dL_law_658 rfl (lv_at hl 0 rfl) ?_
      refine lv_iconst (v := 4) hx hb dL_law_659 (by decide) ?_
      refine lv_iadd hx hb dL_law_660 ?_
      rw [show (nI (6 * j) + 4 : Int32) = nI (6 * j + 4) from nI_add (6 * j) 4]
      refine va_sld hx hb hX hbl hbA hS (i := nI (6 * j + 4)) (vp_in_nI (by omega) (by omega)) dL_law_661 ?_
      refine va_calli (va_runV (As := [.int (xs (Int32.toNatClampNeg (nI (6 * j + 1)))), .int (xs (Int32.toNatClampNeg (nI (6 * j + 2)))), .int (xs (Int32.toNatClampNeg (nI (6 * j + 3)))), .int (xs (Int32.toNatClampNeg (nI (6 * j + 4))))]) (rest := []) ⟨hx, hb, hml, hown, hts⟩ (a_X7_order l dC dI x0 q cI cy (ax_ s.heap.size m0 qm) ad rl L n G hN (xs (Int32.toNatClampNeg (nI (6 * j + 1)))) (xs (Int32.toNatClampNeg (nI (6 * j + 2)))) (xs (Int32.toNatClampNeg (nI (6 * j + 3)))) (xs (Int32.toNatClampNeg (nI (6 * j + 4))))) (cwV 4 hts gL_law_X7_order rfl rfl rfl (by decide +kernel) ⟨Nat.le_of_ble_eq_true rfl, Nat.le_of_ble_eq_true rfl⟩) ⟨fun a U g mk y => ⟨y.1, ⟨y.2.1.1, va_K.moved (u := U) (U := U.calling g mk a) (Vm.Alike.refl U.vm) y.2.1.2.1, nw_call y.2.1.2.2⟩, y.2.2⟩, (ct_pre (As := []) hC hK hW0).2.1, fun U hU hW => ⟨rfl, ⟨by rw [hU]; exact hC, va_K.moved hW.alike hK, nw_warm hW hW0⟩, fun a h => hXs a (by rw [hU] at h; exact h)⟩⟩ rfl rfl hl.1 rfl (lv_room (Nat.le_of_ble_eq_true rfl)) dL_law_662 ⟨by show _ ≤ 600000; omega, by show _ ≤ 7302250; omega⟩) hS (fun a _ h => h.1) (fun a h => h.1) (fun rx u st H1 locs ht hvm hw hB hz1 hk1 hS => ?_)
      obtain ⟨L2, ad2, rl2, n2, G2⟩ := u
      have hwx : (rx, n2, G2) = sX_order n G (xs (Int32.toNatClampNeg (nI (6 * j + 1)))) (xs (Int32.toNatClampNeg (nI (6 * j + 2)))) (xs (Int32.toNatClampNeg (nI (6 * j + 3)))) (xs (Int32.toNatClampNeg (nI (6 * j + 4)))) := hw.1
      have hC2 : cp_ (dC, dI) cI cy x0 q (ax_ s.heap.size m0 qm) ad2 rl2 L2 n2 G2 H1 := by rw [← ht]; exact hB
      have hPm := hPm.kept (H1 := H1) (fun k x hx => hk1 x.1 ((hPm k x hx).lt) (fun h => h.2 (ma_at hx)))
      clear ht hvm hw hB hz1 hk1 hC hXs hml2
      refine lv_pop hx hb dL_law_665 rfl ?_
      refine lv_aload_n hx hb dL_law_666 rfl (lv_at hl 1 rfl) ?_
      refine lv_aload_n hx hb dL_law_667 rfl (lv_at hl 3 rfl) ?_
      refine lv_iload_n hx hb dL_law_668 rfl (lv_at hl 0 rfl) ?_
      refine lv_iconst (v := 1) hx hb dL_law_669 (by decide) ?_
      refine lv_iadd hx hb dL_law_670 ?_
      rw [show (nI (6 * j) + 1 : Int32) = nI (6 * j + 1) from nI_add (6 * j) 1]
      refine va_sld hx hb hX hbl hbA hS (i := nI (6 * j + 1)) (vp_in_nI (by omega) (by omega)) dL_law_671 ?_
      refine lv_aload_n hx hb dL_law_672 rfl (lv_at hl 3 rfl) ?_
      refine lv_iload_n hx hb dL_law_673 rfl (lv_at hl 0 rfl) ?_
      refine lv_iconst (v := 2) hx hb dL_law_674 (by decide) ?_
      refine lv_iadd hx hb dL_law_675 ?_
      rw [show (nI (6 * j) + 2 : Int32) = nI (6 * j + 2) from nI_add (6 * j) 2]
      refine va_sld hx hb hX hbl hbA hS (i := nI (6 * j + 2)) (vp_in_nI (by omega) (by omega)) dL_law_676 ?_
      refine lv_aload_n hx hb dL_law_677 rfl (lv_at hl 3 rfl) ?_
      refine lv_iload_n hx hb dL_law_678 rfl (lv_at hl 0 rfl) ?_
      refine lv_iconst (v := 3) hx hb dL_law_679 (by decide) ?_
      refine lv_iadd hx hb dL_law_680 ?_
      rw [show (nI (6 * j) + 3 : Int32) = nI (6 * j + 3) from nI_add (6 * j) 3]
      refine va_sld hx hb hX hbl hbA hS (i := nI (6 * j + 3)) (vp_in_nI (by omega) (by omega)) dL_law_681 ?_
      refine lv_aload_n hx hb dL_law_682 rfl (lv_at hl 3 rfl) ?_
      refine lv_iload_n hx hb dL_law_683 rfl (lv_at hl 0 rfl) ?_
      refine lv_iconst (v := 4) hx hb dL_law_684 (by decide) ?_
      refine lv_iadd hx hb dL_law_685 ?_
      rw [show (nI (6 * j) + 4 : Int32) = nI (6 * j + 4) from nI_add (6 * j) 4]
      refine va_sld hx hb hX hbl hbA hS (i := nI (6 * j + 4)) (vp_in_nI (by omega) (by omega)) dL_law_686 ?_
      refine va_calli (va_runV (As := [.int (xs (Int32.toNatClampNeg (nI (6 * j + 1)))), .int (xs (Int32.toNatClampNeg (nI (6 * j + 2)))), .int (xs (Int32.toNatClampNeg (nI (6 * j + 3)))), .int (xs (Int32.toNatClampNeg (nI (6 * j + 4))))]) (rest := []) ⟨hx, hb, hml, hown, hts⟩ (m_X8_order l dC dI m0 qm n cI cZ F hI hN (fun a => a ∈ ma_ m0 qm) hDm (xs (Int32.toNatClampNeg (nI (6 * j + 1)))) (xs (Int32.toNatClampNeg (nI (6 * j + 2)))) (xs (Int32.toNatClampNeg (nI (6 * j + 3)))) (xs (Int32.toNatClampNeg (nI (6 * j + 4))))) (cwV 4 hts gL_law_X8_order rfl rfl rfl (by decide +kernel) ⟨Nat.le_of_ble_eq_true rfl, Nat.le_of_ble_eq_true rfl⟩) (pu_pre hPm hKm (ci := 7) (q0 := 0) rfl rfl) rfl rfl hl.1 rfl (lv_room (Nat.le_of_ble_eq_true rfl)) dL_law_687 ⟨by show _ ≤ 600000; omega, by show _ ≤ 7302250; omega⟩) hS (fun a _ h => hMa a h) (fun a h => hMa a h) (fun rm v st3 H3 locs ht hvm hw hB hz1 hk1 hS => ?_)
      obtain ⟨n3, F3⟩ := v
      obtain ⟨hwm, hDm, hI, hN3⟩ := hw
      have hwm : (rm, n3, F3) = rM_order n F (xs (Int32.toNatClampNeg (nI (6 * j + 1)))) (xs (Int32.toNatClampNeg (nI (6 * j + 2)))) (xs (Int32.toNatClampNeg (nI (6 * j + 3)))) (xs (Int32.toNatClampNeg (nI (6 * j + 4)))) := hwm
      have hPm : va_P (dC, dI) vwCl (mw_ m0 qm n3 (F3 44 0) cI cZ F3) H3 := by rw [← ht]; exact hB
      have hDm : va_D (fun a => a ∈ ma_ m0 qm) (mw_ m0 qm n3 (F3 44 0) cI cZ F3) := hDm
      have hC := cp_kept (H1 := H3) hC2 (fun a ha hA => hk1 a ha hA.2)
      obtain ⟨q1, q3, q2⟩ := s_order hR hN (xs (Int32.toNatClampNeg (nI (6 * j + 1)))) (xs (Int32.toNatClampNeg (nI (6 * j + 2)))) (xs (Int32.toNatClampNeg (nI (6 * j + 3)))) (xs (Int32.toNatClampNeg (nI (6 * j + 4))))
      rw [← hwx, ← hwm] at q1 q3
      rw [← hwx, ← hwm] at q2
      have heq : rx = rm := q1
      have q3 : n2 = n3 := q3
      have hR : rel_ n2 G2 F3 := q2
      subst q3
      have hN : nb_ n2 := hN3
      clear hwx
      clear ht hvm hB hz1 hk1
      refine lv_pop hx hb dL_law_690 rfl ?_
      refine lv_goto (tgt := 1170) hx hb dL_law_691 (by decide) ?_
      refine W.widen (k := 61 + 5 * (j + 1)) (n := 7067 + 36 * (j + 1)) (by omega) (by omega) ?_
      exact fin L2 ad2 rl2 n2 G2 F3 _ _ ls hC hPm hDm hI hN hR hS hl
    rcases (Decidable.em (z = 14)) with e_14 | e_14
    · refine lv_tableIn (off := 661) (tgt := 694) hx hb dL_law_33 (by rw [e_14]; decide) (by rw [e_14]; decide) (by rw [e_14]; rfl) (by decide) ?_
      refine lv_aload_n hx hb dL_law_694 rfl (lv_at hl 2 rfl) ?_
      refine lv_aload_n hx hb dL_law_695 rfl (lv_at hl 3 rfl) ?_
      refine lv_iload_n hx hb dL_law_696 rfl (lv_at hl 0 rfl) ?_
      refine lv_iconst (v := 1) hx hb dL_law_697 (by decide) ?_
      refine lv_iadd hx hb dL_law_698 ?_
      rw [show (nI (6 * j) + 1 : Int32) = nI (6 * j + 1) from nI_add (6 * j) 1]
      refine va_sld hx hb hX hbl hbA hS (i := nI (6 * j + 1)) (vp_in_nI (by omega) (by omega)) dL_law_699 ?_
      refine lv_aload_n hx hb dL_law_700 rfl (lv_at hl 3 rfl) ?_
      refine lv_iload_n hx hb dL_law_701 rfl (lv_at hl 0 rfl) ?_
      refine lv_iconst (v := 2) hx hb dL_law_702 (by decide) ?_
      refine lv_iadd hx hb dL_law_703 ?_
      rw [show (nI (6 * j) + 2 : Int32) = nI (6 * j + 2) from nI_add (6 * j) 2]
      refine va_sld hx hb hX hbl hbA hS (i := nI (6 * j + 2)) (vp_in_nI (by omega) (by omega)) dL_law_704 ?_
      refine lv_aload_n hx hb dL_law_705 rfl (lv_at hl 3 rfl) ?_
      refine lv_iload_n hx hb dL_law_706 rfl (lv_at hl 0 rfl) ?_
      refine lv_iconst (v := 3) hx hb dL_law_707 (by decide) ?_
      refine lv_iadd hx hb dL_law_708 ?_
      rw [show (nI (6 * j) + 3 : Int32) = nI (6 * j + 3) from nI_add (6 * j) 3]
      refine va_sld hx hb hX hbl hbA hS (i := nI (6 * j + 3)) (vp_in_nI (by omega) (by omega)) dL_law_709 ?_
      refine va_calli (va_runV (As := [.int (xs (Int32.toNatClampNeg (nI (6 * j + 1)))), .int (xs (Int32.toNatClampNeg (nI (6 * j + 2)))), .int (xs (Int32.toNatClampNeg (nI (6 * j + 3))))]) (rest := []) ⟨hx, hb, hml, hown, hts⟩ (a_X7_debt l dC dI x0 q cI cy (ax_ s.heap.size m0 qm) ad rl L n G hN (xs (Int32.toNatClampNeg (nI (6 * j + 1)))) (xs (Int32.toNatClampNeg (nI (6 * j + 2)))) (xs (Int32.toNatClampNeg (nI (6 * j + 3))))) (cwV 3 hts gL_law_X7_debt rfl rfl rfl (by decide +kernel) ⟨Nat.le_of_ble_eq_true rfl, Nat.le_of_ble_eq_true rfl⟩) ⟨fun a U g mk y => ⟨y.1, ⟨y.2.1.1, va_K.moved (u := U) (U := U.calling g mk a) (Vm.Alike.refl U.vm) y.2.1.2.1, nw_call y.2.1.2.2⟩, y.2.2⟩, (ct_pre (As := []) hC hK hW0).2.1, fun U hU hW => ⟨rfl, ⟨by rw [hU]; exact hC, va_K.moved hW.alike hK, nw_warm hW hW0⟩, fun a h => hXs a (by rw [hU] at h; exact h)⟩⟩ rfl rfl hl.1 rfl (lv_room (Nat.le_of_ble_eq_true rfl)) dL_law_710 ⟨by show _ ≤ 600000; omega, by show _ ≤ 7302250; omega⟩) hS (fun a _ h => h.1) (fun a h => h.1) (fun rx u st H1 locs ht hvm hw hB hz1 hk1 hS => ?_)
      obtain ⟨L2, ad2, rl2, n2, G2⟩ := u
      have hwx : (rx, n2, G2) = sX_debt n G (xs (Int32.toNatClampNeg (nI (6 * j + 1)))) (xs (Int32.toNatClampNeg (nI (6 * j + 2)))) (xs (Int32.toNatClampNeg (nI (6 * j + 3)))) := hw.1
      have hC2 : cp_ (dC, dI) cI cy x0 q (ax_ s.heap.size m0 qm) ad2 rl2 L2 n2 G2 H1 := by rw [← ht]; exact hB
      have hPm := hPm.kept (H1 := H1) (fun k x hx => hk1 x.1 ((hPm k x hx).lt) (fun h => h.2 (ma_at hx)))
      clear ht hvm hw hB hz1 hk1 hC hXs hml2
      refine lv_pop hx hb dL_law_713 rfl ?_
      refine lv_aload_n hx hb dL_law_714 rfl (lv_at hl 1 rfl) ?_
      refine lv_aload_n hx hb dL_law_715 rfl (lv_at hl 3 rfl) ?_
      refine lv_iload_n hx hb dL_law_716 rfl (lv_at hl 0 rfl) ?_
      refine lv_iconst (v := 1) hx hb dL_law_717 (by decide) ?_
      refine lv_iadd hx hb dL_law_718 ?_
      rw [show (nI (6 * j) + 1 : Int32) = nI (6 * j + 1) from nI_add (6 * j) 1]
      refine va_sld hx hb hX hbl hbA hS (i := nI (6 * j + 1)) (vp_in_nI (by omega) (by omega)) dL_law_719 ?_
      refine lv_aload_n hx hb dL_law_720 rfl (lv_at hl 3 rfl) ?_
      refine lv_iload_n hx hb dL_law_721 rfl (lv_at hl 0 rfl) ?_
      refine lv_iconst (v := 2) hx hb dL_law_722 (by decide) ?_
      refine lv_iadd hx hb dL_law_723 ?_
      rw [show (nI (6 * j) + 2 : Int32) = nI (6 * j + 2) from nI_add (6 * j) 2]
      refine va_sld hx hb hX hbl hbA hS (i := nI (6 * j + 2)) (vp_in_nI (by omega) (by omega)) dL_law_724 ?_
      refine lv_aload_n hx hb dL_law_725 rfl (lv_at hl 3 rfl) ?_
      refine lv_iload_n hx hb dL_law_726 rfl (lv_at hl 0 rfl) ?_
      refine lv_iconst (v := 3) hx hb dL_law_727 (by decide) ?_
      refine lv_iadd hx hb dL_law_728 ?_
      rw [show (nI (6 * j) + 3 : Int32) = nI (6 * j + 3) from nI_add (6 * j) 3]
      refine va_sld hx hb hX hbl hbA hS (i := nI (6 * j + 3)) (vp_in_nI (by omega) (by omega)) dL_law_729 ?_
      refine va_calli (va_runV (As := [.int (xs (Int32.toNatClampNeg (nI (6 * j + 1)))), .int (xs (Int32.toNatClampNeg (nI (6 * j + 2)))), .int (xs (Int32.toNatClampNeg (nI (6 * j + 3))))]) (rest := []) ⟨hx, hb, hml, hown, hts⟩ (m_X8_debt l dC dI m0 qm n cI cZ F hI hN (fun a => a ∈ ma_ m0 qm) hDm (xs (Int32.toNatClampNeg (nI (6 * j + 1)))) (xs (Int32.toNatClampNeg (nI (6 * j + 2)))) (xs (Int32.toNatClampNeg (nI (6 * j + 3))))) (cwV 3 hts gL_law_X8_debt rfl rfl rfl (by decide +kernel) ⟨Nat.le_of_ble_eq_true rfl, Nat.le_of_ble_eq_true rfl⟩) (pu_pre hPm hKm (ci := 7) (q0 := 0) rfl rfl) rfl rfl hl.1 rfl (lv_room (Nat.le_of_ble_eq_true rfl)) dL_law_730 ⟨by show _ ≤ 600000; omega, by show _ ≤ 7302250; omega⟩) hS (fun a _ h => hMa a h) (fun a h => hMa a h) (fun rm v st3 H3 locs ht hvm hw hB hz1 hk1 hS => ?_)
      obtain ⟨n3, F3⟩ := v
      obtain ⟨hwm, hDm, hI, hN3⟩ := hw
      have hwm : (rm, n3, F3) = rM_debt n F (xs (Int32.toNatClampNeg (nI (6 * j + 1)))) (xs (Int32.toNatClampNeg (nI (6 * j + 2)))) (xs (Int32.toNatClampNeg (nI (6 * j + 3)))) := hwm
      have hPm : va_P (dC, dI) vwCl (mw_ m0 qm n3 (F3 44 0) cI cZ F3) H3 := by rw [← ht]; exact hB
      have hDm : va_D (fun a => a ∈ ma_ m0 qm) (mw_ m0 qm n3 (F3 44 0) cI cZ F3) := hDm
      have hC := cp_kept (H1 := H3) hC2 (fun a ha hA => hk1 a ha hA.2)
      obtain ⟨q1, q3, q2⟩ := s_debt hR hN (xs (Int32.toNatClampNeg (nI (6 * j + 1)))) (xs (Int32.toNatClampNeg (nI (6 * j + 2)))) (xs (Int32.toNatClampNeg (nI (6 * j + 3))))
      rw [← hwx, ← hwm] at q1 q3
      rw [← hwx, ← hwm] at q2
      have heq : rx = rm := q1
      have q3 : n2 = n3 := q3
      have hR : rel_ n2 G2 F3 := q2
      subst q3
      have hN : nb_ n2 := hN3
      clear hwx
      clear ht hvm hB hz1 hk1
      refine lv_pop hx hb dL_law_733 rfl ?_
      refine lv_goto (tgt := 1170) hx hb dL_law_734 (by decide) ?_
      refine W.widen (k := 61 + 5 * (j + 1)) (n := 7067 + 36 * (j + 1)) (by omega) (by omega) ?_
      exact fin L2 ad2 rl2 n2 G2 F3 _ _ ls hC hPm hDm hI hN hR hS hl
    rcases (Decidable.em (z = 15)) with e_15 | e_15
    · refine lv_tableIn (off := 704) (tgt := 737) hx hb dL_law_33 (by rw [e_15]; decide) (by rw [e_15]; decide) (by rw [e_15]; rfl) (by decide) ?_
      refine lv_aload_n hx hb dL_law_737 rfl (lv_at hl 2 rfl) ?_
      refine lv_aload_n hx hb dL_law_738 rfl (lv_at hl 3 rfl) ?_
      refine lv_iload_n hx hb dL_law_739 rfl (lv_at hl 0 rfl) ?_
      refine lv_iconst (v := 1) hx hb dL_law_740 (by decide) ?_
      refine lv_iadd hx hb dL_law_741 ?_
      rw [show (nI (6 * j) + 1 : Int32) = nI (6 * j + 1) from nI_add (6 * j) 1]
      refine va_sld hx hb hX hbl hbA hS (i := nI (6 * j + 1)) (vp_in_nI (by omega) (by omega)) dL_law_742 ?_
      refine lv_aload_n hx hb dL_law_743 rfl (lv_at hl 3 rfl) ?_
      refine lv_iload_n hx hb dL_law_744 rfl (lv_at hl 0 rfl) ?_
      refine lv_iconst (v := 2) hx hb dL_law_745 (by decide) ?_
      refine lv_iadd hx hb dL_law_746 ?_
      rw [show (nI (6 * j) + 2 : Int32) = nI (6 * j + 2) from nI_add (6 * j) 2]
      refine va_sld hx hb hX hbl hbA hS (i := nI (6 * j + 2)) (vp_in_nI (by omega) (by omega)) dL_law_747 ?_
      refine va_calli (va_runV (As := [.int (xs (Int32.toNatClampNeg (nI (6 * j + 1)))), .int (xs (Int32.toNatClampNeg (nI (6 * j + 2))))]) (rest := []) ⟨hx, hb, hml, hown, hts⟩ (a_X7_report l dC dI x0 q cI cy (ax_ s.heap.size m0 qm) ad rl L n G hN (xs (Int32.toNatClampNeg (nI (6 * j + 1)))) (xs (Int32.toNatClampNeg (nI (6 * j + 2))))) (cwV 2 hts gL_law_X7_report rfl rfl rfl (by decide +kernel) ⟨Nat.le_of_ble_eq_true rfl, Nat.le_of_ble_eq_true rfl⟩) ⟨fun a U g mk y => ⟨y.1, ⟨y.2.1.1, va_K.moved (u := U) (U := U.calling g mk a) (Vm.Alike.refl U.vm) y.2.1.2.1, nw_call y.2.1.2.2⟩, y.2.2⟩, (ct_pre (As := []) hC hK hW0).2.1, fun U hU hW => ⟨rfl, ⟨by rw [hU]; exact hC, va_K.moved hW.alike hK, nw_warm hW hW0⟩, fun a h => hXs a (by rw [hU] at h; exact h)⟩⟩ rfl rfl hl.1 rfl (lv_room (Nat.le_of_ble_eq_true rfl)) dL_law_748 ⟨by show _ ≤ 600000; omega, by show _ ≤ 7302250; omega⟩) hS (fun a _ h => h.1) (fun a h => h.1) (fun rx u st H1 locs ht hvm hw hB hz1 hk1 hS => ?_)
      obtain ⟨L2, ad2, rl2, n2, G2⟩ := u
      have hwx : (rx, n2, G2) = sX_report n G (xs (Int32.toNatClampNeg (nI (6 * j + 1)))) (xs (Int32.toNatClampNeg (nI (6 * j + 2)))) := hw.1
      have hC2 : cp_ (dC, dI) cI cy x0 q (ax_ s.heap.size m0 qm) ad2 rl2 L2 n2 G2 H1 := by rw [← ht]; exact hB
      have hPm := hPm.kept (H1 := H1) (fun k x hx => hk1 x.1 ((hPm k x hx).lt) (fun h => h.2 (ma_at hx)))
      clear ht hvm hw hB hz1 hk1 hC hXs hml2
      refine lv_pop hx hb dL_law_751 rfl ?_
      refine lv_aload_n hx hb dL_law_752 rfl (lv_at hl 1 rfl) ?_
      refine lv_aload_n hx hb dL_law_753 rfl (lv_at hl 3 rfl) ?_
      refine lv_iload_n hx hb dL_law_754 rfl (lv_at hl 0 rfl) ?_
      refine lv_iconst (v := 1) hx hb dL_law_755 (by decide) ?_
      refine lv_iadd hx hb dL_law_756 ?_
      rw [show (nI (6 * j) + 1 : Int32) = nI (6 * j + 1) from nI_add (6 * j) 1]
      refine va_sld hx hb hX hbl hbA hS (i := nI (6 * j + 1)) (vp_in_nI (by omega) (by omega)) dL_law_757 ?_
      refine lv_aload_n hx hb dL_law_758 rfl (lv_at hl 3 rfl) ?_
      refine lv_iload_n hx hb dL_law_759 rfl (lv_at hl 0 rfl) ?_
      refine lv_iconst (v := 2) hx hb dL_law_760 (by decide) ?_
      refine lv_iadd hx hb dL_law_761 ?_
      rw [show (nI (6 * j) + 2 : Int32) = nI (6 * j + 2) from nI_add (6 * j) 2]
      refine va_sld hx hb hX hbl hbA hS (i := nI (6 * j + 2)) (vp_in_nI (by omega) (by omega)) dL_law_762 ?_
      refine va_calli (va_runV (As := [.int (xs (Int32.toNatClampNeg (nI (6 * j + 1)))), .int (xs (Int32.toNatClampNeg (nI (6 * j + 2))))]) (rest := []) ⟨hx, hb, hml, hown, hts⟩ (m_X8_report l dC dI m0 qm n cI cZ F hI hN (fun a => a ∈ ma_ m0 qm) hDm (xs (Int32.toNatClampNeg (nI (6 * j + 1)))) (xs (Int32.toNatClampNeg (nI (6 * j + 2))))) (cwV 2 hts gL_law_X8_report rfl rfl rfl (by decide +kernel) ⟨Nat.le_of_ble_eq_true rfl, Nat.le_of_ble_eq_true rfl⟩) (pu_pre hPm hKm (ci := 7) (q0 := 0) rfl rfl) rfl rfl hl.1 rfl (lv_room (Nat.le_of_ble_eq_true rfl)) dL_law_763 ⟨by show _ ≤ 600000; omega, by show _ ≤ 7302250; omega⟩) hS (fun a _ h => hMa a h) (fun a h => hMa a h) (fun rm v st3 H3 locs ht hvm hw hB hz1 hk1 hS => ?_)
      obtain ⟨n3, F3⟩ := v
      obtain ⟨hwm, hDm, hI, hN3⟩ := hw
      have hwm : (rm, n3, F3) = rM_report n F (xs (Int32.toNatClampNeg (nI (6 * j + 1)))) (xs (Int32.toNatClampNeg (nI (6 * j + 2)))) := hwm
      have hPm : va_P (dC, dI) vwCl (mw_ m0 qm n3 (F3 44 0) cI cZ F3) H3 := by rw [← ht]; exact hB
      have hDm : va_D (fun a => a ∈ ma_ m0 qm) (mw_ m0 qm n3 (F3 44 0) cI cZ F3) := hDm
      have hC := cp_kept (H1 := H3) hC2 (fun a ha hA => hk1 a ha hA.2)
      obtain ⟨q1, q3, q2⟩ := s_report hR hN (xs (Int32.toNatClampNeg (nI (6 * j + 1)))) (xs (Int32.toNatClampNeg (nI (6 * j + 2))))
      rw [← hwx, ← hwm] at q1 q3
      rw [← hwx, ← hwm] at q2
      have heq : rx = rm := q1
      have q3 : n2 = n3 := q3
      have hR : rel_ n2 G2 F3 := q2
      subst q3
      have hN : nb_ n2 := hN3
      clear hwx
      clear ht hvm hB hz1 hk1
      refine lv_pop hx hb dL_law_766 rfl ?_
      refine lv_goto (tgt := 1170) hx hb dL_law_767 (by decide) ?_
      refine W.widen (k := 61 + 5 * (j + 1)) (n := 7067 + 36 * (j + 1)) (by omega) (by omega) ?_
      exact fin L2 ad2 rl2 n2 G2 F3 _ _ ls hC hPm hDm hI hN hR hS hl
    rcases (Decidable.em (z = 16)) with e_16 | e_16
    · refine lv_tableIn (off := 737) (tgt := 770) hx hb dL_law_33 (by rw [e_16]; decide) (by rw [e_16]; decide) (by rw [e_16]; rfl) (by decide) ?_
      refine lv_aload_n hx hb dL_law_770 rfl (lv_at hl 2 rfl) ?_
      refine lv_aload_n hx hb dL_law_771 rfl (lv_at hl 3 rfl) ?_
      refine lv_iload_n hx hb dL_law_772 rfl (lv_at hl 0 rfl) ?_
      refine lv_iconst (v := 1) hx hb dL_law_773 (by decide) ?_
      refine lv_iadd hx hb dL_law_774 ?_
      rw [show (nI (6 * j) + 1 : Int32) = nI (6 * j + 1) from nI_add (6 * j) 1]
      refine va_sld hx hb hX hbl hbA hS (i := nI (6 * j + 1)) (vp_in_nI (by omega) (by omega)) dL_law_775 ?_
      refine lv_aload_n hx hb dL_law_776 rfl (lv_at hl 3 rfl) ?_
      refine lv_iload_n hx hb dL_law_777 rfl (lv_at hl 0 rfl) ?_
      refine lv_iconst (v := 2) hx hb dL_law_778 (by decide) ?_
      refine lv_iadd hx hb dL_law_779 ?_
      rw [show (nI (6 * j) + 2 : Int32) = nI (6 * j + 2) from nI_add (6 * j) 2]
      refine va_sld hx hb hX hbl hbA hS (i := nI (6 * j + 2)) (vp_in_nI (by omega) (by omega)) dL_law_780 ?_
      refine lv_aload_n hx hb dL_law_781 rfl (lv_at hl 3 rfl) ?_
      refine lv_iload_n hx hb dL_law_782 rfl (lv_at hl 0 rfl) ?_
      refine lv_iconst (v := 3) hx hb dL_law_783 (by decide) ?_
      refine lv_iadd hx hb dL_law_784 ?_
      rw [show (nI (6 * j) + 3 : Int32) = nI (6 * j + 3) from nI_add (6 * j) 3]
      refine va_sld hx hb hX hbl hbA hS (i := nI (6 * j + 3)) (vp_in_nI (by omega) (by omega)) dL_law_785 ?_
      refine pu_call (va_runV (As := [.int (xs (Int32.toNatClampNeg (nI (6 * j + 1)))), .int (xs (Int32.toNatClampNeg (nI (6 * j + 2)))), .int (xs (Int32.toNatClampNeg (nI (6 * j + 3))))]) (rest := []) ⟨hx, hb, hml, hown, hts⟩ (k_X7_known l dC dI x0 q cI cy (ax_ s.heap.size m0 qm) ad rl L n G hN (xs (Int32.toNatClampNeg (nI (6 * j + 1)))) (xs (Int32.toNatClampNeg (nI (6 * j + 2)))) (xs (Int32.toNatClampNeg (nI (6 * j + 3))))) (cwV 3 hts gL_law_X7_known rfl rfl rfl (by decide +kernel) ⟨Nat.le_of_ble_eq_true rfl, Nat.le_of_ble_eq_true rfl⟩) (ct_pre hC hK hW0) rfl rfl hl.1 rfl (lv_room (Nat.le_of_ble_eq_true rfl)) dL_law_786 ⟨by show _ ≤ 600000; omega, by show _ ≤ 7302250; omega⟩) ?_
      refine lv_pop hx hb dL_law_789 rfl ?_
      refine lv_aload_n hx hb dL_law_790 rfl (lv_at hl 1 rfl) ?_
      refine lv_aload_n hx hb dL_law_791 rfl (lv_at hl 3 rfl) ?_
      refine lv_iload_n hx hb dL_law_792 rfl (lv_at hl 0 rfl) ?_
      refine lv_iconst (v := 1) hx hb dL_law_793 (by decide) ?_
      refine lv_iadd hx hb dL_law_794 ?_
      rw [show (nI (6 * j) + 1 : Int32) = nI (6 * j + 1) from nI_add (6 * j) 1]
      refine va_sld hx hb hX hbl hbA hS (i := nI (6 * j + 1)) (vp_in_nI (by omega) (by omega)) dL_law_795 ?_
      refine lv_aload_n hx hb dL_law_796 rfl (lv_at hl 3 rfl) ?_
      refine lv_iload_n hx hb dL_law_797 rfl (lv_at hl 0 rfl) ?_
      refine lv_iconst (v := 2) hx hb dL_law_798 (by decide) ?_
      refine lv_iadd hx hb dL_law_799 ?_
      rw [show (nI (6 * j) + 2 : Int32) = nI (6 * j + 2) from nI_add (6 * j) 2]
      refine va_sld hx hb hX hbl hbA hS (i := nI (6 * j + 2)) (vp_in_nI (by omega) (by omega)) dL_law_800 ?_
      refine lv_aload_n hx hb dL_law_801 rfl (lv_at hl 3 rfl) ?_
      refine lv_iload_n hx hb dL_law_802 rfl (lv_at hl 0 rfl) ?_
      refine lv_iconst (v := 3) hx hb dL_law_803 (by decide) ?_
      refine lv_iadd hx hb dL_law_804 ?_
      rw [show (nI (6 * j) + 3 : Int32) = nI (6 * j + 3) from nI_add (6 * j) 3]
      refine va_sld hx hb hX hbl hbA hS (i := nI (6 * j + 3)) (vp_in_nI (by omega) (by omega)) dL_law_805 ?_
      refine pu_call (va_runV (As := [.int (xs (Int32.toNatClampNeg (nI (6 * j + 1)))), .int (xs (Int32.toNatClampNeg (nI (6 * j + 2)))), .int (xs (Int32.toNatClampNeg (nI (6 * j + 3))))]) (rest := []) ⟨hx, hb, hml, hown, hts⟩ (k_X8_known l dC dI m0 qm n cI cZ F hI hN (xs (Int32.toNatClampNeg (nI (6 * j + 1)))) (xs (Int32.toNatClampNeg (nI (6 * j + 2)))) (xs (Int32.toNatClampNeg (nI (6 * j + 3))))) (cwV 3 hts gL_law_X8_known rfl rfl rfl (by decide +kernel) ⟨Nat.le_of_ble_eq_true rfl, Nat.le_of_ble_eq_true rfl⟩) (pu_pre hPm hKm (ci := 7) (q0 := 0) rfl rfl) rfl rfl hl.1 rfl (lv_room (Nat.le_of_ble_eq_true rfl)) dL_law_806 ⟨by show _ ≤ 600000; omega, by show _ ≤ 7302250; omega⟩) ?_
      refine lv_pop hx hb dL_law_809 rfl ?_
      refine lv_goto (tgt := 1170) hx hb dL_law_810 (by decide) ?_
      refine W.widen (k := 61 + 5 * (j + 1)) (n := 7067 + 36 * (j + 1)) (by omega) (by omega) ?_
      exact fin L ad rl n G F _ _ ls hC hPm hDm hI hN hR hS hl
    rcases (Decidable.em (z = 17)) with e_17 | e_17
    · refine lv_tableIn (off := 780) (tgt := 813) hx hb dL_law_33 (by rw [e_17]; decide) (by rw [e_17]; decide) (by rw [e_17]; rfl) (by decide) ?_
      refine lv_aload_n hx hb dL_law_813 rfl (lv_at hl 2 rfl) ?_
      refine lv_aload_n hx hb dL_law_814 rfl (lv_at hl 3 rfl) ?_
      refine lv_iload_n hx hb dL_law_815 rfl (lv_at hl 0 rfl) ?_
      refine lv_iconst (v := 1) hx hb dL_law_816 (by decide) ?_
      refine lv_iadd hx hb dL_law_817 ?_
      rw [show (nI (6 * j) + 1 : Int32) = nI (6 * j + 1) from nI_add (6 * j) 1]
      refine va_sld hx hb hX hbl hbA hS (i := nI (6 * j + 1)) (vp_in_nI (by omega) (by omega)) dL_law_818 ?_
      refine lv_aload_n hx hb dL_law_819 rfl (lv_at hl 3 rfl) ?_
      refine lv_iload_n hx hb dL_law_820 rfl (lv_at hl 0 rfl) ?_
      refine lv_iconst (v := 2) hx hb dL_law_821 (by decide) ?_
      refine lv_iadd hx hb dL_law_822 ?_
      rw [show (nI (6 * j) + 2 : Int32) = nI (6 * j + 2) from nI_add (6 * j) 2]
      refine va_sld hx hb hX hbl hbA hS (i := nI (6 * j + 2)) (vp_in_nI (by omega) (by omega)) dL_law_823 ?_
      refine pu_call (va_runV (As := [.int (xs (Int32.toNatClampNeg (nI (6 * j + 1)))), .int (xs (Int32.toNatClampNeg (nI (6 * j + 2))))]) (rest := []) ⟨hx, hb, hml, hown, hts⟩ (k_X7_knownDay l dC dI x0 q cI cy (ax_ s.heap.size m0 qm) ad rl L n G hN (xs (Int32.toNatClampNeg (nI (6 * j + 1)))) (xs (Int32.toNatClampNeg (nI (6 * j + 2))))) (cwV 2 hts gL_law_X7_knownDay rfl rfl rfl (by decide +kernel) ⟨Nat.le_of_ble_eq_true rfl, Nat.le_of_ble_eq_true rfl⟩) (ct_pre hC hK hW0) rfl rfl hl.1 rfl (lv_room (Nat.le_of_ble_eq_true rfl)) dL_law_824 ⟨by show _ ≤ 600000; omega, by show _ ≤ 7302250; omega⟩) ?_
      refine lv_pop hx hb dL_law_827 rfl ?_
      refine lv_aload_n hx hb dL_law_828 rfl (lv_at hl 1 rfl) ?_
      refine lv_aload_n hx hb dL_law_829 rfl (lv_at hl 3 rfl) ?_
      refine lv_iload_n hx hb dL_law_830 rfl (lv_at hl 0 rfl) ?_
      refine lv_iconst (v := 1) hx hb dL_law_831 (by decide) ?_
      refine lv_iadd hx hb dL_law_832 ?_
      rw [show (nI (6 * j) + 1 : Int32) = nI (6 * j + 1) from nI_add (6 * j) 1]
      refine va_sld hx hb hX hbl hbA hS (i := nI (6 * j + 1)) (vp_in_nI (by omega) (by omega)) dL_law_833 ?_
      refine lv_aload_n hx hb dL_law_834 rfl (lv_at hl 3 rfl) ?_
      refine lv_iload_n hx hb dL_law_835 rfl (lv_at hl 0 rfl) ?_
      refine lv_iconst (v := 2) hx hb dL_law_836 (by decide) ?_
      refine lv_iadd hx hb dL_law_837 ?_
      rw [show (nI (6 * j) + 2 : Int32) = nI (6 * j + 2) from nI_add (6 * j) 2]
      refine va_sld hx hb hX hbl hbA hS (i := nI (6 * j + 2)) (vp_in_nI (by omega) (by omega)) dL_law_838 ?_
      refine pu_call (va_runV (As := [.int (xs (Int32.toNatClampNeg (nI (6 * j + 1)))), .int (xs (Int32.toNatClampNeg (nI (6 * j + 2))))]) (rest := []) ⟨hx, hb, hml, hown, hts⟩ (k_X8_knownDay l dC dI m0 qm n cI cZ F hI hN (xs (Int32.toNatClampNeg (nI (6 * j + 1)))) (xs (Int32.toNatClampNeg (nI (6 * j + 2))))) (cwV 2 hts gL_law_X8_knownDay rfl rfl rfl (by decide +kernel) ⟨Nat.le_of_ble_eq_true rfl, Nat.le_of_ble_eq_true rfl⟩) (pu_pre hPm hKm (ci := 7) (q0 := 0) rfl rfl) rfl rfl hl.1 rfl (lv_room (Nat.le_of_ble_eq_true rfl)) dL_law_839 ⟨by show _ ≤ 600000; omega, by show _ ≤ 7302250; omega⟩) ?_
      refine lv_pop hx hb dL_law_842 rfl ?_
      refine lv_goto (tgt := 1170) hx hb dL_law_843 (by decide) ?_
      refine W.widen (k := 61 + 5 * (j + 1)) (n := 7067 + 36 * (j + 1)) (by omega) (by omega) ?_
      exact fin L ad rl n G F _ _ ls hC hPm hDm hI hN hR hS hl
    rcases (Decidable.em (z = 18)) with e_18 | e_18
    · refine lv_tableIn (off := 813) (tgt := 846) hx hb dL_law_33 (by rw [e_18]; decide) (by rw [e_18]; decide) (by rw [e_18]; rfl) (by decide) ?_
      refine lv_aload_n hx hb dL_law_846 rfl (lv_at hl 2 rfl) ?_
      refine lv_aload_n hx hb dL_law_847 rfl (lv_at hl 3 rfl) ?_
      refine lv_iload_n hx hb dL_law_848 rfl (lv_at hl 0 rfl) ?_
      refine lv_iconst (v := 1) hx hb dL_law_849 (by decide) ?_
      refine lv_iadd hx hb dL_law_850 ?_
      rw [show (nI (6 * j) + 1 : Int32) = nI (6 * j + 1) from nI_add (6 * j) 1]
      refine va_sld hx hb hX hbl hbA hS (i := nI (6 * j + 1)) (vp_in_nI (by omega) (by omega)) dL_law_851 ?_
      refine lv_aload_n hx hb dL_law_852 rfl (lv_at hl 3 rfl) ?_
      refine lv_iload_n hx hb dL_law_853 rfl (lv_at hl 0 rfl) ?_
      refine lv_iconst (v := 2) hx hb dL_law_854 (by decide) ?_
      refine lv_iadd hx hb dL_law_855 ?_
      rw [show (nI (6 * j) + 2 : Int32) = nI (6 * j + 2) from nI_add (6 * j) 2]
      refine va_sld hx hb hX hbl hbA hS (i := nI (6 * j + 2)) (vp_in_nI (by omega) (by omega)) dL_law_856 ?_
      refine pu_call (va_runV (As := [.int (xs (Int32.toNatClampNeg (nI (6 * j + 1)))), .int (xs (Int32.toNatClampNeg (nI (6 * j + 2))))]) (rest := []) ⟨hx, hb, hml, hown, hts⟩ (k_X7_next l dC dI x0 q cI cy (ax_ s.heap.size m0 qm) ad rl L n G hN (xs (Int32.toNatClampNeg (nI (6 * j + 1)))) (xs (Int32.toNatClampNeg (nI (6 * j + 2))))) (cwV 2 hts gL_law_X7_next rfl rfl rfl (by decide +kernel) ⟨Nat.le_of_ble_eq_true rfl, Nat.le_of_ble_eq_true rfl⟩) (ct_pre hC hK hW0) rfl rfl hl.1 rfl (lv_room (Nat.le_of_ble_eq_true rfl)) dL_law_857 ⟨by show _ ≤ 600000; omega, by show _ ≤ 7302250; omega⟩) ?_
      refine lv_pop hx hb dL_law_860 rfl ?_
      refine lv_aload_n hx hb dL_law_861 rfl (lv_at hl 1 rfl) ?_
      refine lv_aload_n hx hb dL_law_862 rfl (lv_at hl 3 rfl) ?_
      refine lv_iload_n hx hb dL_law_863 rfl (lv_at hl 0 rfl) ?_
      refine lv_iconst (v := 1) hx hb dL_law_864 (by decide) ?_
      refine lv_iadd hx hb dL_law_865 ?_
      rw [show (nI (6 * j) + 1 : Int32) = nI (6 * j + 1) from nI_add (6 * j) 1]
      refine va_sld hx hb hX hbl hbA hS (i := nI (6 * j + 1)) (vp_in_nI (by omega) (by omega)) dL_law_866 ?_
      refine lv_aload_n hx hb dL_law_867 rfl (lv_at hl 3 rfl) ?_
      refine lv_iload_n hx hb dL_law_868 rfl (lv_at hl 0 rfl) ?_
      refine lv_iconst (v := 2) hx hb dL_law_869 (by decide) ?_
      refine lv_iadd hx hb dL_law_870 ?_
      rw [show (nI (6 * j) + 2 : Int32) = nI (6 * j + 2) from nI_add (6 * j) 2]
      refine va_sld hx hb hX hbl hbA hS (i := nI (6 * j + 2)) (vp_in_nI (by omega) (by omega)) dL_law_871 ?_
      refine va_calli (va_runV (As := [.int (xs (Int32.toNatClampNeg (nI (6 * j + 1)))), .int (xs (Int32.toNatClampNeg (nI (6 * j + 2))))]) (rest := []) ⟨hx, hb, hml, hown, hts⟩ (m_X8_next l dC dI m0 qm n cI cZ F hI hN (fun a => a ∈ ma_ m0 qm) hDm (xs (Int32.toNatClampNeg (nI (6 * j + 1)))) (xs (Int32.toNatClampNeg (nI (6 * j + 2))))) (cwV 2 hts gL_law_X8_next rfl rfl rfl (by decide +kernel) ⟨Nat.le_of_ble_eq_true rfl, Nat.le_of_ble_eq_true rfl⟩) (pu_pre hPm hKm (ci := 7) (q0 := 0) rfl rfl) rfl rfl hl.1 rfl (lv_room (Nat.le_of_ble_eq_true rfl)) dL_law_872 ⟨by show _ ≤ 600000; omega, by show _ ≤ 7302250; omega⟩) hS (fun a _ h => hMa a h) (fun a h => hMa a h) (fun rm v st3 H3 locs ht hvm hw hB hz1 hk1 hS => ?_)
      obtain ⟨hwm, hDm, hI⟩ := hw
      have hwm : (rm, v) = rM_next n F (xs (Int32.toNatClampNeg (nI (6 * j + 1)))) (xs (Int32.toNatClampNeg (nI (6 * j + 2)))) := hwm
      have hPm : va_P (dC, dI) vwCl (mw_ m0 qm n (v 44 0) cI cZ v) H3 := by rw [← ht]; exact hB
      have hDm : va_D (fun a => a ∈ ma_ m0 qm) (mw_ m0 qm n (v 44 0) cI cZ v) := hDm
      have hC := cp_kept (H1 := H3) hC (fun a ha hA => hk1 a ha hA.2)
      obtain ⟨q1, q2⟩ := s_next hR hN (xs (Int32.toNatClampNeg (nI (6 * j + 1)))) (xs (Int32.toNatClampNeg (nI (6 * j + 2))))
      rw [← hwm] at q1 q2
      have hR : rel_ n G v := q2
      have heq : sX_next n G (xs (Int32.toNatClampNeg (nI (6 * j + 1)))) (xs (Int32.toNatClampNeg (nI (6 * j + 2)))) = rm := q1
      clear ht hvm hB hz1 hk1
      refine lv_pop hx hb dL_law_875 rfl ?_
      refine lv_goto (tgt := 1170) hx hb dL_law_876 (by decide) ?_
      refine W.widen (k := 61 + 5 * (j + 1)) (n := 7067 + 36 * (j + 1)) (by omega) (by omega) ?_
      exact fin L ad rl n G v _ _ ls hC hPm hDm hI hN hR hS hl
    rcases (Decidable.em (z = 19)) with e_19 | e_19
    · refine lv_tableIn (off := 846) (tgt := 879) hx hb dL_law_33 (by rw [e_19]; decide) (by rw [e_19]; decide) (by rw [e_19]; rfl) (by decide) ?_
      refine lv_aload_n hx hb dL_law_879 rfl (lv_at hl 2 rfl) ?_
      refine lv_aload_n hx hb dL_law_880 rfl (lv_at hl 3 rfl) ?_
      refine lv_iload_n hx hb dL_law_881 rfl (lv_at hl 0 rfl) ?_
      refine lv_iconst (v := 1) hx hb dL_law_882 (by decide) ?_
      refine lv_iadd hx hb dL_law_883 ?_
      rw [show (nI (6 * j) + 1 : Int32) = nI (6 * j + 1) from nI_add (6 * j) 1]
      refine va_sld hx hb hX hbl hbA hS (i := nI (6 * j + 1)) (vp_in_nI (by omega) (by omega)) dL_law_884 ?_
      refine lv_aload_n hx hb dL_law_885 rfl (lv_at hl 3 rfl) ?_
      refine lv_iload_n hx hb dL_law_886 rfl (lv_at hl 0 rfl) ?_
      refine lv_iconst (v := 2) hx hb dL_law_887 (by decide) ?_
      refine lv_iadd hx hb dL_law_888 ?_
      rw [show (nI (6 * j) + 2 : Int32) = nI (6 * j + 2) from nI_add (6 * j) 2]
      refine va_sld hx hb hX hbl hbA hS (i := nI (6 * j + 2)) (vp_in_nI (by omega) (by omega)) dL_law_889 ?_
      refine lv_aload_n hx hb dL_law_890 rfl (lv_at hl 3 rfl) ?_
      refine lv_iload_n hx hb dL_law_891 rfl (lv_at hl 0 rfl) ?_
      refine lv_iconst (v := 3) hx hb dL_law_892 (by decide) ?_
      refine lv_iadd hx hb dL_law_893 ?_
      rw [show (nI (6 * j) + 3 : Int32) = nI (6 * j + 3) from nI_add (6 * j) 3]
      refine va_sld hx hb hX hbl hbA hS (i := nI (6 * j + 3)) (vp_in_nI (by omega) (by omega)) dL_law_894 ?_
      refine va_calli (va_runV (As := [.int (xs (Int32.toNatClampNeg (nI (6 * j + 1)))), .int (xs (Int32.toNatClampNeg (nI (6 * j + 2)))), .int (xs (Int32.toNatClampNeg (nI (6 * j + 3))))]) (rest := []) ⟨hx, hb, hml, hown, hts⟩ (m_X7_want l dC dI x0 q cI cy (ax_ s.heap.size m0 qm) ad rl L n G hN (xs (Int32.toNatClampNeg (nI (6 * j + 1)))) (xs (Int32.toNatClampNeg (nI (6 * j + 2)))) (xs (Int32.toNatClampNeg (nI (6 * j + 3))))) (cwV 3 hts gL_law_X7_want rfl rfl rfl (by decide +kernel) ⟨Nat.le_of_ble_eq_true rfl, Nat.le_of_ble_eq_true rfl⟩) (ct_pre hC hK hW0) rfl rfl hl.1 rfl (lv_room (Nat.le_of_ble_eq_true rfl)) dL_law_895 ⟨by show _ ≤ 600000; omega, by show _ ≤ 7302250; omega⟩) hS (fun a _ h => h.1) (fun a h => h.1) (fun rx u st H1 locs ht hvm hw hB hz1 hk1 hS => ?_)
      have hwx : (rx, u) = sX_want n G (xs (Int32.toNatClampNeg (nI (6 * j + 1)))) (xs (Int32.toNatClampNeg (nI (6 * j + 2)))) (xs (Int32.toNatClampNeg (nI (6 * j + 3)))) := hw
      have hC2 : cp_ (dC, dI) cI cy x0 q (ax_ s.heap.size m0 qm) ad rl L n u H1 := by rw [← ht]; exact hB
      have hPm := hPm.kept (H1 := H1) (fun k x hx => hk1 x.1 ((hPm k x hx).lt) (fun h => h.2 (ma_at hx)))
      clear ht hvm hw hB hz1 hk1 hC hXs hml2
      refine lv_pop hx hb dL_law_898 rfl ?_
      refine lv_aload_n hx hb dL_law_899 rfl (lv_at hl 1 rfl) ?_
      refine lv_aload_n hx hb dL_law_900 rfl (lv_at hl 3 rfl) ?_
      refine lv_iload_n hx hb dL_law_901 rfl (lv_at hl 0 rfl) ?_
      refine lv_iconst (v := 1) hx hb dL_law_902 (by decide) ?_
      refine lv_iadd hx hb dL_law_903 ?_
      rw [show (nI (6 * j) + 1 : Int32) = nI (6 * j + 1) from nI_add (6 * j) 1]
      refine va_sld hx hb hX hbl hbA hS (i := nI (6 * j + 1)) (vp_in_nI (by omega) (by omega)) dL_law_904 ?_
      refine lv_aload_n hx hb dL_law_905 rfl (lv_at hl 3 rfl) ?_
      refine lv_iload_n hx hb dL_law_906 rfl (lv_at hl 0 rfl) ?_
      refine lv_iconst (v := 2) hx hb dL_law_907 (by decide) ?_
      refine lv_iadd hx hb dL_law_908 ?_
      rw [show (nI (6 * j) + 2 : Int32) = nI (6 * j + 2) from nI_add (6 * j) 2]
      refine va_sld hx hb hX hbl hbA hS (i := nI (6 * j + 2)) (vp_in_nI (by omega) (by omega)) dL_law_909 ?_
      refine lv_aload_n hx hb dL_law_910 rfl (lv_at hl 3 rfl) ?_
      refine lv_iload_n hx hb dL_law_911 rfl (lv_at hl 0 rfl) ?_
      refine lv_iconst (v := 3) hx hb dL_law_912 (by decide) ?_
      refine lv_iadd hx hb dL_law_913 ?_
      rw [show (nI (6 * j) + 3 : Int32) = nI (6 * j + 3) from nI_add (6 * j) 3]
      refine va_sld hx hb hX hbl hbA hS (i := nI (6 * j + 3)) (vp_in_nI (by omega) (by omega)) dL_law_914 ?_
      refine va_calli (va_runV (As := [.int (xs (Int32.toNatClampNeg (nI (6 * j + 1)))), .int (xs (Int32.toNatClampNeg (nI (6 * j + 2)))), .int (xs (Int32.toNatClampNeg (nI (6 * j + 3))))]) (rest := []) ⟨hx, hb, hml, hown, hts⟩ (m_X8_want l dC dI m0 qm n cI cZ F hI hN (fun a => a ∈ ma_ m0 qm) hDm (xs (Int32.toNatClampNeg (nI (6 * j + 1)))) (xs (Int32.toNatClampNeg (nI (6 * j + 2)))) (xs (Int32.toNatClampNeg (nI (6 * j + 3))))) (cwV 3 hts gL_law_X8_want rfl rfl rfl (by decide +kernel) ⟨Nat.le_of_ble_eq_true rfl, Nat.le_of_ble_eq_true rfl⟩) (pu_pre hPm hKm (ci := 7) (q0 := 0) rfl rfl) rfl rfl hl.1 rfl (lv_room (Nat.le_of_ble_eq_true rfl)) dL_law_915 ⟨by show _ ≤ 600000; omega, by show _ ≤ 7302250; omega⟩) hS (fun a _ h => hMa a h) (fun a h => hMa a h) (fun rm v st3 H3 locs ht hvm hw hB hz1 hk1 hS => ?_)
      obtain ⟨hwm, hDm, hI⟩ := hw
      have hwm : (rm, v) = rM_want n F (xs (Int32.toNatClampNeg (nI (6 * j + 1)))) (xs (Int32.toNatClampNeg (nI (6 * j + 2)))) (xs (Int32.toNatClampNeg (nI (6 * j + 3)))) := hwm
      have hPm : va_P (dC, dI) vwCl (mw_ m0 qm n (v 44 0) cI cZ v) H3 := by rw [← ht]; exact hB
      have hDm : va_D (fun a => a ∈ ma_ m0 qm) (mw_ m0 qm n (v 44 0) cI cZ v) := hDm
      have hC := cp_kept (H1 := H3) hC2 (fun a ha hA => hk1 a ha hA.2)
      obtain ⟨q1, q2⟩ := s_want hR (xs (Int32.toNatClampNeg (nI (6 * j + 1)))) (xs (Int32.toNatClampNeg (nI (6 * j + 2)))) (xs (Int32.toNatClampNeg (nI (6 * j + 3))))
      rw [← hwx, ← hwm] at q1
      rw [← hwx, ← hwm] at q2
      have heq : rx = rm := q1
      have hR : rel_ n u v := q2
      clear ht hvm hB hz1 hk1
      refine lv_pop hx hb dL_law_918 rfl ?_
      refine lv_goto (tgt := 1170) hx hb dL_law_919 (by decide) ?_
      refine W.widen (k := 61 + 5 * (j + 1)) (n := 7067 + 36 * (j + 1)) (by omega) (by omega) ?_
      exact fin L ad rl n u v _ _ ls hC hPm hDm hI hN hR hS hl
    rcases (Decidable.em (z = 20)) with e_20 | e_20
    · refine lv_tableIn (off := 889) (tgt := 922) hx hb dL_law_33 (by rw [e_20]; decide) (by rw [e_20]; decide) (by rw [e_20]; rfl) (by decide) ?_
      refine lv_aload_n hx hb dL_law_922 rfl (lv_at hl 2 rfl) ?_
      refine lv_aload_n hx hb dL_law_923 rfl (lv_at hl 3 rfl) ?_
      refine lv_iload_n hx hb dL_law_924 rfl (lv_at hl 0 rfl) ?_
      refine lv_iconst (v := 1) hx hb dL_law_925 (by decide) ?_
      refine lv_iadd hx hb dL_law_926 ?_
      rw [show (nI (6 * j) + 1 : Int32) = nI (6 * j + 1) from nI_add (6 * j) 1]
      refine va_sld hx hb hX hbl hbA hS (i := nI (6 * j + 1)) (vp_in_nI (by omega) (by omega)) dL_law_927 ?_
      refine lv_aload_n hx hb dL_law_928 rfl (lv_at hl 3 rfl) ?_
      refine lv_iload_n hx hb dL_law_929 rfl (lv_at hl 0 rfl) ?_
      refine lv_iconst (v := 2) hx hb dL_law_930 (by decide) ?_
      refine lv_iadd hx hb dL_law_931 ?_
      rw [show (nI (6 * j) + 2 : Int32) = nI (6 * j + 2) from nI_add (6 * j) 2]
      refine va_sld hx hb hX hbl hbA hS (i := nI (6 * j + 2)) (vp_in_nI (by omega) (by omega)) dL_law_932 ?_
      refine lv_aload_n hx hb dL_law_933 rfl (lv_at hl 3 rfl) ?_
      refine lv_iload_n hx hb dL_law_934 rfl (lv_at hl 0 rfl) ?_
      refine lv_iconst (v := 3) hx hb dL_law_935 (by decide) ?_
      refine lv_iadd hx hb dL_law_936 ?_
      rw [show (nI (6 * j) + 3 : Int32) = nI (6 * j + 3) from nI_add (6 * j) 3]
      refine va_sld hx hb hX hbl hbA hS (i := nI (6 * j + 3)) (vp_in_nI (by omega) (by omega)) dL_law_937 ?_
      refine lv_aload_n hx hb dL_law_938 rfl (lv_at hl 3 rfl) ?_
      refine lv_iload_n hx hb dL_law_939 rfl (lv_at hl 0 rfl) ?_
      refine lv_iconst (v := 4) hx hb dL_law_940 (by decide) ?_
      refine lv_iadd hx hb dL_law_941 ?_
      rw [show (nI (6 * j) + 4 : Int32) = nI (6 * j + 4) from nI_add (6 * j) 4]
      refine va_sld hx hb hX hbl hbA hS (i := nI (6 * j + 4)) (vp_in_nI (by omega) (by omega)) dL_law_942 ?_
      refine pu_call (va_runV (As := [.int (xs (Int32.toNatClampNeg (nI (6 * j + 1)))), .int (xs (Int32.toNatClampNeg (nI (6 * j + 2)))), .int (xs (Int32.toNatClampNeg (nI (6 * j + 3)))), .int (xs (Int32.toNatClampNeg (nI (6 * j + 4))))]) (rest := []) ⟨hx, hb, hml, hown, hts⟩ (k_X7_indent l dC dI x0 q cI cy (ax_ s.heap.size m0 qm) ad rl L n G hN (xs (Int32.toNatClampNeg (nI (6 * j + 1)))) (xs (Int32.toNatClampNeg (nI (6 * j + 2)))) (xs (Int32.toNatClampNeg (nI (6 * j + 3)))) (xs (Int32.toNatClampNeg (nI (6 * j + 4))))) (cwV 4 hts gL_law_X7_indent rfl rfl rfl (by decide +kernel) ⟨Nat.le_of_ble_eq_true rfl, Nat.le_of_ble_eq_true rfl⟩) (ct_pre hC hK hW0) rfl rfl hl.1 rfl (lv_room (Nat.le_of_ble_eq_true rfl)) dL_law_943 ⟨by show _ ≤ 600000; omega, by show _ ≤ 7302250; omega⟩) ?_
      refine lv_pop hx hb dL_law_946 rfl ?_
      refine lv_aload_n hx hb dL_law_947 rfl (lv_at hl 1 rfl) ?_
      refine lv_aload_n hx hb dL_law_948 rfl (lv_at hl 3 rfl) ?_
      refine lv_iload_n hx hb dL_law_949 rfl (lv_at hl 0 rfl) ?_
      refine lv_iconst (v := 1) hx hb dL_law_950 (by decide) ?_
      refine lv_iadd hx hb dL_law_951 ?_
      rw [show (nI (6 * j) + 1 : Int32) = nI (6 * j + 1) from nI_add (6 * j) 1]
      refine va_sld hx hb hX hbl hbA hS (i := nI (6 * j + 1)) (vp_in_nI (by omega) (by omega)) dL_law_952 ?_
      refine lv_aload_n hx hb dL_law_953 rfl (lv_at hl 3 rfl) ?_
      refine lv_iload_n hx hb dL_law_954 rfl (lv_at hl 0 rfl) ?_
      refine lv_iconst (v := 2) hx hb dL_law_955 (by decide) ?_
      refine lv_iadd hx hb dL_law_956 ?_
      rw [show (nI (6 * j) + 2 : Int32) = nI (6 * j + 2) from nI_add (6 * j) 2]
      refine va_sld hx hb hX hbl hbA hS (i := nI (6 * j + 2)) (vp_in_nI (by omega) (by omega)) dL_law_957 ?_
      refine lv_aload_n hx hb dL_law_958 rfl (lv_at hl 3 rfl) ?_
      refine lv_iload_n hx hb dL_law_959 rfl (lv_at hl 0 rfl) ?_
      refine lv_iconst (v := 3) hx hb dL_law_960 (by decide) ?_
      refine lv_iadd hx hb dL_law_961 ?_
      rw [show (nI (6 * j) + 3 : Int32) = nI (6 * j + 3) from nI_add (6 * j) 3]
      refine va_sld hx hb hX hbl hbA hS (i := nI (6 * j + 3)) (vp_in_nI (by omega) (by omega)) dL_law_962 ?_
      refine lv_aload_n hx hb dL_law_963 rfl (lv_at hl 3 rfl) ?_
      refine lv_iload_n hx hb dL_law_964 rfl (lv_at hl 0 rfl) ?_
      refine lv_iconst (v := 4) hx hb dL_law_965 (by decide) ?_
      refine lv_iadd hx hb dL_law_966 ?_
      rw [show (nI (6 * j) + 4 : Int32) = nI (6 * j + 4) from nI_add (6 * j) 4]
      refine va_sld hx hb hX hbl hbA hS (i := nI (6 * j + 4)) (vp_in_nI (by omega) (by omega)) dL_law_967 ?_
      refine pu_call (va_runV (As := [.int (xs (Int32.toNatClampNeg (nI (6 * j + 1)))), .int (xs (Int32.toNatClampNeg (nI (6 * j + 2)))), .int (xs (Int32.toNatClampNeg (nI (6 * j + 3)))), .int (xs (Int32.toNatClampNeg (nI (6 * j + 4))))]) (rest := []) ⟨hx, hb, hml, hown, hts⟩ (k_X8_indent l dC dI m0 qm n cI cZ F hI hN (xs (Int32.toNatClampNeg (nI (6 * j + 1)))) (xs (Int32.toNatClampNeg (nI (6 * j + 2)))) (xs (Int32.toNatClampNeg (nI (6 * j + 3)))) (xs (Int32.toNatClampNeg (nI (6 * j + 4))))) (cwV 4 hts gL_law_X8_indent rfl rfl rfl (by decide +kernel) ⟨Nat.le_of_ble_eq_true rfl, Nat.le_of_ble_eq_true rfl⟩) (pu_pre hPm hKm (ci := 7) (q0 := 0) rfl rfl) rfl rfl hl.1 rfl (lv_room (Nat.le_of_ble_eq_true rfl)) dL_law_968 ⟨by show _ ≤ 600000; omega, by show _ ≤ 7302250; omega⟩) ?_
      refine lv_pop hx hb dL_law_971 rfl ?_
      refine lv_goto (tgt := 1170) hx hb dL_law_972 (by decide) ?_
      refine W.widen (k := 61 + 5 * (j + 1)) (n := 7067 + 36 * (j + 1)) (by omega) (by omega) ?_
      exact fin L ad rl n G F _ _ ls hC hPm hDm hI hN hR hS hl
    rcases (Decidable.em (z = 21)) with e_21 | e_21
    · refine lv_tableIn (off := 942) (tgt := 975) hx hb dL_law_33 (by rw [e_21]; decide) (by rw [e_21]; decide) (by rw [e_21]; rfl) (by decide) ?_
      refine lv_aload_n hx hb dL_law_975 rfl (lv_at hl 2 rfl) ?_
      refine lv_aload_n hx hb dL_law_976 rfl (lv_at hl 3 rfl) ?_
      refine lv_iload_n hx hb dL_law_977 rfl (lv_at hl 0 rfl) ?_
      refine lv_iconst (v := 1) hx hb dL_law_978 (by decide) ?_
      refine lv_iadd hx hb dL_law_979 ?_
      rw [show (nI (6 * j) + 1 : Int32) = nI (6 * j + 1) from nI_add (6 * j) 1]
      refine va_sld hx hb hX hbl hbA hS (i := nI (6 * j + 1)) (vp_in_nI (by omega) (by omega)) dL_law_980 ?_
      refine lv_aload_n hx hb dL_law_981 rfl (lv_at hl 3 rfl) ?_
      refine lv_iload_n hx hb dL_law_982 rfl (lv_at hl 0 rfl) ?_
      refine lv_iconst (v := 2) hx hb dL_law_983 (by decide) ?_
      refine lv_iadd hx hb dL_law_984 ?_
      rw [show (nI (6 * j) + 2 : Int32) = nI (6 * j + 2) from nI_add (6 * j) 2]
      refine va_sld hx hb hX hbl hbA hS (i := nI (6 * j + 2)) (vp_in_nI (by omega) (by omega)) dL_law_985 ?_
      refine lv_aload_n hx hb dL_law_986 rfl (lv_at hl 3 rfl) ?_
      refine lv_iload_n hx hb dL_law_987 rfl (lv_at hl 0 rfl) ?_
      refine lv_iconst (v := 3) hx hb dL_law_988 (by decide) ?_
      refine lv_iadd hx hb dL_law_989 ?_
      rw [show (nI (6 * j) + 3 : Int32) = nI (6 * j + 3) from nI_add (6 * j) 3]
      refine va_sld hx hb hX hbl hbA hS (i := nI (6 * j + 3)) (vp_in_nI (by omega) (by omega)) dL_law_990 ?_
      refine lv_aload_n hx hb dL_law_991 rfl (lv_at hl 3 rfl) ?_
      refine lv_iload_n hx hb dL_law_992 rfl (lv_at hl 0 rfl) ?_
      refine lv_iconst (v := 4) hx hb dL_law_993 (by decide) ?_
      refine lv_iadd hx hb dL_law_994 ?_
      rw [show (nI (6 * j) + 4 : Int32) = nI (6 * j + 4) from nI_add (6 * j) 4]
      refine va_sld hx hb hX hbl hbA hS (i := nI (6 * j + 4)) (vp_in_nI (by omega) (by omega)) dL_law_995 ?_
      refine lv_aload_n hx hb dL_law_996 rfl (lv_at hl 3 rfl) ?_
      refine lv_iload_n hx hb dL_law_997 rfl (lv_at hl 0 rfl) ?_
      refine lv_iconst (v := 5) hx hb dL_law_998 (by decide) ?_
      refine lv_iadd hx hb dL_law_999 ?_
      rw [show (nI (6 * j) + 5 : Int32) = nI (6 * j + 5) from nI_add (6 * j) 5]
      refine va_sld hx hb hX hbl hbA hS (i := nI (6 * j + 5)) (vp_in_nI (by omega) (by omega)) dL_law_1000 ?_
      refine pu_call (va_runV (As := [.int (xs (Int32.toNatClampNeg (nI (6 * j + 1)))), .int (xs (Int32.toNatClampNeg (nI (6 * j + 2)))), .int (xs (Int32.toNatClampNeg (nI (6 * j + 3)))), .int (xs (Int32.toNatClampNeg (nI (6 * j + 4)))), .int (xs (Int32.toNatClampNeg (nI (6 * j + 5))))]) (rest := []) ⟨hx, hb, hml, hown, hts⟩ (k_X7_cost l dC dI x0 q cI cy (ax_ s.heap.size m0 qm) ad rl L n G hN (xs (Int32.toNatClampNeg (nI (6 * j + 1)))) (xs (Int32.toNatClampNeg (nI (6 * j + 2)))) (xs (Int32.toNatClampNeg (nI (6 * j + 3)))) (xs (Int32.toNatClampNeg (nI (6 * j + 4)))) (xs (Int32.toNatClampNeg (nI (6 * j + 5))))) (cwV 5 hts gL_law_X7_cost rfl rfl rfl (by decide +kernel) ⟨Nat.le_of_ble_eq_true rfl, Nat.le_of_ble_eq_true rfl⟩) (ct_pre hC hK hW0) rfl rfl hl.1 rfl (lv_room (Nat.le_of_ble_eq_true rfl)) dL_law_1001 ⟨by show _ ≤ 600000; omega, by show _ ≤ 7302250; omega⟩) ?_
      refine lv_pop hx hb dL_law_1004 rfl ?_
      refine lv_aload_n hx hb dL_law_1005 rfl (lv_at hl 1 rfl) ?_
      refine lv_aload_n hx hb dL_law_1006 rfl (lv_at hl 3 rfl) ?_
      refine lv_iload_n hx hb dL_law_1007 rfl (lv_at hl 0 rfl) ?_
      refine lv_iconst (v := 1) hx hb dL_law_1008 (by decide) ?_
      refine lv_iadd hx hb dL_law_1009 ?_
      rw [show (nI (6 * j) + 1 : Int32) = nI (6 * j + 1) from nI_add (6 * j) 1]
      refine va_sld hx hb hX hbl hbA hS (i := nI (6 * j + 1)) (vp_in_nI (by omega) (by omega)) dL_law_1010 ?_
      refine lv_aload_n hx hb dL_law_1011 rfl (lv_at hl 3 rfl) ?_
      refine lv_iload_n hx hb dL_law_1012 rfl (lv_at hl 0 rfl) ?_
      refine lv_iconst (v := 2) hx hb dL_law_1013 (by decide) ?_
      refine lv_iadd hx hb dL_law_1014 ?_
      rw [show (nI (6 * j) + 2 : Int32) = nI (6 * j + 2) from nI_add (6 * j) 2]
      refine va_sld hx hb hX hbl hbA hS (i := nI (6 * j + 2)) (vp_in_nI (by omega) (by omega)) dL_law_1015 ?_
      refine lv_aload_n hx hb dL_law_1016 rfl (lv_at hl 3 rfl) ?_
      refine lv_iload_n hx hb dL_law_1017 rfl (lv_at hl 0 rfl) ?_
      refine lv_iconst (v := 3) hx hb dL_law_1018 (by decide) ?_
      refine lv_iadd hx hb dL_law_1019 ?_
      rw [show (nI (6 * j) + 3 : Int32) = nI (6 * j + 3) from nI_add (6 * j) 3]
      refine va_sld hx hb hX hbl hbA hS (i := nI (6 * j + 3)) (vp_in_nI (by omega) (by omega)) dL_law_1020 ?_
      refine lv_aload_n hx hb dL_law_1021 rfl (lv_at hl 3 rfl) ?_
      refine lv_iload_n hx hb dL_law_1022 rfl (lv_at hl 0 rfl) ?_
      refine lv_iconst (v := 4) hx hb dL_law_1023 (by decide) ?_
      refine lv_iadd hx hb dL_law_1024 ?_
      rw [show (nI (6 * j) + 4 : Int32) = nI (6 * j + 4) from nI_add (6 * j) 4]
      refine va_sld hx hb hX hbl hbA hS (i := nI (6 * j + 4)) (vp_in_nI (by omega) (by omega)) dL_law_1025 ?_
      refine lv_aload_n hx hb dL_law_1026 rfl (lv_at hl 3 rfl) ?_
      refine lv_iload_n hx hb dL_law_1027 rfl (lv_at hl 0 rfl) ?_
      refine lv_iconst (v := 5) hx hb dL_law_1028 (by decide) ?_
      refine lv_iadd hx hb dL_law_1029 ?_
      rw [show (nI (6 * j) + 5 : Int32) = nI (6 * j + 5) from nI_add (6 * j) 5]
      refine va_sld hx hb hX hbl hbA hS (i := nI (6 * j + 5)) (vp_in_nI (by omega) (by omega)) dL_law_1030 ?_
      refine pu_call (va_runV (As := [.int (xs (Int32.toNatClampNeg (nI (6 * j + 1)))), .int (xs (Int32.toNatClampNeg (nI (6 * j + 2)))), .int (xs (Int32.toNatClampNeg (nI (6 * j + 3)))), .int (xs (Int32.toNatClampNeg (nI (6 * j + 4)))), .int (xs (Int32.toNatClampNeg (nI (6 * j + 5))))]) (rest := []) ⟨hx, hb, hml, hown, hts⟩ (k_X8_cost l dC dI m0 qm n cI cZ F hI hN (xs (Int32.toNatClampNeg (nI (6 * j + 1)))) (xs (Int32.toNatClampNeg (nI (6 * j + 2)))) (xs (Int32.toNatClampNeg (nI (6 * j + 3)))) (xs (Int32.toNatClampNeg (nI (6 * j + 4)))) (xs (Int32.toNatClampNeg (nI (6 * j + 5))))) (cwV 5 hts gL_law_X8_cost rfl rfl rfl (by decide +kernel) ⟨Nat.le_of_ble_eq_true rfl, Nat.le_of_ble_eq_true rfl⟩) (pu_pre hPm hKm (ci := 7) (q0 := 0) rfl rfl) rfl rfl hl.1 rfl (lv_room (Nat.le_of_ble_eq_true rfl)) dL_law_1031 ⟨by show _ ≤ 600000; omega, by show _ ≤ 7302250; omega⟩) ?_
      refine lv_pop hx hb dL_law_1034 rfl ?_
      refine lv_goto (tgt := 1170) hx hb dL_law_1035 (by decide) ?_
      refine W.widen (k := 61 + 5 * (j + 1)) (n := 7067 + 36 * (j + 1)) (by omega) (by omega) ?_
      exact fin L ad rl n G F _ _ ls hC hPm hDm hI hN hR hS hl
    rcases (Decidable.em (z = 22)) with e_22 | e_22
    · refine lv_tableIn (off := 1005) (tgt := 1038) hx hb dL_law_33 (by rw [e_22]; decide) (by rw [e_22]; decide) (by rw [e_22]; rfl) (by decide) ?_
      refine lv_aload_n hx hb dL_law_1038 rfl (lv_at hl 2 rfl) ?_
      refine lv_aload_n hx hb dL_law_1039 rfl (lv_at hl 3 rfl) ?_
      refine lv_iload_n hx hb dL_law_1040 rfl (lv_at hl 0 rfl) ?_
      refine lv_iconst (v := 1) hx hb dL_law_1041 (by decide) ?_
      refine lv_iadd hx hb dL_law_1042 ?_
      rw [show (nI (6 * j) + 1 : Int32) = nI (6 * j + 1) from nI_add (6 * j) 1]
      refine va_sld hx hb hX hbl hbA hS (i := nI (6 * j + 1)) (vp_in_nI (by omega) (by omega)) dL_law_1043 ?_
      refine lv_aload_n hx hb dL_law_1044 rfl (lv_at hl 3 rfl) ?_
      refine lv_iload_n hx hb dL_law_1045 rfl (lv_at hl 0 rfl) ?_
      refine lv_iconst (v := 2) hx hb dL_law_1046 (by decide) ?_
      refine lv_iadd hx hb dL_law_1047 ?_
      rw [show (nI (6 * j) + 2 : Int32) = nI (6 * j + 2) from nI_add (6 * j) 2]
      refine va_sld hx hb hX hbl hbA hS (i := nI (6 * j + 2)) (vp_in_nI (by omega) (by omega)) dL_law_1048 ?_
      refine pu_call (va_runV (As := [.int (xs (Int32.toNatClampNeg (nI (6 * j + 1)))), .int (xs (Int32.toNatClampNeg (nI (6 * j + 2))))]) (rest := []) ⟨hx, hb, hml, hown, hts⟩ (k_X7_quarrel l dC dI x0 q cI cy (ax_ s.heap.size m0 qm) ad rl L n G hN (xs (Int32.toNatClampNeg (nI (6 * j + 1)))) (xs (Int32.toNatClampNeg (nI (6 * j + 2))))) (cwV 2 hts gL_law_X7_quarrel rfl rfl rfl (by decide +kernel) ⟨Nat.le_of_ble_eq_true rfl, Nat.le_of_ble_eq_true rfl⟩) (ct_pre hC hK hW0) rfl rfl hl.1 rfl (lv_room (Nat.le_of_ble_eq_true rfl)) dL_law_1049 ⟨by show _ ≤ 600000; omega, by show _ ≤ 7302250; omega⟩) ?_
      refine lv_pop hx hb dL_law_1052 rfl ?_
      refine lv_aload_n hx hb dL_law_1053 rfl (lv_at hl 1 rfl) ?_
      refine lv_aload_n hx hb dL_law_1054 rfl (lv_at hl 3 rfl) ?_
      refine lv_iload_n hx hb dL_law_1055 rfl (lv_at hl 0 rfl) ?_
      refine lv_iconst (v := 1) hx hb dL_law_1056 (by decide) ?_
      refine lv_iadd hx hb dL_law_1057 ?_
      rw [show (nI (6 * j) + 1 : Int32) = nI (6 * j + 1) from nI_add (6 * j) 1]
      refine va_sld hx hb hX hbl hbA hS (i := nI (6 * j + 1)) (vp_in_nI (by omega) (by omega)) dL_law_1058 ?_
      refine lv_aload_n hx hb dL_law_1059 rfl (lv_at hl 3 rfl) ?_
      refine lv_iload_n hx hb dL_law_1060 rfl (lv_at hl 0 rfl) ?_
      refine lv_iconst (v := 2) hx hb dL_law_1061 (by decide) ?_
      refine lv_iadd hx hb dL_law_1062 ?_
      rw [show (nI (6 * j) + 2 : Int32) = nI (6 * j + 2) from nI_add (6 * j) 2]
      refine va_sld hx hb hX hbl hbA hS (i := nI (6 * j + 2)) (vp_in_nI (by omega) (by omega)) dL_law_1063 ?_
      refine pu_call (va_runV (As := [.int (xs (Int32.toNatClampNeg (nI (6 * j + 1)))), .int (xs (Int32.toNatClampNeg (nI (6 * j + 2))))]) (rest := []) ⟨hx, hb, hml, hown, hts⟩ (k_X8_quarrel l dC dI m0 qm n cI cZ F hI hN (xs (Int32.toNatClampNeg (nI (6 * j + 1)))) (xs (Int32.toNatClampNeg (nI (6 * j + 2))))) (cwV 2 hts gL_law_X8_quarrel rfl rfl rfl (by decide +kernel) ⟨Nat.le_of_ble_eq_true rfl, Nat.le_of_ble_eq_true rfl⟩) (pu_pre hPm hKm (ci := 7) (q0 := 0) rfl rfl) rfl rfl hl.1 rfl (lv_room (Nat.le_of_ble_eq_true rfl)) dL_law_1064 ⟨by show _ ≤ 600000; omega, by show _ ≤ 7302250; omega⟩) ?_
      refine lv_pop hx hb dL_law_1067 rfl ?_
      refine lv_goto (tgt := 1170) hx hb dL_law_1068 (by decide) ?_
      refine W.widen (k := 61 + 5 * (j + 1)) (n := 7067 + 36 * (j + 1)) (by omega) (by omega) ?_
      exact fin L ad rl n G F _ _ ls hC hPm hDm hI hN hR hS hl
    rcases (Decidable.em (z = 23)) with e_23 | e_23
    · refine lv_tableIn (off := 1038) (tgt := 1071) hx hb dL_law_33 (by rw [e_23]; decide) (by rw [e_23]; decide) (by rw [e_23]; rfl) (by decide) ?_
      refine lv_aload_n hx hb dL_law_1071 rfl (lv_at hl 2 rfl) ?_
      refine lv_aload_n hx hb dL_law_1072 rfl (lv_at hl 3 rfl) ?_
      refine lv_iload_n hx hb dL_law_1073 rfl (lv_at hl 0 rfl) ?_
      refine lv_iconst (v := 1) hx hb dL_law_1074 (by decide) ?_
      refine lv_iadd hx hb dL_law_1075 ?_
      rw [show (nI (6 * j) + 1 : Int32) = nI (6 * j + 1) from nI_add (6 * j) 1]
      refine va_sld hx hb hX hbl hbA hS (i := nI (6 * j + 1)) (vp_in_nI (by omega) (by omega)) dL_law_1076 ?_
      refine lv_aload_n hx hb dL_law_1077 rfl (lv_at hl 3 rfl) ?_
      refine lv_iload_n hx hb dL_law_1078 rfl (lv_at hl 0 rfl) ?_
      refine lv_iconst (v := 2) hx hb dL_law_1079 (by decide) ?_
      refine lv_iadd hx hb dL_law_1080 ?_
      rw [show (nI (6 * j) + 2 : Int32) = nI (6 * j + 2) from nI_add (6 * j) 2]
      refine va_sld hx hb hX hbl hbA hS (i := nI (6 * j + 2)) (vp_in_nI (by omega) (by omega)) dL_law_1081 ?_
      refine pu_call (va_runV (As := [.int (xs (Int32.toNatClampNeg (nI (6 * j + 1)))), .int (xs (Int32.toNatClampNeg (nI (6 * j + 2))))]) (rest := []) ⟨hx, hb, hml, hown, hts⟩ (k_X7_canoe l dC dI x0 q cI cy (ax_ s.heap.size m0 qm) ad rl L n G hN (xs (Int32.toNatClampNeg (nI (6 * j + 1)))) (xs (Int32.toNatClampNeg (nI (6 * j + 2))))) (cwV 2 hts gL_law_X7_canoe rfl rfl rfl (by decide +kernel) ⟨Nat.le_of_ble_eq_true rfl, Nat.le_of_ble_eq_true rfl⟩) (ct_pre hC hK hW0) rfl rfl hl.1 rfl (lv_room (Nat.le_of_ble_eq_true rfl)) dL_law_1082 ⟨by show _ ≤ 600000; omega, by show _ ≤ 7302250; omega⟩) ?_
      refine lv_pop hx hb dL_law_1085 rfl ?_
      refine lv_aload_n hx hb dL_law_1086 rfl (lv_at hl 1 rfl) ?_
      refine lv_aload_n hx hb dL_law_1087 rfl (lv_at hl 3 rfl) ?_
      refine lv_iload_n hx hb dL_law_1088 rfl (lv_at hl 0 rfl) ?_
      refine lv_iconst (v := 1) hx hb dL_law_1089 (by decide) ?_
      refine lv_iadd hx hb dL_law_1090 ?_
      rw [show (nI (6 * j) + 1 : Int32) = nI (6 * j + 1) from nI_add (6 * j) 1]
      refine va_sld hx hb hX hbl hbA hS (i := nI (6 * j + 1)) (vp_in_nI (by omega) (by omega)) dL_law_1091 ?_
      refine lv_aload_n hx hb dL_law_1092 rfl (lv_at hl 3 rfl) ?_
      refine lv_iload_n hx hb dL_law_1093 rfl (lv_at hl 0 rfl) ?_
      refine lv_iconst (v := 2) hx hb dL_law_1094 (by decide) ?_
      refine lv_iadd hx hb dL_law_1095 ?_
      rw [show (nI (6 * j) + 2 : Int32) = nI (6 * j + 2) from nI_add (6 * j) 2]
      refine va_sld hx hb hX hbl hbA hS (i := nI (6 * j + 2)) (vp_in_nI (by omega) (by omega)) dL_law_1096 ?_
      refine pu_call (va_runV (As := [.int (xs (Int32.toNatClampNeg (nI (6 * j + 1)))), .int (xs (Int32.toNatClampNeg (nI (6 * j + 2))))]) (rest := []) ⟨hx, hb, hml, hown, hts⟩ (k_X8_canoe l dC dI m0 qm n cI cZ F hI hN (xs (Int32.toNatClampNeg (nI (6 * j + 1)))) (xs (Int32.toNatClampNeg (nI (6 * j + 2))))) (cwV 2 hts gL_law_X8_canoe rfl rfl rfl (by decide +kernel) ⟨Nat.le_of_ble_eq_true rfl, Nat.le_of_ble_eq_true rfl⟩) (pu_pre hPm hKm (ci := 7) (q0 := 0) rfl rfl) rfl rfl hl.1 rfl (lv_room (Nat.le_of_ble_eq_true rfl)) dL_law_1097 ⟨by show _ ≤ 600000; omega, by show _ ≤ 7302250; omega⟩) ?_
      refine lv_pop hx hb dL_law_1100 rfl ?_
      refine lv_goto (tgt := 1170) hx hb dL_law_1101 (by decide) ?_
      refine W.widen (k := 61 + 5 * (j + 1)) (n := 7067 + 36 * (j + 1)) (by omega) (by omega) ?_
      exact fin L ad rl n G F _ _ ls hC hPm hDm hI hN hR hS hl
    rcases (Decidable.em (z = 24)) with e_24 | e_24
    · refine lv_tableIn (off := 1071) (tgt := 1104) hx hb dL_law_33 (by rw [e_24]; decide) (by rw [e_24]; decide) (by rw [e_24]; rfl) (by decide) ?_
      refine lv_aload_n hx hb dL_law_1104 rfl (lv_at hl 2 rfl) ?_
      refine lv_aload_n hx hb dL_law_1105 rfl (lv_at hl 3 rfl) ?_
      refine lv_iload_n hx hb dL_law_1106 rfl (lv_at hl 0 rfl) ?_
      refine lv_iconst (v := 1) hx hb dL_law_1107 (by decide) ?_
      refine lv_iadd hx hb dL_law_1108 ?_
      rw [show (nI (6 * j) + 1 : Int32) = nI (6 * j + 1) from nI_add (6 * j) 1]
      refine va_sld hx hb hX hbl hbA hS (i := nI (6 * j + 1)) (vp_in_nI (by omega) (by omega)) dL_law_1109 ?_
      refine lv_aload_n hx hb dL_law_1110 rfl (lv_at hl 3 rfl) ?_
      refine lv_iload_n hx hb dL_law_1111 rfl (lv_at hl 0 rfl) ?_
      refine lv_iconst (v := 2) hx hb dL_law_1112 (by decide) ?_
      refine lv_iadd hx hb dL_law_1113 ?_
      rw [show (nI (6 * j) + 2 : Int32) = nI (6 * j + 2) from nI_add (6 * j) 2]
      refine va_sld hx hb hX hbl hbA hS (i := nI (6 * j + 2)) (vp_in_nI (by omega) (by omega)) dL_law_1114 ?_
      refine pu_call (va_runV (As := [.int (xs (Int32.toNatClampNeg (nI (6 * j + 1)))), .int (xs (Int32.toNatClampNeg (nI (6 * j + 2))))]) (rest := []) ⟨hx, hb, hml, hown, hts⟩ (k_X7_told l dC dI x0 q cI cy (ax_ s.heap.size m0 qm) ad rl L n G hN (xs (Int32.toNatClampNeg (nI (6 * j + 1)))) (xs (Int32.toNatClampNeg (nI (6 * j + 2))))) (cwV 2 hts gL_law_X7_told rfl rfl rfl (by decide +kernel) ⟨Nat.le_of_ble_eq_true rfl, Nat.le_of_ble_eq_true rfl⟩) (ct_pre hC hK hW0) rfl rfl hl.1 rfl (lv_room (Nat.le_of_ble_eq_true rfl)) dL_law_1115 ⟨by show _ ≤ 600000; omega, by show _ ≤ 7302250; omega⟩) ?_
      refine lv_aload_n hx hb dL_law_1118 rfl (lv_at hl 1 rfl) ?_
      refine lv_aload_n hx hb dL_law_1119 rfl (lv_at hl 3 rfl) ?_
      refine lv_iload_n hx hb dL_law_1120 rfl (lv_at hl 0 rfl) ?_
      refine lv_iconst (v := 1) hx hb dL_law_1121 (by decide) ?_
      refine lv_iadd hx hb dL_law_1122 ?_
      rw [show (nI (6 * j) + 1 : Int32) = nI (6 * j + 1) from nI_add (6 * j) 1]
      refine va_sld hx hb hX hbl hbA hS (i := nI (6 * j + 1)) (vp_in_nI (by omega) (by omega)) dL_law_1123 ?_
      refine lv_aload_n hx hb dL_law_1124 rfl (lv_at hl 3 rfl) ?_
      refine lv_iload_n hx hb dL_law_1125 rfl (lv_at hl 0 rfl) ?_
      refine lv_iconst (v := 2) hx hb dL_law_1126 (by decide) ?_
      refine lv_iadd hx hb dL_law_1127 ?_
      rw [show (nI (6 * j) + 2 : Int32) = nI (6 * j + 2) from nI_add (6 * j) 2]
      refine va_sld hx hb hX hbl hbA hS (i := nI (6 * j + 2)) (vp_in_nI (by omega) (by omega)) dL_law_1128 ?_
      refine pu_call (va_runV (As := [.int (xs (Int32.toNatClampNeg (nI (6 * j + 1)))), .int (xs (Int32.toNatClampNeg (nI (6 * j + 2))))]) (rest := [.int (sX_told n G (xs (Int32.toNatClampNeg (nI (6 * j + 1)))) (xs (Int32.toNatClampNeg (nI (6 * j + 2)))))]) ⟨hx, hb, hml, hown, hts⟩ (k_X8_told l dC dI m0 qm n cI cZ F hI hN (xs (Int32.toNatClampNeg (nI (6 * j + 1)))) (xs (Int32.toNatClampNeg (nI (6 * j + 2))))) (cwV 2 hts gL_law_X8_told rfl rfl rfl (by decide +kernel) ⟨Nat.le_of_ble_eq_true rfl, Nat.le_of_ble_eq_true rfl⟩) (pu_pre hPm hKm (ci := 7) (q0 := 0) rfl rfl) rfl rfl hl.1 rfl (lv_room (Nat.le_of_ble_eq_true rfl)) dL_law_1129 ⟨by show _ ≤ 600000; omega, by show _ ≤ 7302250; omega⟩) ?_
      refine lv_icmp_eq (tgt := 1170) hx hb dL_law_1132 (by decide) (fun _ => ?_) (fun h => absurd (e_told hR hN (xs (Int32.toNatClampNeg (nI (6 * j + 1)))) (xs (Int32.toNatClampNeg (nI (6 * j + 2))))) h)
      refine W.widen (k := 61 + 5 * (j + 1)) (n := 7067 + 36 * (j + 1)) (by omega) (by omega) ?_
      exact fin L ad rl n G F _ _ ls hC hPm hDm hI hN hR hS hl
    rcases (Decidable.em (z = 25)) with e_25 | e_25
    · refine lv_tableIn (off := 1104) (tgt := 1137) hx hb dL_law_33 (by rw [e_25]; decide) (by rw [e_25]; decide) (by rw [e_25]; rfl) (by decide) ?_
      refine lv_aload_n hx hb dL_law_1137 rfl (lv_at hl 2 rfl) ?_
      refine lv_aload_n hx hb dL_law_1138 rfl (lv_at hl 3 rfl) ?_
      refine lv_iload_n hx hb dL_law_1139 rfl (lv_at hl 0 rfl) ?_
      refine lv_iconst (v := 1) hx hb dL_law_1140 (by decide) ?_
      refine lv_iadd hx hb dL_law_1141 ?_
      rw [show (nI (6 * j) + 1 : Int32) = nI (6 * j + 1) from nI_add (6 * j) 1]
      refine va_sld hx hb hX hbl hbA hS (i := nI (6 * j + 1)) (vp_in_nI (by omega) (by omega)) dL_law_1142 ?_
      refine lv_aload_n hx hb dL_law_1143 rfl (lv_at hl 3 rfl) ?_
      refine lv_iload_n hx hb dL_law_1144 rfl (lv_at hl 0 rfl) ?_
      refine lv_iconst (v := 2) hx hb dL_law_1145 (by decide) ?_
      refine lv_iadd hx hb dL_law_1146 ?_
      rw [show (nI (6 * j) + 2 : Int32) = nI (6 * j + 2) from nI_add (6 * j) 2]
      refine va_sld hx hb hX hbl hbA hS (i := nI (6 * j + 2)) (vp_in_nI (by omega) (by omega)) dL_law_1147 ?_
      refine pu_call (va_runV (As := [.int (xs (Int32.toNatClampNeg (nI (6 * j + 1)))), .int (xs (Int32.toNatClampNeg (nI (6 * j + 2))))]) (rest := []) ⟨hx, hb, hml, hown, hts⟩ (k_X7_count l dC dI x0 q cI cy (ax_ s.heap.size m0 qm) ad rl L n G hN (xs (Int32.toNatClampNeg (nI (6 * j + 1)))) (xs (Int32.toNatClampNeg (nI (6 * j + 2))))) (cwV 2 hts gL_law_X7_count rfl rfl rfl (by decide +kernel) ⟨Nat.le_of_ble_eq_true rfl, Nat.le_of_ble_eq_true rfl⟩) (ct_pre hC hK hW0) rfl rfl hl.1 rfl (lv_room (Nat.le_of_ble_eq_true rfl)) dL_law_1148 ⟨by show _ ≤ 600000; omega, by show _ ≤ 7302250; omega⟩) ?_
      refine lv_pop hx hb dL_law_1151 rfl ?_
      refine lv_aload_n hx hb dL_law_1152 rfl (lv_at hl 1 rfl) ?_
      refine lv_aload_n hx hb dL_law_1153 rfl (lv_at hl 3 rfl) ?_
      refine lv_iload_n hx hb dL_law_1154 rfl (lv_at hl 0 rfl) ?_
      refine lv_iconst (v := 1) hx hb dL_law_1155 (by decide) ?_
      refine lv_iadd hx hb dL_law_1156 ?_
      rw [show (nI (6 * j) + 1 : Int32) = nI (6 * j + 1) from nI_add (6 * j) 1]
      refine va_sld hx hb hX hbl hbA hS (i := nI (6 * j + 1)) (vp_in_nI (by omega) (by omega)) dL_law_1157 ?_
      refine lv_aload_n hx hb dL_law_1158 rfl (lv_at hl 3 rfl) ?_
      refine lv_iload_n hx hb dL_law_1159 rfl (lv_at hl 0 rfl) ?_
      refine lv_iconst (v := 2) hx hb dL_law_1160 (by decide) ?_
      refine lv_iadd hx hb dL_law_1161 ?_
      rw [show (nI (6 * j) + 2 : Int32) = nI (6 * j + 2) from nI_add (6 * j) 2]
      refine va_sld hx hb hX hbl hbA hS (i := nI (6 * j + 2)) (vp_in_nI (by omega) (by omega)) dL_law_1162 ?_
      refine pu_call (va_runV (As := [.int (xs (Int32.toNatClampNeg (nI (6 * j + 1)))), .int (xs (Int32.toNatClampNeg (nI (6 * j + 2))))]) (rest := []) ⟨hx, hb, hml, hown, hts⟩ (k_X8_count l dC dI m0 qm n cI cZ F hI hN (xs (Int32.toNatClampNeg (nI (6 * j + 1)))) (xs (Int32.toNatClampNeg (nI (6 * j + 2))))) (cwV 2 hts gL_law_X8_count rfl rfl rfl (by decide +kernel) ⟨Nat.le_of_ble_eq_true rfl, Nat.le_of_ble_eq_true rfl⟩) (pu_pre hPm hKm (ci := 7) (q0 := 0) rfl rfl) rfl rfl hl.1 rfl (lv_room (Nat.le_of_ble_eq_true rfl)) dL_law_1163 ⟨by show _ ≤ 600000; omega, by show _ ≤ 7302250; omega⟩) ?_
      refine lv_pop hx hb dL_law_1166 rfl ?_
      refine lv_goto (tgt := 1170) hx hb dL_law_1167 (by decide) ?_
      refine W.widen (k := 61 + 5 * (j + 1)) (n := 7067 + 36 * (j + 1)) (by omega) (by omega) ?_
      exact fin L ad rl n G F _ _ ls hC hPm hDm hI hN hR hS hl
    refine lv_tableOut (tgt := 1170) hx hb dL_law_33 (by have j_0 := sw_n (n := 0) (k := 0) e_0 (by decide); have j_1 := sw_n (n := 1) (k := 1) e_1 (by decide); have j_2 := sw_n (n := 2) (k := 2) e_2 (by decide); have j_3 := sw_n (n := 3) (k := 3) e_3 (by decide); have j_4 := sw_n (n := 4) (k := 4) e_4 (by decide); have j_5 := sw_n (n := 5) (k := 5) e_5 (by decide); have j_6 := sw_n (n := 6) (k := 6) e_6 (by decide); have j_7 := sw_n (n := 7) (k := 7) e_7 (by decide); have j_8 := sw_n (n := 8) (k := 8) e_8 (by decide); have j_9 := sw_n (n := 9) (k := 9) e_9 (by decide); have j_10 := sw_n (n := 10) (k := 10) e_10 (by decide); have j_11 := sw_n (n := 11) (k := 11) e_11 (by decide); have j_12 := sw_n (n := 12) (k := 12) e_12 (by decide); have j_13 := sw_n (n := 13) (k := 13) e_13 (by decide); have j_14 := sw_n (n := 14) (k := 14) e_14 (by decide); have j_15 := sw_n (n := 15) (k := 15) e_15 (by decide); have j_16 := sw_n (n := 16) (k := 16) e_16 (by decide); have j_17 := sw_n (n := 17) (k := 17) e_17 (by decide); have j_18 := sw_n (n := 18) (k := 18) e_18 (by decide); have j_19 := sw_n (n := 19) (k := 19) e_19 (by decide); have j_20 := sw_n (n := 20) (k := 20) e_20 (by decide); have j_21 := sw_n (n := 21) (k := 21) e_21 (by decide); have j_22 := sw_n (n := 22) (k := 22) e_22 (by decide); have j_23 := sw_n (n := 23) (k := 23) e_23 (by decide); have j_24 := sw_n (n := 24) (k := 24) e_24 (by decide); have j_25 := sw_n (n := 25) (k := 25) e_25 (by decide); omega) (by decide) ?_
    refine W.widen (k := 61 + 5 * (j + 1)) (n := 7067 + 36 * (j + 1)) (by omega) (by omega) ?_
    exact fin L ad rl n G F _ _ ls hC hPm hDm hI hN hR hS hl
