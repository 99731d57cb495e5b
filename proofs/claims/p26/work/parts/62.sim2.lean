/-! spoil, post, letters -/
theorem nI_subI {x n : Int32} (h1 : 1 ≤ n) (h2 : n ≤ x) : x - n < x ∧ 0 ≤ x - n := by
  rw [sp_le, show (1 : Int32).toInt = 1 from rfl] at h1
  rw [sp_le] at h2
  obtain ⟨a, ha, rfl⟩ := nI_of (x := x) (fun z => by rw [sp_lt, show (0 : Int32).toInt = 0 from rfl] at z; omega)
  obtain ⟨b, hb, rfl⟩ := nI_of (x := n) (fun z => by rw [sp_lt, show (0 : Int32).toInt = 0 from rfl] at z; omega)
  rw [nI_toInt (by omega)] at h1 h2
  rw [nI_toInt (by omega)] at h2
  rw [pk_sub (by omega)]
  exact ⟨nI_lt (by omega) (by omega), nI_pos' (by omega)⟩
theorem rel_spoil {n : Nat → Nat} {G F : Nat → Nat → Int32} (h : rel_ n G F) {c w : Nat} (hc : c < n 3) (hw : w < 6) (h18 : F 18 c = 0) {v : Int32} (hv : v < F 22 (6 * c + w)) : rel_ n (up2 (up2 G 22 (6 * c + w) v) 24 c 1) (up2 F 22 (6 * c + w) v) := by
  obtain ⟨a1, a2, a3, a4, a5, a6, b⟩ := h
  refine ⟨rq_l (rq_up a1 22 _ v) c 1 rfl, a2, fun d hd => ?_, a4, a5, a6, b⟩
  obtain ⟨d1, d2⟩ := a3 d hd
  by_cases e : d = c
  · subst e
    obtain ⟨f1, f2, f3⟩ := d1 h18
    refine ⟨fun _ => ⟨f1, ?_, ?_⟩, fun z => ?_⟩
    · rw [up2_eq]
      refine ⟨fun z => absurd z (by decide), fun z => ?_⟩
      have z2 := z w hw
      rw [up2_eq] at z2
      have z3 : v = F 23 (6 * d + w) := z2
      have z4 := f3 w hw
      rw [← z3, sp_le] at z4
      rw [sp_lt] at hv
      omega
    · intro x hx
      by_cases ex : x = w
      · rw [ex, up2_eq]
        show v ≤ F 23 (6 * d + w)
        have z4 := f3 w hw
        rw [sp_le] at z4 ⊢
        rw [sp_lt] at hv
        omega
      · rw [up2_nk F 22 v (show 6 * d + x ≠ 6 * d + w by omega)]
        exact f3 x hx
    · exact absurd (h18.symm.trans z) (by decide)
  · rw [up2_nk (up2 G 22 (6 * c + w) v) 24 1 e]
    refine ⟨fun z => ?_, d2⟩
    obtain ⟨f1, f2, f3⟩ := d1 z
    refine ⟨f1, ⟨fun y x hx => ?_, fun y => f2.mpr (fun x hx => ?_)⟩, fun x hx => ?_⟩
    · rw [up2_nk F 22 v (show 6 * d + x ≠ 6 * c + w by omega)]
      exact f2.mp y x hx
    · have := y x hx
      rw [up2_nk F 22 v (show 6 * d + x ≠ 6 * c + w by omega)] at this
      exact this
    · rw [up2_nk F 22 v (show 6 * d + x ≠ 6 * c + w by omega)]
      exact f3 x hx
theorem s_spoil {n : Nat → Nat} {G F : Nat → Nat → Int32} (h : rel_ n G F) (hN : nb_ n) (a1 a2 a3 : Int32) : (sX_spoil n G a1 a2 a3).1 = (rM_spoil n F a1 a2 a3).1 ∧ rel_ n (sX_spoil n G a1 a2 a3).2 (rM_spoil n F a1 a2 a3).2 := by
  have e22 := h.1 22 rfl
  have e18 := h.1 18 rfl
  have e34 := h.1 34 rfl
  unfold sX_spoil rM_spoil rM_isAway
  rw [e22, e18]
  by_cases h1 : sp_in a1 0 ((nI (n 3)) - 1) = 0
  · rw [if_pos h1, if_pos h1, if_pos rfl]; exact ⟨rfl, h⟩
  rw [if_neg h1, if_neg h1]
  by_cases h2 : F 18 a1.toNatClampNeg = 0
  · rw [if_pos h2, if_pos h2, if_neg (show ¬ (1 : Int32) = 0 by decide)]
    by_cases h3 : sp_in a2 0 5 = 0
    · rw [if_pos h3, if_pos h3]; exact ⟨rfl, h⟩
    rw [if_neg h3, if_neg h3]
    by_cases h4 : sp_in a3 1 (F 22 (6 * a1.toNatClampNeg + a2.toNatClampNeg)) = 0
    · rw [if_pos h4, if_pos h4]; exact ⟨rfl, h⟩
    rw [if_neg h4, if_neg h4]
    refine ⟨rfl, ?_⟩
    unfold rM_sums
    rw [tn5]
    show rel_ n (up2 (up2 (up2 G 22 _ _) 24 _ 1) 34 _ (G 34 _ + a3)) (up2 (up2 F 22 _ _) 34 _ (F 34 _ + a3))
    rw [← e34]
    obtain ⟨q1, q2⟩ := sp_in_1 h4
    exact rel_34 (rel_spoil h (sp_live2 h1 (by omega)).1 (sp_w h3 (k := 6) rfl) h2 (nI_subI q1 q2).1) _ _
  · rw [if_neg h2, if_neg h2, if_pos rfl]; exact ⟨rfl, h⟩
theorem nI_lt8 {k B : Nat} (hB : B < 2147483648) (hk : k ≤ B) : nI k < nI B ↔ ¬ nI k = nI B := by
  rw [nI_ltI (by omega) (by omega), nI_eq (by omega) (by omega)]
  omega
theorem rel_post {n : Nat → Nat} {G F : Nat → Nat → Int32} (h : rel_ n G F) : rel_ (va_up n 1 (n 1 + 1)) G F := by
  obtain ⟨a1, a2, a3, a4, a5, a6, b1, b2, b3, b4, b5, b6, b7⟩ := h
  refine ⟨a1, a2, a3, fun l hl => ?_, a5, a6, fun w hw => ?_, fun c hc => ?_, fun l hl => ?_, fun i hi => b4 i (Nat.le_trans (Nat.le_succ _) hi), b5, fun i j hi hj h8 => b6 i j hi (Nat.le_trans (Nat.le_succ _) hj) h8, fun i w hi hw => ?_⟩
  · rcases a4 l hl with ⟨p, hp, r⟩ | r | r
    · exact Or.inl ⟨p, Nat.lt_succ_of_lt hp, r⟩
    · exact Or.inr (Or.inl r)
    · exact Or.inr (Or.inr r)
  · obtain ⟨a, b, ha, hb, r⟩ := b1 w hw
    exact ⟨a, b, Nat.lt_succ_of_lt ha, Nat.lt_succ_of_lt hb, r⟩
  · obtain ⟨⟨a, b, w, ha, hb, r⟩, s⟩ := b2 c hc
    exact ⟨⟨a, b, w, Nat.lt_succ_of_lt ha, Nat.lt_succ_of_lt hb, r⟩, s⟩
  · obtain ⟨⟨b, hb, r⟩, s⟩ := b3 l hl
    refine ⟨⟨b, Nat.lt_succ_of_lt hb, r⟩, ?_⟩
    rcases s with s | s | ⟨s, x, hx, t⟩
    · exact Or.inl s
    · exact Or.inr (Or.inl s)
    · exact Or.inr (Or.inr ⟨s, x, Nat.lt_succ_of_lt hx, t⟩)
  · have hi : i < n 1 + 1 := hi
    by_cases e : i = n 1
    · rw [e]; exact Or.inl ((b4 (n 1) (Nat.le_refl _)).2.2.2 w hw)
    · exact b7 i w (by omega) hw
theorem s_post {n : Nat → Nat} {G F : Nat → Nat → Int32} (h : rel_ n G F) (hN : nb_ n) : (sX_post n G).1 = (rM_post n F).1 ∧ (sX_post n G).2.1 = (rM_post n F).2.1 ∧ rel_ (sX_post n G).2.1 (sX_post n G).2.2 (rM_post n F).2.2 := by
  unfold sX_post rM_post
  by_cases e : nI (n 1) = 8
  · rw [if_pos e, if_neg (show ¬ nI (n 1) < 8 from fun z => (nI_lt8 (B := 8) (by decide) hN.2.1).mp z e)]
    exact ⟨rfl, rfl, h⟩
  · rw [if_neg e, if_pos (show nI (n 1) < 8 from (nI_lt8 (B := 8) (by decide) hN.2.1).mpr e)]
    exact ⟨rfl, rfl, rel_post h⟩
/-- a letter written in the reference's books -/
def wr_ (F : Nat → Nat → Int32) (k : Nat) (kd fr to one two : Int32) : Nat → Nat → Int32 := up2 (up2 (up2 (up2 (up2 F 26 k kd) 28 k fr) 27 k to) 29 k one) 30 k two
theorem rel_letter {n : Nat → Nat} {G F : Nat → Nat → Int32} (h : rel_ n G F) {kd fr to one two : Int32} (hf : ∃ i, i < n 1 ∧ fr = nI i) (ht : ∃ i, i < n 1 ∧ to = nI i) (hk : (kd = 0 ∧ ∃ x, x < 6 ∧ one = nI x) ∨ (kd = 1 ∧ ∃ x, x < 12 ∧ one = nI x) ∨ (kd = 2 ∧ one = fr)) : rel_ (va_up n 4 (n 4 + 1)) (nl_ G (n 4) kd fr to one two) (wr_ F (n 4) kd fr to one two) := by
  obtain ⟨a1, a2, a3, a4, a5, a6, b1, b2, b3, b4, b5, b6, b7⟩ := h
  obtain ⟨i, hi, ef⟩ := hf
  obtain ⟨j, hj, et⟩ := ht
  have r1 := rq_up a1 26 (n 4) kd
  have r2 := rq_r r1 (s := 28) (n 4) fr rfl
  have r3 := rq_up r2 27 (n 4) to
  have r4 := rq_l r3 (s := 40) (n 4) fr rfl
  have r5 := rq_l r4 (s := 41) (n 4) fr rfl
  have r6 := rq_l r5 (s := 42) (n 4) (-1) rfl
  have r7 := rq_up r6 29 (n 4) one
  have r8 := rq_up r7 30 (n 4) two
  refine ⟨r8, a2, a3, fun l hl => ?_, fun l hl => ?_, a6, b1, b2, fun l hl => ?_, b4, b5, b6, fun x w hx hw => ?_⟩
  · have hl : l < n 4 + 1 := hl
    show bg_ _ (upd (F 28) (n 4) fr l) (upd (G 41) (n 4) fr l) (upd (G 42) (n 4) (-1) l)
    by_cases e : l = n 4
    · rw [e, pk_us, pk_us, pk_us]
      exact Or.inl ⟨i, hi, ef, ef, rfl⟩
    · rw [pk_un e, pk_un e, pk_un e]
      exact a4 l (by omega)
  · have hl : l < n 4 + 1 := hl
    show ¬ upd (F 26) (n 4) kd l = 0 → ¬ upd (F 26) (n 4) kd l = 1 → upd (G 40) (n 4) fr l = upd (F 29) (n 4) one l
    by_cases e : l = n 4
    · rw [e, pk_us, pk_us, pk_us]
      intro k0 k1
      rcases hk with hk | hk | hk
      · exact absurd hk.1 k0
      · exact absurd hk.1 k1
      · exact hk.2.symm
    · rw [pk_un e, pk_un e, pk_un e]
      exact a5 l (by omega)
  · have hl : l < n 4 + 1 := hl
    show (∃ b, b < n 1 ∧ upd (F 27) (n 4) to l = nI b) ∧ ((upd (F 26) (n 4) kd l = 0 ∧ ∃ x, x < 6 ∧ upd (F 29) (n 4) one l = nI x) ∨ (upd (F 26) (n 4) kd l = 1 ∧ ∃ x, x < 12 ∧ upd (F 29) (n 4) one l = nI x) ∨ (upd (F 26) (n 4) kd l = 2 ∧ ∃ x, x < n 1 ∧ upd (F 29) (n 4) one l = nI x))
    by_cases e : l = n 4
    · rw [e, pk_us, pk_us, pk_us]
      refine ⟨⟨j, hj, et⟩, ?_⟩
      rcases hk with hk | hk | hk
      · exact Or.inl hk
      · exact Or.inr (Or.inl hk)
      · exact Or.inr (Or.inr ⟨hk.1, i, hi, hk.2.trans ef⟩)
    · rw [pk_un e, pk_un e, pk_un e]
      exact b3 l (by omega)
  · rcases b7 x w hx hw with z | ⟨l, hl, e1, k0, k1⟩
    · exact Or.inl z
    · refine Or.inr ⟨l, Nat.lt_succ_of_lt hl, e1, ?_, ?_⟩
      · show ¬ upd (F 26) (n 4) kd l = 0
        rw [pk_un (by omega)]; exact k0
      · show ¬ upd (F 26) (n 4) kd l = 1
        rw [pk_un (by omega)]; exact k1
theorem e_canWrite {n : Nat → Nat} (G F : Nat → Nat → Int32) (a1 a2 : Int32) : sX_canWrite n G a1 a2 = rM_canWrite n F a1 a2 := by
  unfold sX_canWrite rM_canWrite sX_areTwoPosts
  by_cases h0 : a1 = a2
  · rw [if_pos h0, if_pos rfl, if_pos h0]
    simp only [ite_self]
  rw [if_neg h0, if_neg h0]
  by_cases h1 : sp_in a1 0 ((nI (n 1)) - 1) = 0
  · rw [if_pos h1, if_pos h1, if_pos rfl]
  rw [if_neg h1, if_neg h1]
  by_cases h2 : sp_in a2 0 ((nI (n 1)) - 1) = 0
  · rw [if_pos h2, if_pos h2, if_pos rfl]
  · rw [if_neg h2, if_neg h2, if_neg (by decide)]
theorem cw_p {n : Nat → Nat} {F : Nat → Nat → Int32} {a1 a2 : Int32} (hN : nb_ n) (h : ¬ rM_canWrite n F a1 a2 = 0) : ¬ sp_in a1 0 ((nI (n 1)) - 1) = 0 ∧ ¬ sp_in a2 0 ((nI (n 1)) - 1) = 0 := by
  refine ⟨fun z => h (if_pos z), fun z => h ?_⟩
  unfold rM_canWrite
  by_cases h1 : sp_in a1 0 ((nI (n 1)) - 1) = 0
  · rw [if_pos h1]
  · rw [if_neg h1, if_pos z]
theorem live_ex {n : Nat → Nat} {x : Int32} (hN : nb_ n) (h : ¬ sp_in x 0 ((nI (n 1)) - 1) = 0) : ∃ i, i < n 1 ∧ x = nI i := ⟨_, (sp_live2 h (by omega)).1, (sp_live2 h (by omega)).2⟩
theorem sp_ex {x b : Int32} {k : Nat} (h : ¬ sp_in x 0 b = 0) (hb : b.toInt + 1 = k) (hk : k < 2147483648) : ∃ i, i < k ∧ x = nI i := vp_in_of (sp_vp h hb) (by omega)
theorem s_order {n : Nat → Nat} {G F : Nat → Nat → Int32} (h : rel_ n G F) (hN : nb_ n) (a1 a2 a3 a4 : Int32) : (sX_order n G a1 a2 a3 a4).1 = (rM_order n F a1 a2 a3 a4).1 ∧ (sX_order n G a1 a2 a3 a4).2.1 = (rM_order n F a1 a2 a3 a4).2.1 ∧ rel_ (sX_order n G a1 a2 a3 a4).2.1 (sX_order n G a1 a2 a3 a4).2.2 (rM_order n F a1 a2 a3 a4).2.2 := by
  unfold sX_order rM_order
  rw [e_canWrite G F]
  by_cases h1 : rM_canWrite n F a1 a2 = 0
  · rw [if_pos h1, if_pos h1]; exact ⟨rfl, rfl, h⟩
  rw [if_neg h1, if_neg h1]
  by_cases h2 : sp_in a3 0 5 = 0
  · rw [if_pos h2, if_pos h2]; exact ⟨rfl, rfl, h⟩
  rw [if_neg h2, if_neg h2]
  by_cases h3 : sp_in a4 1 100 = 0
  · rw [if_pos h3, if_pos h3]; exact ⟨rfl, rfl, h⟩
  rw [if_neg h3, if_neg h3]
  obtain ⟨c1, c2⟩ := cw_p hN h1
  exact ⟨(nI_pred (n 4)).symm, rfl, rel_letter h (live_ex hN c1) (live_ex hN c2) (Or.inl ⟨rfl, sp_ex h2 rfl (by decide)⟩)⟩
theorem s_debt {n : Nat → Nat} {G F : Nat → Nat → Int32} (h : rel_ n G F) (hN : nb_ n) (a1 a2 a3 : Int32) : (sX_debt n G a1 a2 a3).1 = (rM_debt n F a1 a2 a3).1 ∧ (sX_debt n G a1 a2 a3).2.1 = (rM_debt n F a1 a2 a3).2.1 ∧ rel_ (sX_debt n G a1 a2 a3).2.1 (sX_debt n G a1 a2 a3).2.2 (rM_debt n F a1 a2 a3).2.2 := by
  have e4 := h.1 4 rfl
  unfold sX_debt rM_debt
  rw [e_canWrite G F]
  by_cases h1 : rM_canWrite n F a1 a2 = 0
  · rw [if_pos h1, if_pos h1]
    by_cases h0 : sp_in a1 0 ((nI (n 1)) - 1) = 0
    · rw [if_pos h0]; exact ⟨rfl, rfl, h⟩
    · rw [if_neg h0]; exact ⟨rfl, rfl, h⟩
  obtain ⟨c1, c2⟩ := cw_p hN h1
  rw [if_neg c1, if_neg h1, if_neg h1]
  by_cases h2 : sp_in a3 0 11 = 0
  · rw [if_pos h2, if_pos h2]; exact ⟨rfl, rfl, h⟩
  rw [if_neg h2, if_neg h2]
  have eo : rM_owes n F a1 a3 = G 4 (12 * a1.toNatClampNeg + a3.toNatClampNeg) := by
    unfold rM_owes
    rw [if_neg c1, if_neg h2, e4]
  rw [eo]
  by_cases h3 : G 4 (12 * a1.toNatClampNeg + a3.toNatClampNeg) = 0
  · rw [if_pos h3, if_pos h3]; exact ⟨rfl, rfl, h⟩
  rw [if_neg h3, if_neg h3]
  refine ⟨rfl, rfl, ?_⟩
  have hr := rel_4 h (sp_live2 c1 (by omega)).1 (sp_w h2 (k := 12) rfl) 0
  have hl := rel_letter (kd := 1) (one := a3) (two := G 4 (12 * a1.toNatClampNeg + a3.toNatClampNeg)) hr (live_ex hN c1) (live_ex hN c2) (Or.inr (Or.inl ⟨rfl, sp_ex h2 rfl (by decide)⟩))
  have ec : up2 (wr_ F (n 4) 1 a1 a2 a3 (G 4 (12 * a1.toNatClampNeg + a3.toNatClampNeg))) 4 (12 * a1.toNatClampNeg + a3.toNatClampNeg) 0 = wr_ (up2 F 4 (12 * a1.toNatClampNeg + a3.toNatClampNeg) 0) (n 4) 1 a1 a2 a3 (G 4 (12 * a1.toNatClampNeg + a3.toNatClampNeg)) := by
    unfold wr_
    rw [up2_cm _ (s := 30) (t := 4) (by decide), up2_cm _ (s := 29) (t := 4) (by decide), up2_cm _ (s := 27) (t := 4) (by decide), up2_cm _ (s := 28) (t := 4) (by decide), up2_cm _ (s := 26) (t := 4) (by decide)]
  show rel_ _ _ (up2 (wr_ F (n 4) 1 a1 a2 a3 (G 4 (12 * a1.toNatClampNeg + a3.toNatClampNeg))) 4 (12 * a1.toNatClampNeg + a3.toNatClampNeg) 0)
  rw [ec]
  exact hl
theorem rel_31 {n : Nat → Nat} {G F : Nat → Nat → Int32} (h : rel_ n G F) (k : Nat) (v : Int32) : rel_ n (up2 G 31 k v) (up2 F 31 k v) := ⟨rq_up h.1 31 k v, h.2⟩
theorem rep_L {n : Nat → Nat} {F : Nat → Nat → Int32} {a1 a2 : Int32} {k : Nat} (hk : (rM_writes n F 2 a1 a2 a1 (nI (n 0))).1.toNatClampNeg = k) (X : Nat → Nat → Int32) : rM_report_L27 n F a1 a2 6 0 X = c6_ X 31 (6 * k) (fun w => X 2 (6 * a1.toNatClampNeg + w)) := by
  rw [rM_report_L27, rM_report_L27, rM_report_L27, rM_report_L27, rM_report_L27, rM_report_L27, rM_report_L27, hk]
  rfl
theorem s_report {n : Nat → Nat} {G F : Nat → Nat → Int32} (h : rel_ n G F) (hN : nb_ n) (a1 a2 : Int32) : (sX_report n G a1 a2).1 = (rM_report n F a1 a2).1 ∧ (sX_report n G a1 a2).2.1 = (rM_report n F a1 a2).2.1 ∧ rel_ (sX_report n G a1 a2).2.1 (sX_report n G a1 a2).2.2 (rM_report n F a1 a2).2.2 := by
  have e2 := h.1 2 rfl
  unfold sX_report rM_report
  rw [e_canWrite G F]
  by_cases h1 : rM_canWrite n F a1 a2 = 0
  · rw [if_pos h1, if_pos h1]
    by_cases h0 : sp_in a1 0 ((nI (n 1)) - 1) = 0
    · rw [if_pos h0]; exact ⟨rfl, rfl, h⟩
    · rw [if_neg h0]; exact ⟨rfl, rfl, h⟩
  obtain ⟨c1, c2⟩ := cw_p hN h1
  rw [if_neg c1, if_neg h1, if_neg h1]
  have e1 : (rM_writes n F 2 a1 a2 a1 (nI (n 0))).1 = nI (n 4) := nI_pred (n 4)
  refine ⟨e1.symm, rfl, ?_⟩
  rw [rep_L (k := n 4) (by rw [e1]; exact nI_clamp (by omega))]
  have hl := rel_letter (kd := 2) (one := a1) (two := nI (n 0)) h (live_ex hN c1) (live_ex hN c2) (Or.inr (Or.inr ⟨rfl, rfl⟩))
  show rel_ (va_up n 4 (n 4 + 1)) (c6_ (nl_ G (n 4) 2 a1 a2 a1 (nI (n 0))) 31 (6 * n 4) (fun w => G 2 (6 * a1.toNatClampNeg + w))) (c6_ (wr_ F (n 4) 2 a1 a2 a1 (nI (n 0))) 31 (6 * n 4) (fun w => F 2 (6 * a1.toNatClampNeg + w)))
  rw [e2]
  exact rel_31 (rel_31 (rel_31 (rel_31 (rel_31 (rel_31 hl _ _) _ _) _ _) _ _) _ _) _ _
