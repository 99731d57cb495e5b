/-! calls that change one or two numbers -/
theorem up2_cm (F : Nat → Nat → Int32) {s t k j : Nat} {v w : Int32} (h : ¬ s = t) : up2 (up2 F s k v) t j w = up2 (up2 F t j w) s k v := by
  funext x y
  by_cases e1 : x = t
  · subst e1
    rw [up2_ns (up2 F x j w) k v (fun z => h z.symm)]
    by_cases e2 : y = j
    · rw [e2, up2_eq, up2_eq]
    · rw [up2_nk _ _ _ e2, up2_nk _ _ _ e2, up2_ns F k v (fun z => h z.symm)]
  · rw [up2_ns (up2 F s k v) j w e1]
    by_cases e3 : x = s
    · subst e3
      by_cases e2 : y = k
      · rw [e2, up2_eq, up2_eq]
      · rw [up2_nk _ _ _ e2, up2_nk _ _ _ e2, up2_ns F j w e1]
    · rw [up2_ns F k v e3, up2_ns (up2 F t j w) k v e3, up2_ns F j w e1]
theorem rel_34 {n : Nat → Nat} {G F : Nat → Nat → Int32} (h : rel_ n G F) (k : Nat) (v : Int32) : rel_ n (up2 G 34 k v) (up2 F 34 k v) := ⟨rq_up h.1 34 k v, h.2⟩
theorem rel_12 {n : Nat → Nat} {G F : Nat → Nat → Int32} (h : rel_ n G F) (k : Nat) (v : Int32) : rel_ n (up2 G 12 k v) (up2 F 12 k v) := ⟨rq_up h.1 12 k v, h.2⟩
theorem rel_33 {n : Nat → Nat} {G F : Nat → Nat → Int32} (h : rel_ n G F) (k : Nat) (v : Int32) : rel_ n (up2 G 33 k v) (up2 F 33 k v) := ⟨rq_up h.1 33 k v, h.2⟩
theorem fr_2 {n : Nat → Nat} {F : Nat → Nat → Int32} (h : fr_ n F) {i w : Nat} (hi : i < n 1) (hw : w < 6) (v : Int32) : fr_ n (up2 F 2 (6 * i + w) v) := fun c hc => ⟨fun x hx => by rw [up2_nk F 2 v (by omega)]; exact (h c hc).1 x hx, (h c hc).2⟩
theorem fr_3 {n : Nat → Nat} {F : Nat → Nat → Int32} (h : fr_ n F) {i w : Nat} (hi : i < n 1) (hw : w < 6) (v : Int32) : fr_ n (up2 F 3 (6 * i + w) v) := fun c hc => ⟨(h c hc).1, fun x hx => by rw [up2_nk F 3 v (by omega)]; exact (h c hc).2.1 x hx, (h c hc).2.2⟩
theorem fr_4 {n : Nat → Nat} {F : Nat → Nat → Int32} (h : fr_ n F) {i w : Nat} (hi : i < n 1) (hw : w < 12) (v : Int32) : fr_ n (up2 F 4 (12 * i + w) v) := fun c hc => ⟨(h c hc).1, (h c hc).2.1, fun x hx => by rw [up2_nk F 4 v (by omega)]; exact (h c hc).2.2.1 x hx, (h c hc).2.2.2⟩
theorem rel_2 {n : Nat → Nat} {G F : Nat → Nat → Int32} (h : rel_ n G F) {i w : Nat} (hi : i < n 1) (hw : w < 6) (v : Int32) : rel_ n (up2 G 2 (6 * i + w) v) (up2 F 2 (6 * i + w) v) := by
  obtain ⟨a1, a2, a3, a4, a5, a6, b1, b2, b3, b4, b5, b6, b7⟩ := h
  exact ⟨rq_up a1 2 _ v, a2, a3, a4, a5, a6, b1, b2, b3, fr_2 b4 hi hw v, b5, b6, b7⟩
theorem rel_3 {n : Nat → Nat} {G F : Nat → Nat → Int32} (h : rel_ n G F) {i w : Nat} (hi : i < n 1) (hw : w < 6) (v : Int32) : rel_ n (up2 G 3 (6 * i + w) v) (up2 F 3 (6 * i + w) v) := by
  obtain ⟨a1, a2, a3, a4, a5, a6, b1, b2, b3, b4, b5, b6, b7⟩ := h
  exact ⟨rq_up a1 3 _ v, a2, a3, a4, a5, a6, b1, b2, b3, fr_3 b4 hi hw v, b5, b6, b7⟩
theorem rel_4 {n : Nat → Nat} {G F : Nat → Nat → Int32} (h : rel_ n G F) {i w : Nat} (hi : i < n 1) (hw : w < 12) (v : Int32) : rel_ n (up2 G 4 (12 * i + w) v) (up2 F 4 (12 * i + w) v) := by
  obtain ⟨a1, a2, a3, a4, a5, a6, b1, b2, b3, b4, b5, b6, b7⟩ := h
  exact ⟨rq_up a1 4 _ v, a2, a3, a4, a5, a6, b1, b2, b3, fr_4 b4 hi hw v, b5, b6, b7⟩
theorem sp_w {x b : Int32} {k : Nat} (h : ¬ sp_in x 0 b = 0) (hb : b.toInt + 1 = k) : x.toNatClampNeg < k := vp_lt (sp_vp h hb)
theorem tn0 : (0 : Int32).toNatClampNeg = 0 := by decide
theorem tn1 : (1 : Int32).toNatClampNeg = 1 := by decide
theorem tn2 : (2 : Int32).toNatClampNeg = 2 := by decide
theorem tn3 : (3 : Int32).toNatClampNeg = 3 := by decide
theorem tn4 : (4 : Int32).toNatClampNeg = 4 := by decide
theorem tn5 : (5 : Int32).toNatClampNeg = 5 := by decide
theorem s_load {n : Nat → Nat} {G F : Nat → Nat → Int32} (h : rel_ n G F) (a1 a2 : Int32) : (sX_load n G a1 a2).1 = (rM_load n F a1 a2).1 ∧ rel_ n (sX_load n G a1 a2).2 (rM_load n F a1 a2).2 := by
  unfold sX_load rM_load
  by_cases h1 : sp_in a1 0 5 = 0
  · rw [if_pos h1, if_pos h1]; exact ⟨rfl, h⟩
  by_cases h2 : sp_in a2 0 500 = 0
  · rw [if_neg h1, if_neg h1, if_pos h2, if_pos h2]; exact ⟨rfl, h⟩
  rw [if_neg h1, if_neg h1, if_neg h2, if_neg h2]
  exact ⟨rfl, rel_12 h _ _⟩
theorem s_want {n : Nat → Nat} {G F : Nat → Nat → Int32} (h : rel_ n G F) (a1 a2 a3 : Int32) : (sX_want n G a1 a2 a3).1 = (rM_want n F a1 a2 a3).1 ∧ rel_ n (sX_want n G a1 a2 a3).2 (rM_want n F a1 a2 a3).2 := by
  unfold sX_want rM_want
  by_cases h1 : sp_in a1 0 5 = 0
  · rw [if_pos h1, if_pos h1]; exact ⟨rfl, h⟩
  by_cases h2 : sp_in a2 0 20 = 0
  · rw [if_neg h1, if_neg h1, if_pos h2, if_pos h2]; exact ⟨rfl, h⟩
  by_cases h3 : sp_in a3 0 1000 = 0
  · rw [if_neg h1, if_neg h1, if_neg h2, if_neg h2, if_pos h3, if_pos h3]; exact ⟨rfl, h⟩
  rw [if_neg h1, if_neg h1, if_neg h2, if_neg h2, if_neg h3, if_neg h3]
  exact ⟨rfl, rel_33 h _ _⟩
theorem s_store {n : Nat → Nat} {G F : Nat → Nat → Int32} (h : rel_ n G F) (hN : nb_ n) (a1 a2 a3 : Int32) : (sX_store n G a1 a2 a3).1 = (rM_store n F a1 a2 a3).1 ∧ rel_ n (sX_store n G a1 a2 a3).2 (rM_store n F a1 a2 a3).2 := by
  have e2 := h.1 2 rfl
  have e34 := h.1 34 rfl
  unfold sX_store rM_store
  rw [e_stored h.1]
  by_cases h1 : sp_in a1 0 ((nI (n 1)) - 1) = 0
  · rw [if_pos h1, if_pos h1]; exact ⟨rfl, h⟩
  by_cases h2 : sp_in a2 0 5 = 0
  · rw [if_neg h1, if_neg h1, if_pos h2, if_pos h2]; exact ⟨rfl, h⟩
  by_cases h3 : sp_in a3 1 10000 = 0
  · rw [if_neg h1, if_neg h1, if_neg h2, if_neg h2, if_pos h3, if_pos h3]; exact ⟨rfl, h⟩
  rw [if_neg h1, if_neg h1, if_neg h2, if_neg h2, if_neg h3, if_neg h3]
  by_cases h4 : G 2 (6 * a1.toNatClampNeg + a2.toNatClampNeg) + a3 ≤ 100000
  · rw [if_pos h4, if_pos h4]
    unfold rM_sums rM_stored
    rw [tn0]
    have hr := rel_2 h (sp_live2 h1 (by omega)).1 (sp_w h2 (k := 6) rfl) (G 2 (6 * a1.toNatClampNeg + a2.toNatClampNeg) + a3)
    rw [← e2]
    refine ⟨?_, ?_⟩
    · show up2 G 2 _ _ 2 _ = up2 F 2 _ _ 2 _
      rw [up2_eq, up2_eq]
    · show rel_ n (up2 (up2 G 2 _ _) 34 _ (G 34 _ + a3)) (up2 (up2 F 2 _ _) 34 _ (F 34 _ + a3))
      rw [← e34]
      exact rel_34 hr _ _
  · rw [if_neg h4, if_neg h4]; exact ⟨rfl, h⟩
theorem e_deal {n : Nat → Nat} {F : Nat → Nat → Int32} {a1 a2 a3 a4 : Int32} (h1 : ¬ sp_in a1 0 ((nI (n 1)) - 1) = 0) : rM_isDeal n F a1 a2 a3 a4 = sX_isTrade a2 a3 a4 := if_neg h1
theorem s_sell {n : Nat → Nat} {G F : Nat → Nat → Int32} (h : rel_ n G F) (hN : nb_ n) (a1 a2 a3 a4 : Int32) : (sX_sell n G a1 a2 a3 a4).1 = (rM_sell n F a1 a2 a3 a4).1 ∧ rel_ n (sX_sell n G a1 a2 a3 a4).2 (rM_sell n F a1 a2 a3 a4).2 := by
  have e2 := h.1 2 rfl
  have e3 := h.1 3 rfl
  have e4 := h.1 4 rfl
  have e34 := h.1 34 rfl
  unfold sX_sell rM_sell
  rw [e_stored h.1]
  by_cases h1 : sp_in a1 0 ((nI (n 1)) - 1) = 0
  · rw [if_pos h1, if_pos (show rM_isDeal n F a1 a2 a3 a4 = 0 from if_pos h1)]; exact ⟨rfl, h⟩
  rw [if_neg h1, e_deal h1]
  by_cases h2 : sX_isTrade a2 a3 a4 = 0
  · rw [if_pos h2, if_pos h2]; exact ⟨rfl, h⟩
  rw [if_neg h2, if_neg h2]
  obtain ⟨b2, b3⟩ := sX_isTrade_b h2
  by_cases h3 : a4 ≤ G 2 (6 * a1.toNatClampNeg + a3.toNatClampNeg)
  · rw [if_pos h3, if_pos h3, ← e4, ← e3, Int32.mul_comm a4]
    by_cases h4 : G 4 (12 * a1.toNatClampNeg + a2.toNatClampNeg) + G 3 (6 * a1.toNatClampNeg + a3.toNatClampNeg) * a4 ≤ 100000
    · rw [if_pos h4, if_pos h4]
      refine ⟨rfl, ?_⟩
      unfold rM_sums
      rw [tn1]
      show rel_ n (up2 (up2 (up2 G 2 _ (G 2 _ - a4)) 4 _ _) 34 _ (G 34 _ + a4)) (up2 (up2 (up2 F 4 _ _) 2 _ (F 2 _ - a4)) 34 _ (F 34 _ + a4))
      rw [← e34, ← e2]
      refine rel_34 ?_ _ _
      rw [up2_cm F (s := 4) (t := 2) (by decide)]
      exact rel_4 (rel_2 h (sp_live2 h1 (by omega)).1 (vp_lt b3) _) (sp_live2 h1 (by omega)).1 (vp_lt b2) _
    · rw [if_neg h4, if_neg h4]; exact ⟨rfl, h⟩
  · rw [if_neg h3, if_neg h3]; exact ⟨rfl, h⟩
theorem s_buy {n : Nat → Nat} {G F : Nat → Nat → Int32} (h : rel_ n G F) (hN : nb_ n) (a1 a2 a3 a4 : Int32) : (sX_buy n G a1 a2 a3 a4).1 = (rM_buy n F a1 a2 a3 a4).1 ∧ rel_ n (sX_buy n G a1 a2 a3 a4).2 (rM_buy n F a1 a2 a3 a4).2 := by
  have e2 := h.1 2 rfl
  have e3 := h.1 3 rfl
  have e4 := h.1 4 rfl
  have e34 := h.1 34 rfl
  unfold sX_buy rM_buy
  rw [e_stored h.1]
  by_cases h1 : sp_in a1 0 ((nI (n 1)) - 1) = 0
  · rw [if_pos h1, if_pos (show rM_isDeal n F a1 a2 a3 a4 = 0 from if_pos h1)]; exact ⟨rfl, h⟩
  rw [if_neg h1, e_deal h1]
  by_cases h2 : sX_isTrade a2 a3 a4 = 0
  · rw [if_pos h2, if_pos h2]; exact ⟨rfl, h⟩
  rw [if_neg h2, if_neg h2]
  obtain ⟨b2, b3⟩ := sX_isTrade_b h2
  by_cases h3 : G 2 (6 * a1.toNatClampNeg + a3.toNatClampNeg) + a4 ≤ 100000
  · rw [if_pos h3, if_pos h3, ← e4, ← e3, Int32.mul_comm a4]
    by_cases h4 : -100000 ≤ G 4 (12 * a1.toNatClampNeg + a2.toNatClampNeg) - G 3 (6 * a1.toNatClampNeg + a3.toNatClampNeg) * a4
    · rw [if_pos h4, if_pos h4]
      refine ⟨rfl, ?_⟩
      unfold rM_sums
      rw [tn2]
      show rel_ n (up2 (up2 (up2 G 2 _ (G 2 _ + a4)) 4 _ _) 34 _ (G 34 _ + a4)) (up2 (up2 (up2 F 4 _ _) 2 _ (F 2 _ + a4)) 34 _ (F 34 _ + a4))
      rw [← e34, ← e2]
      refine rel_34 ?_ _ _
      rw [up2_cm F (s := 4) (t := 2) (by decide)]
      exact rel_4 (rel_2 h (sp_live2 h1 (by omega)).1 (vp_lt b3) _) (sp_live2 h1 (by omega)).1 (vp_lt b2) _
    · rw [if_neg h4, if_neg h4]; exact ⟨rfl, h⟩
  · rw [if_neg h3, if_neg h3]; exact ⟨rfl, h⟩
theorem s_give {n : Nat → Nat} {G F : Nat → Nat → Int32} (h : rel_ n G F) (hN : nb_ n) (a1 a2 a3 a4 : Int32) : (sX_give n G a1 a2 a3 a4).1 = (rM_give n F a1 a2 a3 a4).1 ∧ rel_ n (sX_give n G a1 a2 a3 a4).2 (rM_give n F a1 a2 a3 a4).2 := by
  have e2 := h.1 2 rfl
  have e34 := h.1 34 rfl
  unfold sX_give rM_give
  rw [e_stored h.1]
  by_cases h1 : sp_in a1 0 ((nI (n 1)) - 1) = 0
  · rw [if_pos h1, if_pos (show rM_isDeal n F a1 a2 a3 a4 = 0 from if_pos h1)]; exact ⟨rfl, h⟩
  rw [if_neg h1, e_deal h1]
  by_cases h2 : sX_isTrade a2 a3 a4 = 0
  · rw [if_pos h2, if_pos h2]; exact ⟨rfl, h⟩
  rw [if_neg h2, if_neg h2]
  obtain ⟨b2, b3⟩ := sX_isTrade_b h2
  by_cases h3 : a4 ≤ G 2 (6 * a1.toNatClampNeg + a3.toNatClampNeg)
  · rw [if_pos h3, if_pos h3]
    unfold rM_sums rM_stored
    rw [tn3, ← e2]
    refine ⟨?_, ?_⟩
    · show up2 G 2 _ _ 2 _ = up2 F 2 _ _ 2 _
      rw [up2_eq, up2_eq]
    · show rel_ n (up2 (up2 G 2 _ _) 34 _ (G 34 _ + a4)) (up2 (up2 F 2 _ _) 34 _ (F 34 _ + a4))
      rw [← e34]
      exact rel_34 (rel_2 h (sp_live2 h1 (by omega)).1 (vp_lt b3) _) _ _
  · rw [if_neg h3, if_neg h3]; exact ⟨rfl, h⟩
