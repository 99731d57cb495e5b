/-! go(): days pass, canoes come, letters are read -/
theorem rel_32 {n : Nat → Nat} {G F : Nat → Nat → Int32} (h : rel_ n G F) (hN : nb_ n) {i x l : Nat} (hi : i < n 1) (hx : x < n 1) (hl : l < n 4) (hk : F 26 l = 2) : rel_ n (up2 G 32 (8 * i + x) (nI l)) (up2 F 32 (8 * i + x) (nI l)) := by
  obtain ⟨a1, a2, a3, a4, a5, a6, b1, b2, b3, b4, b5, b6, b7⟩ := h
  refine ⟨rq_up a1 32 _ _, a2, a3, a4, a5, a6, b1, b2, b3, fun d hd => ⟨(b4 d hd).1, (b4 d hd).2.1, (b4 d hd).2.2.1, fun w hw => ?_⟩, b5, fun p q hp hq hq8 => ?_, fun p w hp hw => ?_⟩
  · rw [up2_nk F 32 _ (show 8 * d + w ≠ 8 * i + x by omega)]
    exact (b4 d hd).2.2.2 w hw
  · rw [up2_nk F 32 _ (show 8 * p + q ≠ 8 * i + x by omega)]
    exact b6 p q hp hq hq8
  · show up2 F 32 _ _ 32 _ = -1 ∨ ∃ l, l < n 4 ∧ up2 F 32 _ _ 32 _ = nI l ∧ ¬ F 26 l = 0 ∧ ¬ F 26 l = 1
    by_cases e : 8 * p + w = 8 * i + x
    · rw [e, up2_eq]
      exact Or.inr ⟨l, hl, rfl, by rw [hk]; decide, by rw [hk]; decide⟩
    · rw [up2_nk F 32 _ e]
      exact b7 p w hp hw
theorem rel_bag {n : Nat → Nat} {G F : Nat → Nat → Int32} (h : rel_ n G F) {l t : Nat} (ht : t < n 1) : rel_ n (up2 (up2 G 42 l (-1)) 41 l (nI t)) (up2 F 28 l (nI t)) := by
  obtain ⟨a1, a2, a3, a4, a5, a6, b⟩ := h
  refine ⟨rq_r (rq_l (rq_l a1 l (-1) rfl) l (nI t) rfl) l (nI t) rfl, a2, a3, fun x hx => ?_, a5, a6, b⟩
  show bg_ n (upd (F 28) l (nI t) x) (upd (G 41) l (nI t) x) (upd (G 42) l (-1) x)
  by_cases e : x = l
  · rw [e, pk_us, pk_us, pk_us]
    exact Or.inl ⟨t, ht, rfl, rfl, rfl⟩
  · rw [pk_un e, pk_un e, pk_un e]
    exact a4 x hx
/-- a letter is read, by its kind -/
theorem s_read {n : Nat → Nat} {G F : Nat → Nat → Int32} (h : rel_ n G F) (hN : nb_ n) {l t : Nat} (hl : l < n 4) (ht : t < n 1) (e27 : F 27 l = nI t) (eb : G 41 l = -1) : rel_ n (if up2 G 42 l (-1) 26 l = 0 then sX_Order_readAt n (up2 G 42 l (-1)) l t else if up2 G 42 l (-1) 26 l = 1 then sX_Debt_readAt n (up2 G 42 l (-1)) l t else sX_Report_readAt n (up2 G 42 l (-1)) l t) (rM_reads n F (nI l)) := by
  have h2 := rel_off h hl (v := 1000) (Or.inl rfl) eb
  unfold rM_reads
  rw [nI_clamp (by omega), e27, nI_clamp (by omega)]
  have hk := (h.2.2.2.2.2.2.2.2.1 l hl).2
  have e26 : G 26 = F 26 := h.1 26 rfl
  have e29 : G 29 = F 29 := h.1 29 rfl
  have e30 : G 30 = F 30 := h.1 30 rfl
  have e40 := h.2.2.2.2.1 l hl
  have s26 : up2 G 42 l (-1) 26 l = F 26 l := congrFun e26 l
  have t26 : up2 F 28 l 1000 26 l = F 26 l := rfl
  have t29 : up2 F 28 l 1000 29 l = F 29 l := rfl
  have t30 : up2 F 28 l 1000 30 l = F 30 l := rfl
  have s29 : up2 G 42 l (-1) 29 l = F 29 l := congrFun e29 l
  have s30 : up2 G 42 l (-1) 30 l = F 30 l := congrFun e30 l
  rw [s26, t26, t29, t30]
  rcases hk with ⟨k0, x, hx, e1⟩ | ⟨k1, x, hx, e1⟩ | ⟨k2, x, hx, e1⟩
  · rw [if_pos k0, if_pos k0]
    unfold sX_Order_readAt
    rw [s29, s30, e1, if_neg (show ¬ sp_in (nI x) 0 5 = 0 from sp_nIn (k := 6) hx (by decide)), nI_clamp (by omega)]
    exact rel_3 h2 ht hx _
  · rw [if_neg (by rw [k1]; decide), if_pos k1, if_neg (by rw [k1]; decide), if_pos k1]
    unfold sX_Debt_readAt
    rw [s29, s30, e1, if_neg (show ¬ sp_in (nI x) 0 11 = 0 from sp_nIn (k := 12) hx (by decide)), nI_clamp (by omega)]
    show rel_ n (up2 (up2 G 42 l (-1)) 4 (12 * t + x) (G 4 (12 * t + x) + F 30 l)) (up2 (up2 F 28 l 1000) 4 (12 * t + x) (F 4 (12 * t + x) + F 30 l))
    rw [h.1 4 rfl]
    exact rel_4 h2 ht hx _
  · have n0 : ¬ F 26 l = 0 := by rw [k2]; decide
    have n1 : ¬ F 26 l = 1 := by rw [k2]; decide
    rw [if_neg n0, if_neg n1, if_neg n0, if_neg n1]
    have e40' : up2 G 42 l (-1) 40 l = nI x := (e40 n0 n1).trans e1
    have x8 : x < 8 := by omega
    unfold sX_Report_readAt
    rw [e40', e1, s30, if_neg (show ¬ sp_in (nI x) 0 7 = 0 from sp_nIn (k := 8) x8 (by decide)), nI_clamp (by omega), if_neg (nI_pos (by omega)), if_neg (show ¬ 8 ≤ nI x from nI_ge (b := 8) x8 (by decide))]
    have e32 : up2 G 42 l (-1) 32 (8 * t + x) = F 32 (8 * t + x) := congrFun (h.1 32 rfl) _
    have f32 : up2 F 28 l 1000 32 (8 * t + x) = F 32 (8 * t + x) := rfl
    rw [e32, f32]
    have hr := rel_32 h2 hN ht hx hl (show up2 F 28 l 1000 26 l = 2 from k2)
    by_cases c1 : F 32 (8 * t + x) = -1
    · rw [if_pos c1, if_pos c1]
      exact hr
    · rw [if_neg c1, if_neg c1]
      have g30 : ∀ y, up2 G 42 l (-1) 30 y = F 30 y := fun y => congrFun e30 y
      have q30 : ∀ y, up2 F 28 l 1000 30 y = F 30 y := fun _ => rfl
      rw [g30, q30]
      by_cases c2 : F 30 l < F 30 (F 32 (8 * t + x)).toNatClampNeg
      · rw [if_pos c2, if_pos c2, if_neg (nI_pos (by omega)), if_neg (show ¬ 8 ≤ nI x from nI_ge (b := 8) x8 (by decide))]
        exact h2
      · rw [if_neg c2, if_neg c2, if_neg (nI_pos (by omega)), if_neg (show ¬ 8 ≤ nI x from nI_ge (b := 8) x8 (by decide))]
        exact hr
theorem rd_o {n : Nat → Nat} {F : Nat → Nat → Int32} {a1 : Int32} {s : Nat} (h3 : ¬ s = 3) (h4 : ¬ s = 4) (h28 : ¬ s = 28) (h32 : ¬ s = 32) : rM_reads n F a1 s = F s := by
  unfold rM_reads
  split
  · rw [up2_ns _ _ _ h3, up2_ns _ _ _ h28]
  split
  · rw [up2_ns _ _ _ h4, up2_ns _ _ _ h28]
  split
  · rw [up2_ns _ _ _ h32, up2_ns _ _ _ h28]
  split
  · rw [up2_ns _ _ _ h28]
  · rw [up2_ns _ _ _ h32, up2_ns _ _ _ h28]
theorem lt_aux {P Q : Prop} [Decidable P] [Decidable Q] {α β : Type} (f : α → β) (x y z : α) : (if P then f x else (if Q then f y else f z)) = f (if P then x else (if Q then y else z)) := by
  by_cases p : P
  · rw [if_pos p, if_pos p]
  · rw [if_neg p, if_neg p]
    by_cases q : Q
    · rw [if_pos q, if_pos q]
    · rw [if_neg q, if_neg q]
theorem s_landL {n : Nat → Nat} (hN : nb_ n) {c t : Nat} (hc : c < n 3) (ht : t < n 1) : ∀ (k j : Nat) (G F : Nat → Nat → Int32), j + k = n 4 → F 15 c = nI t → rel_ n G F → rel_ n (sX_landLetters_L3 (nI c) (nI t) n t k j G) (rM_comes_L94 (nI c) n k j F)
  | 0, _, G, F, _, _, h => h
  | k + 1, j, G, F, hj, h15, h => by
    rw [sX_landLetters_L3, rM_comes_L94]
    have hb := h.2.2.2.1 j (by omega)
    have e27 : up2 G 42 j (-1) 27 j = F 27 j := congrFun (h.1 27 rfl) j
    rw [nI_clamp (by omega), h15, e27]
    by_cases c1 : G 42 j = nI c
    · rw [if_pos c1, if_pos ((bg_c hb hN hc).mp c1)]
      by_cases c2 : F 27 j = nI t
      · rw [if_pos c2, if_pos c2, lt_aux (sX_landLetters_L3 (nI c) (nI t) n t k (j + 1))]
        exact s_landL hN hc ht k (j + 1) _ _ (by omega) (by rw [rd_o (by decide) (by decide) (by decide) (by decide)]; exact h15) (s_read h hN (by omega) ht c2 (bg_b hb hN hc c1))
      · rw [if_neg c2, if_neg c2]
        exact s_landL hN hc ht k (j + 1) _ _ (by omega) h15 (rel_bag h ht)
    · rw [if_neg c1, if_neg (fun z => c1 ((bg_c hb hN hc).mpr z))]
      exact s_landL hN hc ht k (j + 1) _ _ (by omega) h15 h
/-- while its wares are told, the canoe c at the ware m -/
def r24p_ (n : Nat → Nat) (c m : Nat) (G F : Nat → Nat → Int32) : Prop := (∀ d, d < n 3 → ¬ d = c → (F 18 d = 0 → F 24 d = 0 ∧ (G 24 d = 0 ↔ ∀ w, w < 6 → F 22 (6 * d + w) = F 23 (6 * d + w)) ∧ ∀ w, w < 6 → F 22 (6 * d + w) ≤ F 23 (6 * d + w)) ∧ (F 18 d = 1 → (G 24 d = 0 ↔ F 24 d = 0))) ∧ (G 24 c = 0 ↔ F 24 c = 0 ∧ ∀ w, m ≤ w → w < 6 → F 22 (6 * c + w) = F 23 (6 * c + w))
def rp_ (n : Nat → Nat) (c m : Nat) (G F : Nat → Nat → Int32) : Prop := rq_ G F ∧ r17_ n G F ∧ r24p_ n c m G F ∧ r28_ n G F ∧ r40_ n G F ∧ dx_ n G F ∧ iv_ n F
theorem rp_start {n : Nat → Nat} {G F : Nat → Nat → Int32} (h : rel_ n G F) {c : Nat} (hc : c < n 3) (h18 : F 18 c = 0) (t : Int32) : rp_ n c 0 (up2 (up2 (up2 G 17 c 0) 18 c 1) 20 c t) (up2 (up2 (up2 F 17 c 0) 18 c 1) 20 c t) := by
  obtain ⟨a1, a2, a3, a4, a5, a6, b1, b2, b3, b4, b5, b6, b7⟩ := h
  refine ⟨rq_up (rq_up (rq_r (rq_l a1 c 0 rfl) c 0 rfl) 18 c 1) 20 c t, fun d hd => ?_, ⟨fun d hd hdc => ?_, ?_⟩, a4, a5, a6, b1, fun d hd => ⟨(b2 d hd).1, ?_⟩, b3, b4, fun d hd => ?_, b6, b7⟩
  · show (upd (F 18) c 1 d = 0 → upd (G 17) c 0 d = upd (F 17) c 0 d) ∧ (¬ upd (F 18) c 1 d = 0 → upd (G 17) c 0 d = 0)
    by_cases e : d = c
    · rw [e, pk_us, pk_us, pk_us]
      exact ⟨fun _ => rfl, fun _ => rfl⟩
    · rw [pk_un e, pk_un e, pk_un e]
      exact a2 d hd
  · show (upd (F 18) c 1 d = 0 → _) ∧ (upd (F 18) c 1 d = 1 → _)
    rw [pk_un hdc]
    exact a3 d hd
  · obtain ⟨f1, f2, -⟩ := (a3 c hc).1 h18
    exact ⟨fun z => ⟨f1, fun w _ hw => f2.mp z w hw⟩, fun z => f2.mpr (fun w hw => z.2 w (Nat.zero_le _) hw)⟩
  · show upd (F 18) c 1 d = 0 ∨ upd (F 18) c 1 d = 1 ∨ upd (F 18) c 1 d = 2
    by_cases e : d = c
    · rw [e, pk_us]
      exact Or.inr (Or.inl rfl)
    · rw [pk_un e]
      exact (b2 d hd).2
  · show upd (F 18) c 1 d = 0 ∧ _
    rw [pk_un (by omega)]
    exact b5 d hd
theorem rp_end {n : Nat → Nat} {G F : Nat → Nat → Int32} {c : Nat} (h : rp_ n c 6 G F) (h18 : F 18 c = 1) : rel_ n G F := by
  obtain ⟨a1, a2, ⟨a3, a3'⟩, a4⟩ := h
  refine ⟨a1, a2, fun d hd => ?_, a4⟩
  by_cases e : d = c
  · rw [e]
    refine ⟨fun z => absurd (h18.symm.trans z) (by decide), fun _ => ?_⟩
    rw [a3']
    exact ⟨fun z => z.1, fun z => ⟨z, fun w h1 h2 => absurd h2 (by omega)⟩⟩
  · exact a3 d hd e
theorem rp_2 {n : Nat → Nat} {G F : Nat → Nat → Int32} {c m : Nat} (h : rp_ n c m G F) {i w : Nat} (hi : i < n 1) (hw : w < 6) (v : Int32) : rp_ n c m (up2 G 2 (6 * i + w) v) (up2 F 2 (6 * i + w) v) := by
  obtain ⟨a1, a2, a3, a4, a5, a6, b1, b2, b3, b4, b5, b6, b7⟩ := h
  exact ⟨rq_up a1 2 _ v, a2, a3, a4, a5, a6, b1, b2, b3, fr_2 b4 hi hw v, b5, b6, b7⟩
/-- the ware m is told, and out of the canoe -/
theorem rp_22 {n : Nat → Nat} {G F : Nat → Nat → Int32} {c m : Nat} (h : rp_ n c m G F) (hm : m < 6) (hc : c < n 3) {F' : Nat → Nat → Int32} (hF : F' = if F 22 (6 * c + m) = F 23 (6 * c + m) then F else up2 F 24 c 1) : rp_ n c (m + 1) (up2 G 22 (6 * c + m) 0) (up2 F' 22 (6 * c + m) 0) := by
  obtain ⟨a1, a2, ⟨a3, a3'⟩, a4, a5, a6, b1, b2, b3, b4, b5, b6, b7⟩ := h
  have key : ∀ d, d < n 3 → ¬ d = c → (F 18 d = 0 → F 24 d = 0 ∧ (G 24 d = 0 ↔ ∀ w, w < 6 → up2 F 22 (6 * c + m) 0 22 (6 * d + w) = F 23 (6 * d + w)) ∧ ∀ w, w < 6 → up2 F 22 (6 * c + m) 0 22 (6 * d + w) ≤ F 23 (6 * d + w)) ∧ (F 18 d = 1 → (G 24 d = 0 ↔ F 24 d = 0)) := fun d hd hdc => by
    obtain ⟨d1, d2⟩ := a3 d hd hdc
    refine ⟨fun z => ?_, d2⟩
    obtain ⟨f1, f2, f3⟩ := d1 z
    refine ⟨f1, ⟨fun y x hx => ?_, fun y => f2.mpr (fun x hx => ?_)⟩, fun x hx => ?_⟩
    · rw [up2_nk F 22 0 (show 6 * d + x ≠ 6 * c + m by omega)]
      exact f2.mp y x hx
    · have := y x hx
      rw [up2_nk F 22 0 (show 6 * d + x ≠ 6 * c + m by omega)] at this
      exact this
    · rw [up2_nk F 22 0 (show 6 * d + x ≠ 6 * c + m by omega)]
      exact f3 x hx
  have tail : (∀ w, m + 1 ≤ w → w < 6 → up2 F 22 (6 * c + m) 0 22 (6 * c + w) = F 23 (6 * c + w)) ↔ ∀ w, m + 1 ≤ w → w < 6 → F 22 (6 * c + w) = F 23 (6 * c + w) := by
    refine ⟨fun z w h1 h2 => ?_, fun z w h1 h2 => ?_⟩
    · have := z w h1 h2
      rw [up2_nk F 22 0 (show 6 * c + w ≠ 6 * c + m by omega)] at this
      exact this
    · rw [up2_nk F 22 0 (show 6 * c + w ≠ 6 * c + m by omega)]
      exact z w h1 h2
  by_cases e : F 22 (6 * c + m) = F 23 (6 * c + m)
  · rw [if_pos e] at hF
    subst hF
    refine ⟨rq_up a1 22 _ 0, a2, ⟨key, ?_⟩, a4, a5, a6, b1, b2, b3, b4, b5, b6, b7⟩
    show G 24 c = 0 ↔ F' 24 c = 0 ∧ ∀ w, m + 1 ≤ w → w < 6 → up2 F' 22 (6 * c + m) 0 22 (6 * c + w) = F' 23 (6 * c + w)
    rw [tail, a3']
    refine ⟨fun z => ⟨z.1, fun w h1 h2 => z.2 w (by omega) h2⟩, fun z => ⟨z.1, fun w h1 h2 => ?_⟩⟩
    by_cases ew : w = m
    · rw [ew]; exact e
    · exact z.2 w (by omega) h2
  · rw [if_neg e] at hF
    subst hF
    refine ⟨rq_up (rq_r a1 c 1 rfl) 22 _ 0, a2, ⟨fun d hd hdc => ?_, ?_⟩, a4, a5, a6, b1, b2, b3, b4, fun d hd => ?_, b6, b7⟩
    · show (F 18 d = 0 → upd (F 24) c 1 d = 0 ∧ _) ∧ (F 18 d = 1 → (G 24 d = 0 ↔ upd (F 24) c 1 d = 0))
      rw [pk_un hdc]
      exact key d hd hdc
    · show G 24 c = 0 ↔ upd (F 24) c 1 c = 0 ∧ _
      rw [pk_us, a3']
      exact ⟨fun z => absurd (z.2 m (Nat.le_refl _) hm) e, fun z => absurd z.1 (by decide)⟩
    · show F 18 d = 0 ∧ F 21 d = 0 ∧ upd (F 24) c 1 d = 0
      rw [pk_un (by omega)]
      exact b5 d hd
theorem s_landW {n : Nat → Nat} (hN : nb_ n) {c t : Nat} (hc : c < n 3) (ht : t < n 1) : ∀ (k j : Nat) (G F : Nat → Nat → Int32), j + k = 6 → F 15 c = nI t → F 18 c = 1 → rp_ n c j G F → rel_ n (sX_landCanoe_L15 t c k j G) (rM_comes_L19 (nI c) k j F) ∧ rM_comes_L19 (nI c) k j F 15 c = nI t
  | 0, j, G, F, hj, h15, h18, h => by
    have : j = 6 := by omega
    subst this
    exact ⟨rp_end h h18, h15⟩
  | k + 1, j, G, F, hj, h15, h18, h => by
    rw [sX_landCanoe_L15, rM_comes_L19]
    have e2 : G 2 = F 2 := h.1 2 rfl
    have e22 : G 22 = F 22 := h.1 22 rfl
    rw [nI_clamp (by omega)]
    have cm : ∀ X : Nat → Nat → Int32, X 15 = F 15 → X 2 = F 2 → X 22 = F 22 → up2 (up2 X 2 (6 * (X 15 c).toNatClampNeg + j) (X 2 (6 * (X 15 c).toNatClampNeg + j) + X 22 (6 * c + j))) 22 (6 * c + j) 0 = up2 (up2 X 2 (6 * t + j) (F 2 (6 * t + j) + F 22 (6 * c + j))) 22 (6 * c + j) 0 := fun X x15 x2 x22 => by
      rw [x15, x2, x22, h15, nI_clamp (by omega)]
    rw [e2, e22]
    by_cases c1 : F 22 (6 * c + j) = F 23 (6 * c + j)
    · rw [if_pos c1, cm F rfl rfl rfl]
      refine s_landW hN hc ht k (j + 1) _ _ (by omega) h15 h18 ?_
      have h2 := rp_2 h ht (show j < 6 by omega) (F 2 (6 * t + j) + F 22 (6 * c + j))
      exact rp_22 h2 (by omega) hc (by rw [if_pos (show up2 F 2 _ _ 22 (6 * c + j) = up2 F 2 _ _ 23 (6 * c + j) from c1)])
    · rw [if_neg c1, cm (up2 F 24 c 1) rfl rfl rfl]
      refine s_landW hN hc ht k (j + 1) _ _ (by omega) h15 h18 ?_
      have h2 := rp_2 h ht (show j < 6 by omega) (F 2 (6 * t + j) + F 22 (6 * c + j))
      rw [up2_cm F (s := 24) (t := 2) (by decide)]
      exact rp_22 h2 (by omega) hc (by rw [if_neg (show ¬ up2 F 2 _ _ 22 (6 * c + j) = up2 F 2 _ _ 23 (6 * c + j) from c1)])
theorem rel_17 {n : Nat → Nat} {G F : Nat → Nat → Int32} (h : rel_ n G F) {c : Nat} (h18 : F 18 c = 0) (v : Int32) : rel_ n (up2 G 17 c v) (up2 F 17 c v) := by
  obtain ⟨a1, a2, a3⟩ := h
  refine ⟨rq_r (rq_l a1 c v rfl) c v rfl, fun d hd => ?_, a3⟩
  show (F 18 d = 0 → upd (G 17) c v d = upd (F 17) c v d) ∧ (¬ F 18 d = 0 → upd (G 17) c v d = 0)
  by_cases e : d = c
  · rw [e, pk_us, pk_us]
    exact ⟨fun _ => rfl, fun z => absurd h18 z⟩
  · rw [pk_un e, pk_un e]
    exact a2 d hd
/-- what the reference does with a canoe on a day -/
def mv_ (n : Nat → Nat) (F : Nat → Nat → Int32) (c : Nat) : Nat → Nat → Int32 := if F 18 c = 0 then (if rM_isOpen n F (F 16 c) (nI (n 0)) = 0 then F else (if up2 F 17 c (F 17 c - 1) 17 c = 0 then rM_comes n (up2 F 17 c (F 17 c - 1)) (nI c) else up2 F 17 c (F 17 c - 1))) else F
theorem L32_s {n : Nat → Nat} (k j : Nat) (F : Nat → Nat → Int32) : rM_go_L32 n (k + 1) j F = rM_go_L32 n k (j + 1) (mv_ n F j) := by
  rw [rM_go_L32]
  unfold mv_
  split
  · split
    · rfl
    · split
      · rfl
      · rfl
  · rfl
theorem s_move {n : Nat → Nat} {G F : Nat → Nat → Int32} (h : rel_ n G F) (hN : nb_ n) {c : Nat} (hc : c < n 3) : rel_ n (sX_moveCanoe n G (nI c)) (mv_ n F c) := by
  obtain ⟨⟨a, t, w, ha, ht, hat, hw, e14, e15, e16⟩, -⟩ := h.2.2.2.2.2.2.2.1 c hc
  unfold sX_moveCanoe mv_
  rw [if_neg (sp_nIn hc (by omega)), nI_clamp (by omega)]
  have q18 : G 18 c = F 18 c := congrFun (h.1 18 rfl) c
  have q15 : G 15 c = nI t := (congrFun (h.1 15 rfl) c).trans e15
  have q16 : G 16 c = nI w := (congrFun (h.1 16 rfl) c).trans e16
  rw [q18, q16, q15]
  by_cases c1 : F 18 c = 0
  · rw [if_pos c1, if_pos c1, if_neg (sp_nIn hw (by omega)), if_neg (sp_nIn ht (by omega))]
    have eo : sX_Way_isOpenOn n G (nI w).toNatClampNeg (nI (n 0)) = rM_isOpen n F (F 16 c) (nI (n 0)) := by
      unfold sX_Way_isOpenOn rM_isOpen
      rw [h.1 9 rfl, h.1 10 rfl, e16]
    rw [eo]
    by_cases c2 : rM_isOpen n F (F 16 c) (nI (n 0)) = 0
    · rw [if_pos c2, if_pos c2]; exact h
    rw [if_neg c2, if_neg c2]
    have q17 : G 17 c = F 17 c := (h.2.1 c hc).1 c1
    rw [up2_eq, up2_eq, q17]
    by_cases c3 : F 17 c - 1 = 0
    · rw [if_pos c3, if_pos c3, c3]
      unfold sX_landLetters rM_comes sX_landCanoe
      rw [nI_clamp (by omega), nI_clamp (by omega)]
      have hp := rp_start h hc c1 (nI (n 0))
      have h15 : up2 (up2 (up2 F 17 c 0) 18 c 1) 20 c (nI (n 0)) 15 c = nI t := e15
      have h18 : up2 (up2 (up2 F 17 c 0) 18 c 1) 20 c (nI (n 0)) 18 c = 1 := up2_eq (up2 F 17 c 0) 18 c 1
      obtain ⟨p1, p2⟩ := s_landW hN hc ht 6 0 _ _ rfl h15 h18 hp
      have g15 : sX_landCanoe_L15 t c 6 0 (up2 (up2 (up2 G 17 c 0) 18 c 1) 20 c (nI (n 0))) 15 c = nI t := (congrFun (p1.1 15 rfl) c).trans p2
      rw [g15]
      exact s_landL hN hc ht (n 4) 0 _ _ (by omega) p2 p1
    · rw [if_neg c3, if_neg c3]
      exact rel_17 h c1 _
  · rw [if_neg c1, if_neg c1]; exact h
theorem s_day {n : Nat → Nat} (hN : nb_ n) : ∀ (k j : Nat) (G F : Nat → Nat → Int32), j + k = n 3 → rel_ n G F → rel_ n (sX_go_L32 n k j G) (rM_go_L32 n k j F)
  | 0, _, _, _, _, h => h
  | k + 1, j, G, F, hj, h => by
    rw [sX_go_L32, L32_s]
    exact s_day hN k (j + 1) _ _ (by omega) (s_move h hN (by omega))
theorem s_days : ∀ (k j : Nat) (n : Nat → Nat) (G F : Nat → Nat → Int32), nb_ n → rel_ n G F → (sX_go_L15 k j n G).1 = (rM_go_L15 k j n F).1 ∧ (sX_go_L15 k j n G).2.1 = (rM_go_L15 k j n F).2.1 ∧ rel_ (sX_go_L15 k j n G).2.1 (sX_go_L15 k j n G).2.2 (rM_go_L15 k j n F).2.2
  | 0, _, _, _, _, _, h => ⟨rfl, rfl, h⟩
  | k + 1, j, n, G, F, hN, h => by
    rw [sX_go_L15, rM_go_L15]
    by_cases c : 3000 ≤ nI (n 0)
    · rw [if_pos c, if_pos c]; exact ⟨rfl, rfl, h⟩
    · rw [if_neg c, if_neg c]
      have hlt : n 0 < 3000 := nI_linv (B := 3000) c rfl (by omega)
      exact s_days k (j + 1) (va_up n 0 (n 0 + 1)) _ _ ⟨by show n 0 + 1 ≤ 3000; omega, hN.2⟩ (s_day hN (n 3) 0 G F (by omega) h)
theorem s_go {n : Nat → Nat} {G F : Nat → Nat → Int32} (h : rel_ n G F) (hN : nb_ n) (a1 : Int32) : (sX_go n G a1).1 = (rM_go n F a1).1 ∧ (sX_go n G a1).2.1 = (rM_go n F a1).2.1 ∧ rel_ (sX_go n G a1).2.1 (sX_go n G a1).2.2 (rM_go n F a1).2.2 := by
  unfold sX_go rM_go
  by_cases c : sp_in a1 0 400 = 0
  · rw [if_pos c, if_pos c]; exact ⟨rfl, rfl, h⟩
  · rw [if_neg c, if_neg c]
    exact s_days _ _ n G F hN h
