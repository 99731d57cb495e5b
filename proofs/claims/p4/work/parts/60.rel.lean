/-! the class's state beside the reference's -/
/-- places that both keep alike -/
def sh_ (s : Nat) : Bool := [2, 3, 4, 6, 7, 8, 9, 10, 11, 12, 14, 15, 16, 18, 19, 20, 21, 22, 23, 26, 27, 29, 30, 31, 32, 33, 34].contains s
def rq_ (G F : Nat → Nat → Int32) : Prop := ∀ s, sh_ s = true → G s = F s
theorem rq_up {G F : Nat → Nat → Int32} (h : rq_ G F) (s k : Nat) (v : Int32) : rq_ (up2 G s k v) (up2 F s k v) := fun t ht => by
  by_cases e : t = s
  · subst e
    unfold up2
    rw [va_up_self, va_up_self, h t ht]
  · rw [up2_ns G k v e, up2_ns F k v e]
    exact h t ht
theorem rq_l {G F : Nat → Nat → Int32} (h : rq_ G F) {s : Nat} (k : Nat) (v : Int32) (hs : sh_ s = false) : rq_ (up2 G s k v) F := fun t ht => by
  rw [up2_ns G k v (fun e => by rw [e, hs] at ht; cases ht)]
  exact h t ht
theorem rq_r {G F : Nat → Nat → Int32} (h : rq_ G F) {s : Nat} (k : Nat) (v : Int32) (hs : sh_ s = false) : rq_ G (up2 F s k v) := fun t ht => by
  rw [up2_ns F k v (fun e => by rw [e, hs] at ht; cases ht)]
  exact h t ht
def r17_ (n : Nat → Nat) (G F : Nat → Nat → Int32) : Prop := ∀ c, c < n 3 → (F 18 c = 0 → G 17 c = F 17 c) ∧ (¬ F 18 c = 0 → G 17 c = 0)
def r24_ (n : Nat → Nat) (G F : Nat → Nat → Int32) : Prop := ∀ c, c < n 3 → (F 18 c = 0 → F 24 c = 0 ∧ (G 24 c = 0 ↔ ∀ w, w < 6 → F 22 (6 * c + w) = F 23 (6 * c + w)) ∧ ∀ w, w < 6 → F 22 (6 * c + w) ≤ F 23 (6 * c + w)) ∧ (F 18 c = 1 → (G 24 c = 0 ↔ F 24 c = 0))
/-- where a letter is: in a bag, with nobody, with a canoe -/
def bg_ (n : Nat → Nat) (f b c : Int32) : Prop := (∃ p, p < n 1 ∧ f = nI p ∧ b = nI p ∧ c = -1) ∨ ((f = 1000 ∨ f = 1001) ∧ b = -1 ∧ c = -1) ∨ ∃ k, k < n 3 ∧ f = nI (2000 + k) ∧ b = -1 ∧ c = nI k
def r28_ (n : Nat → Nat) (G F : Nat → Nat → Int32) : Prop := ∀ l, l < n 4 → bg_ n (F 28 l) (G 41 l) (G 42 l)
def r40_ (n : Nat → Nat) (G F : Nat → Nat → Int32) : Prop := ∀ l, l < n 4 → ¬ F 26 l = 0 → ¬ F 26 l = 1 → G 40 l = F 29 l
/-- two posts are joined -/
def jo_ (n : Nat → Nat) (F : Nat → Nat → Int32) (a b : Nat) : Prop := ∃ w, w < n 2 ∧ ((F 6 w = nI a ∧ F 7 w = nI b) ∨ (F 6 w = nI b ∧ F 7 w = nI a))
/-- the fewest ways -/
def de_ (n : Nat → Nat) (F : Nat → Nat → Int32) (D : Nat → Nat → Nat) : Prop := (∀ i j, i < 8 → j < 8 → D i j ≤ 100) ∧ (∀ i, i < 8 → D i i = 0) ∧ (∀ i j, i < 8 → j < 8 → D i j = D j i) ∧ (∀ i j k, i < 8 → j < 8 → k < 8 → D i j ≤ D i k + D k j) ∧ (∀ a b, a < 8 → b < 8 → jo_ n F a b → D a b ≤ 1) ∧ ∀ i j, i < 8 → j < 8 → ¬ i = j → D i j < 100 → ∃ q, q < 8 ∧ jo_ n F i q ∧ D q j + 1 = D i j
def dx_ (n : Nat → Nat) (G F : Nat → Nat → Int32) : Prop := ∃ D, (∀ i j, i < 8 → j < 8 → G 43 (8 * i + j) = nI (D i j)) ∧ de_ n F D
/-- what keeps the reference's numbers in their places -/
def ivw_ (n : Nat → Nat) (F : Nat → Nat → Int32) : Prop := ∀ w, w < n 2 → ∃ a b, a < n 1 ∧ b < n 1 ∧ ¬ a = b ∧ F 6 w = nI a ∧ F 7 w = nI b
def ivc_ (n : Nat → Nat) (F : Nat → Nat → Int32) : Prop := ∀ c, c < n 3 → (∃ a b w, a < n 1 ∧ b < n 1 ∧ ¬ a = b ∧ w < n 2 ∧ F 14 c = nI a ∧ F 15 c = nI b ∧ F 16 c = nI w) ∧ (F 18 c = 0 ∨ F 18 c = 1 ∨ F 18 c = 2)
def ivl_ (n : Nat → Nat) (F : Nat → Nat → Int32) : Prop := ∀ l, l < n 4 → (∃ b, b < n 1 ∧ F 27 l = nI b) ∧ ((F 26 l = 0 ∧ ∃ x, x < 6 ∧ F 29 l = nI x) ∨ (F 26 l = 1 ∧ ∃ x, x < 12 ∧ F 29 l = nI x) ∨ (F 26 l = 2 ∧ ∃ x, x < n 1 ∧ F 29 l = nI x))
def frc_ (n : Nat → Nat) (F : Nat → Nat → Int32) : Prop := ∀ c, n 3 ≤ c → F 18 c = 0 ∧ F 21 c = 0 ∧ F 24 c = 0
def frr_ (n : Nat → Nat) (F : Nat → Nat → Int32) : Prop := ∀ i j, i < 8 → n 1 ≤ j → j < 8 → F 32 (8 * i + j) = -1
def iv_ (n : Nat → Nat) (F : Nat → Nat → Int32) : Prop := ivw_ n F ∧ ivc_ n F ∧ ivl_ n F ∧ fr_ n F ∧ frc_ n F ∧ frr_ n F ∧ rv_ n F
def rel_ (n : Nat → Nat) (G F : Nat → Nat → Int32) : Prop := rq_ G F ∧ r17_ n G F ∧ r24_ n G F ∧ r28_ n G F ∧ r40_ n G F ∧ dx_ n G F ∧ iv_ n F
/-! answers of calls that change nothing -/
theorem e_stored {n : Nat → Nat} {G F : Nat → Nat → Int32} (h : rq_ G F) (a1 a2 : Int32) : rM_stored n F a1 a2 = G 2 (6 * a1.toNatClampNeg + a2.toNatClampNeg) := by
  unfold rM_stored
  rw [h 2 rfl]
theorem e_owes {n : Nat → Nat} {G F : Nat → Nat → Int32} (h : rq_ G F) (a1 a2 : Int32) : sX_owes n G a1 a2 = rM_owes n F a1 a2 := by
  unfold sX_owes rM_owes
  rw [h 4 rfl]
theorem e_price {n : Nat → Nat} {G F : Nat → Nat → Int32} (h : rq_ G F) (a1 a2 : Int32) : sX_price n G a1 a2 = rM_price n F a1 a2 := by
  unfold sX_price rM_price
  rw [h 3 rfl]
theorem sp_lt8 {x : Int32} (h : ¬ sp_in x 0 7 = 0) : x.toNatClampNeg < 8 ∧ x = nI x.toNatClampNeg := by
  have := sp_tn h (n := 7) rfl
  exact ⟨by omega, this.2⟩
theorem sp_live2 {x : Int32} {k : Nat} (h : ¬ sp_in x 0 ((nI k) - 1) = 0) (hk : k < 2147483648) : x.toNatClampNeg < k ∧ x = nI x.toNatClampNeg := by
  refine ⟨sp_live h hk, ?_⟩
  obtain ⟨h1, -⟩ := sp_in_1 h
  obtain ⟨j, hj, e⟩ := nI_of (x := x) (fun z => by rw [sp_lt] at z; rw [sp_le] at h1; omega)
  rw [e, nI_clamp (by omega)]
theorem sp_dead {x : Int32} {k : Nat} (h : sp_in x 0 ((nI k) - 1) = 0) (h8 : ¬ sp_in x 0 7 = 0) (hk : k < 2147483648) : k ≤ x.toNatClampNeg := by
  obtain ⟨h1, h2⟩ := sp_lt8 h8
  refine Nat.le_of_not_lt fun z => ?_
  rw [h2] at h
  exact sp_nIn z hk h
theorem sp_up8 {x : Int32} {k : Nat} (h : ¬ sp_in x 0 ((nI k) - 1) = 0) (hk : k ≤ 8) : ¬ sp_in x 0 7 = 0 := by
  obtain ⟨h1, h2⟩ := sp_live2 h (by omega)
  rw [h2]
  exact sp_nIn (k := 8) (by omega) (by decide)
theorem e_known {n : Nat → Nat} {G F : Nat → Nat → Int32} (h : rel_ n G F) (hN : nb_ n) (a1 a2 a3 : Int32) : sX_known n G a1 a2 a3 = rM_known n F a1 a2 a3 := by
  obtain ⟨hq, -, -, -, -, -, -, -, -, -, -, hfr, -⟩ := h
  unfold sX_known rM_known
  rw [e_stored hq, hq 32 rfl, hq 31 rfl]
  by_cases h1 : sp_in a1 0 ((nI (n 1)) - 1) = 0
  · rw [if_pos h1, if_pos h1]
  rw [if_neg h1, if_neg h1]
  by_cases h3 : sp_in a3 0 5 = 0
  · rw [if_pos h3]
    by_cases h2 : sp_in a2 0 ((nI (n 1)) - 1) = 0
    · rw [if_pos h2]
    · rw [if_neg h2, if_pos h3]
  rw [if_neg h3]
  by_cases h2 : sp_in a2 0 ((nI (n 1)) - 1) = 0
  · rw [if_pos h2, if_neg (fun z => h1 (by rw [z]; exact h2))]
    by_cases h7 : sp_in a2 0 7 = 0
    · rw [if_pos h7]
    · rw [if_neg h7]
      have h8 := (sp_live2 h1 (by omega)).1
      rw [if_pos (hfr a1.toNatClampNeg a2.toNatClampNeg (by omega) (sp_dead h2 h7 (by omega)) (sp_lt8 h7).1)]
  · rw [if_neg h2, if_neg h3, if_neg (sp_up8 h2 hN.2.1)]
theorem e_knownDay {n : Nat → Nat} {G F : Nat → Nat → Int32} (h : rel_ n G F) (hN : nb_ n) (a1 a2 : Int32) : sX_knownDay n G a1 a2 = rM_knownDay n F a1 a2 := by
  obtain ⟨hq, -, -, -, -, -, -, -, -, -, -, hfr, -⟩ := h
  unfold sX_knownDay rM_knownDay
  rw [hq 32 rfl, hq 30 rfl]
  by_cases h1 : sp_in a1 0 ((nI (n 1)) - 1) = 0
  · rw [if_pos h1, if_pos h1]
  rw [if_neg h1, if_neg h1]
  by_cases h2 : sp_in a2 0 ((nI (n 1)) - 1) = 0
  · rw [if_pos h2, if_neg (fun z => h1 (by rw [z]; exact h2))]
    by_cases h7 : sp_in a2 0 7 = 0
    · rw [if_pos h7]
    · rw [if_neg h7]
      have h8 := (sp_live2 h1 (by omega)).1
      rw [if_pos (hfr a1.toNatClampNeg a2.toNatClampNeg (by omega) (sp_dead h2 h7 (by omega)) (sp_lt8 h7).1)]
  · rw [if_neg h2, if_neg (sp_up8 h2 hN.2.1)]
theorem e_right {G F : Nat → Nat → Int32} (h : rq_ G F) (a2 : Int32) : ∀ k j x, sX_areWantsRight_L4 G a2 k j x = rM_cost_L55 F a2 k j x := by
  intro k
  induction k with
  | zero => intro j x; rfl
  | succ k ih =>
    intro j x
    show sX_areWantsRight_L4 G a2 k (j + 1) _ = rM_cost_L55 F a2 k (j + 1) _
    rw [ih, h 33 rfl]
theorem min_sw {x : Int32} : (if 1000 < x then 1000 else x) = (if x ≤ 1000 then x else 1000) := by
  by_cases e : x ≤ 1000
  · rw [if_pos e, if_neg]
    rw [sp_lt]
    rw [sp_le] at e
    omega
  · rw [if_neg e, if_pos]
    rw [sp_lt]
    rw [sp_le] at e
    omega
theorem e_costL {n : Nat → Nat} {G F : Nat → Nat → Int32} (h : rq_ G F) (a1 a2 a3 a4 a5 : Int32) : ∀ k j x, sX_cost_L85 G a1 a2 a5 a4 a3 k j x = rM_cost_L130 n F a1 a2 a5 a4 a3 k j x := by
  intro k
  induction k with
  | zero => intro j x; rfl
  | succ k ih =>
    intro j x
    show (if _ then _ else _) = rM_cost_L130 n F a1 a2 a5 a4 a3 k (j + 1) _
    rw [min_sw, e_stored h, ← h 33 rfl]
    by_cases e : nI j ≤ (if G 2 (6 * a1.toNatClampNeg + a2.toNatClampNeg) ≤ 1000 then G 2 (6 * a1.toNatClampNeg + a2.toNatClampNeg) else 1000) + a5
    · rw [if_pos e, if_pos e, ih, Int32.mul_assoc]
    · rw [if_neg e, if_neg e, ih, Int32.mul_assoc]
theorem e_cost {n : Nat → Nat} {G F : Nat → Nat → Int32} (h : rq_ G F) (a1 a2 a3 a4 a5 : Int32) : sX_cost n G a1 a2 a3 a4 a5 = rM_cost n F a1 a2 a3 a4 a5 := by
  unfold sX_cost rM_cost sX_areWantsRight
  rw [e_right h, e_costL (n := n) h]
  by_cases h1 : sp_in a1 0 ((nI (n 1)) - 1) = 0
  · rw [if_pos h1, if_pos h1]
  by_cases h2 : sp_in a2 0 5 = 0
  · rw [if_neg h1, if_neg h1, if_pos h2, if_pos h2]
  rw [if_neg h1, if_neg h1, if_neg h2, if_neg h2]
  by_cases h3 : sp_in a3 0 100 = 0
  · rw [if_pos h3, if_pos h3]
    simp only [ite_self]
  by_cases h4 : sp_in a4 0 100 = 0
  · rw [if_neg h3, if_neg h3, if_pos h4, if_pos h4]
    simp only [ite_self]
  by_cases h5 : sp_in a5 0 20 = 0
  · rw [if_neg h3, if_neg h3, if_neg h4, if_neg h4, if_pos h5, if_pos h5]
    simp only [ite_self]
  rw [if_neg h3, if_neg h3, if_neg h4, if_neg h4, if_neg h5, if_neg h5]
  by_cases h6 : rM_cost_L55 F a2 21 0 0 = 1000
  · rw [if_pos h6, if_pos h6, if_neg (by decide)]
  · rw [if_neg h6, if_neg h6, if_pos rfl]
theorem nI_ne {a b : Nat} (h : ¬ a = b) (ha : a < 2147483648) (hb : b < 2147483648) : ¬ nI a = nI b := fun z => h ((nI_eq (by omega) (by omega)).mp z)
theorem e_quarrelL {n : Nat → Nat} {G F : Nat → Nat → Int32} (h : rel_ n G F) (a1 a2 : Int32) : ∀ k j, j + k = n 3 → sX_quarrel_L13 n G a1 a2 k j = rM_quarrel_L20 F a1 a2 k j := by
  obtain ⟨hq, -, h24, -, -, -, -, hic, -⟩ := h
  intro k
  induction k with
  | zero => intro j _; rfl
  | succ k ih =>
    intro j hj
    have hp : sX_Canoe_partsBooks n G j = if F 18 j = 2 then 1 else if F 18 j = 1 then (if F 24 j = 0 then 0 else 1) else 0 := by
      unfold sX_Canoe_partsBooks
      rw [hq 18 rfl]
      by_cases e2 : F 18 j = 2
      · rw [if_pos e2, if_pos e2]
      rw [if_neg e2, if_neg e2]
      by_cases e1 : F 18 j = 1
      · rw [if_pos e1, if_pos e1]
        have := (h24 j (by omega)).2 e1
        by_cases e0 : F 24 j = 0
        · rw [if_pos e0, if_pos (this.mpr e0)]
        · rw [if_neg e0, if_neg (fun z => e0 (this.mp z))]
      · rw [if_neg e1, if_neg e1]
    show (if sX_Canoe_isBetween n G j a1 a2 = 0 then _ else _) = _
    rw [hp, ih (j + 1) (by omega)]
    unfold sX_Canoe_isBetween
    rw [hq 14 rfl, hq 15 rfl]
    show _ = (if _ then _ else _)
    by_cases b1 : F 14 j = a1 <;> by_cases b2 : F 15 j = a2 <;> by_cases b3 : F 14 j = a2 <;> by_cases b4 : F 15 j = a1 <;> by_cases b5 : F 18 j = 2 <;> by_cases b6 : F 18 j = 1 <;> by_cases b7 : F 24 j = 0 <;> simp [b1, b2, b3, b4, b5, b6, b7]
