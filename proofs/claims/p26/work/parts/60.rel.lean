/-! the class's state beside the reference's -/
/-- places that both keep alike -/
def sh_ (s : Nat) : Bool := [2, 3, 4, 6, 7, 8, 9, 10, 11, 12, 14, 15, 16, 18, 19, 20, 21, 22, 23, 26, 27, 29, 30, 31, 32, 33, 34].contains s
def rq_ (G F : Nat → Nat → Int32) : Prop := ∀ s, sh_ s = true → G s = F s
theorem rq_up {G F : Nat → Nat → Int32} (h : rq_ G F) (s k : Nat) (v : Int32) : rq_ (up2 G s k v) (up2 F s k v) := fun t ht => by
  by_cases e : t = s
  · subst e
    unfold up2
    rw [va_up_self, va_up_self, h t ht]
  · rw [up2_ns G k v e, up2_ns F k v e]
    exact h t ht
theorem rq_l {G F : Nat → Nat → Int32} (h : rq_ G F) {s : Nat} (k : Nat) (v : Int32) (hs : sh_ s = false) : rq_ (up2 G s k v) F := fun t ht => by
  rw [up2_ns G k v (fun e => by rw [e, hs] at ht; cases ht)]
  exact h t ht
theorem rq_r {G F : Nat → Nat → Int32} (h : rq_ G F) {s : Nat} (k : Nat) (v : Int32) (hs : sh_ s = false) : rq_ G (up2 F s k v) := fun t ht => by
  rw [up2_ns F k v (fun e => by rw [e, hs] at ht; cases ht)]
  exact h t ht
def r17_ (n : Nat → Nat) (G F : Nat → Nat → Int32) : Prop := ∀ c, c < n 3 → (F 18 c = 0 → G 17 c = F 17 c) ∧ (¬ F 18 c = 0 → G 17 c = 0)
def r24_ (n : Nat → Nat) (G F : Nat → Nat → Int32) : Prop := ∀ c, c < n 3 → (F 18 c = 0 → F 24 c = 0 ∧ (G 24 c = 0 ↔ ∀ w, w < 6 → F 22 (6 * c + w) = F 23 (6 * c + w)) ∧ ∀ w, w < 6 → F 22 (6 * c + w) ≤ F 23 (6 * c + w)) ∧ (F 18 c = 1 → (G 24 c = 0 ↔ F 24 c = 0))
/-- where a letter is: in a bag, with nobody, with a canoe -/
def bg_ (n : Nat → Nat) (f b c : Int32) : Prop := (∃ p, p < n 1 ∧ f = nI p ∧ b = nI p ∧ c = -1) ∨ ((f = 1000 ∨ f = 1001) ∧ b = -1 ∧ c = -1) ∨ ∃ k, k < n 3 ∧ f = nI (2000 + k) ∧ b = -1 ∧ c = nI k
def r28_ (n : Nat → Nat) (G F : Nat → Nat → Int32) : Prop := ∀ l, l < n 4 → bg_ n (F 28 l) (G 41 l) (G 42 l)
def r40_ (n : Nat → Nat) (G F : Nat → Nat → Int32) : Prop := ∀ l, l < n 4 → ¬ F 26 l = 0 → ¬ F 26 l = 1 → G 40 l = F 29 l
/-- two posts are joined -/
def jo_ (n : Nat → Nat) (F : Nat → Nat → Int32) (a b : Nat) : Prop := ∃ w, w < n 2 ∧ ((F 6 w = nI a ∧ F 7 w = nI b) ∨ (F 6 w = nI b ∧ F 7 w = nI a))
/-- the fewest ways -/
def de_ (n : Nat → Nat) (F : Nat → Nat → Int32) (D : Nat → Nat → Nat) : Prop := (∀ i j, i < 8 → j < 8 → D i j ≤ 100) ∧ (∀ i, i < 8 → D i i = 0) ∧ (∀ i j, i < 8 → j < 8 → D i j = D j i) ∧ (∀ i j k, i < 8 → j < 8 → k < 8 → D i j ≤ D i k + D k j) ∧ (∀ a b, a < 8 → b < 8 → jo_ n F a b → D a b ≤ 1) ∧ ∀ i j, i < 8 → j < 8 → ¬ i = j → D i j < 100 → ∃ q, q < 8 ∧ jo_ n F i q ∧ D q j + 1 = D i j
def dx_ (n : Nat → Nat) (G F : Nat → Nat → Int32) : Prop := ∃ D, (∀ i j, i < 8 → j < 8 → G 43 (8 * i + j) = nI (D i j)) ∧ de_ n F D
/-- what keeps the reference's numbers in their places -/
def ivw_ (n : Nat → Nat) (F : Nat → Nat → Int32) : Prop := ∀ w, w < n 2 → ∃ a b, a < n 1 ∧ b < n 1 ∧ ¬ a = b ∧ F 6 w = nI a ∧ F 7 w = nI b
def ivc_ (n : Nat → Nat) (F : Nat → Nat → Int32) : Prop := ∀ c, c < n 3 → (∃ a b w, a < n 1 ∧ b < n 1 ∧ ¬ a = b ∧ w < n 2 ∧ F 14 c = nI a ∧ F 15 c = nI b ∧ F 16 c = nI w) ∧ (F 18 c = 0 ∨ F 18 c = 1 ∨ F 18 c = 2)
def ivl_ (n : Nat → Nat) (F : Nat → Nat → Int32) : Prop := ∀ l, l < n 4 → (∃ b, b < n 1 ∧ F 27 l = nI b) ∧ ((F 26 l = 0 ∧ ∃ x, x < 6 ∧ F 29 l = nI x) ∨ (F 26 l = 1 ∧ ∃ x, x < 12 ∧ F 29 l = nI x) ∨ (F 26 l = 2 ∧ ∃ x, x < n 1 ∧ F 29 l = nI x))
def frc_ (n : Nat → Nat) (F : Nat → Nat → Int32) : Prop := ∀ c, n 3 ≤ c → F 18 c = 0 ∧ F 21 c = 0 ∧ F 24 c = 0
def frr_ (n : Nat → Nat) (F : Nat → Nat → Int32) : Prop := ∀ i j, i < 8 → n 1 ≤ j → j < 8 → F 32 (8 * i + j) = -1
def iv_ (n : Nat → Nat) (F : Nat → Nat → Int32) : Prop := ivw_ n F ∧ ivc_ n F ∧ ivl_ n F ∧ fr_ n F ∧ frc_ n F ∧ frr_ n F ∧ rv_ n F
def rel_ (n : Nat → Nat) (G F : Nat → Nat → Int32) : Prop := rq_ G F ∧ r17_ n G F ∧ r24_ n G F ∧ r28_ n G F ∧ r40_ n G F ∧ dx_ n G F ∧ iv_ n F
/-! answers of calls that change nothing -/
theorem e_stored {n : Nat → Nat} {G F : Nat → Nat → Int32} (h : rq_ G F) (a1 a2 : Int32) : rM_stored n F a1 a2 = G 2 (6 * a1.toNatClampNeg + a2.toNatClampNeg) := by
  unfold rM_stored
  rw [h 2 rfl]
theorem e_owes {n : Nat → Nat} {G F : Nat → Nat → Int32} (h : rq_ G F) (a1 a2 : Int32) : sX_owes n G a1 a2 = rM_owes n F a1 a2 := by
  unfold sX_owes rM_owes
  rw [h 4 rfl]
theorem e_price {n : Nat → Nat} {G F : Nat → Nat → Int32} (h : rq_ G F) (a1 a2 : Int32) : sX_price n G a1 a2 = rM_price n F a1 a2 := by
  unfold sX_price rM_price
  rw [h 3 rfl]
theorem sp_lt8 {x : Int32} (h : ¬ sp_in x 0 7 = 0) : x.toNatClampNeg < 8 ∧ x = nI x.toNatClampNeg := by
  have := sp_tn h (n := 7) rfl
  exact ⟨by omega, this.2⟩
theorem sp_live2 {x : Int32} {k : Nat} (h : ¬ sp_in x 0 ((nI k) - 1) = 0) (hk : k < 2147483648) : x.toNatClampNeg < k ∧ x = nI x.toNatClampNeg := by
  refine ⟨sp_live h hk, ?_⟩
  obtain ⟨h1, -⟩ := sp_in_1 h
  obtain ⟨j, hj, e⟩ := nI_of (x := x) (fun z => by rw [sp_lt] at z; rw [sp_le] at h1; omega)
  rw [e, nI_clamp (by omega)]
theorem sp_dead {x : Int32} {k : Nat} (h : sp_in x 0 ((nI k) - 1) = 0) (h8 : ¬ sp_in x 0 7 = 0) (hk : k < 2147483648) : k ≤ x.toNatClampNeg := by
  obtain ⟨h1, h2⟩ := sp_lt8 h8
  refine Nat.le_of_not_lt fun z => ?_
  rw [h2] at h
  exact sp_nIn z hk h
theorem sp_up8 {x : Int32} {k : Nat} (h : ¬ sp_in x 0 ((nI k) - 1) = 0) (hk : k ≤ 8) : ¬ sp_in x 0 7 = 0 := by
  obtain ⟨h1, h2⟩ := sp_live2 h (by omega)
  rw [h2]
  exact sp_nIn (k := 8) (by omega) (by decide)
theorem e_known {n : Nat → Nat} {G F : Nat → Nat → Int32} (h : rel_ n G F) (hN : nb_ n) (a1 a2 a3 : Int32) : sX_known n G a1 a2 a3 = rM_known n F a1 a2 a3 := by
  obtain ⟨hq, -, -, -, -, -, -, -, -, -, -, hfr, -⟩ := h
  unfold sX_known rM_known
  rw [e_stored hq, hq 32 rfl, hq 31 rfl]
  by_cases h1 : sp_in a1 0 ((nI (n 1)) - 1) = 0
  · rw [if_pos h1, if_pos h1]
  rw [if_neg h1, if_neg h1]
  by_cases h3 : sp_in a3 0 5 = 0
  · rw [if_pos h3]
    by_cases h2 : sp_in a2 0 ((nI (n 1)) - 1) = 0
    · rw [if_pos h2]
    · rw [if_neg h2, if_pos h3]
  rw [if_neg h3]
  by_cases h2 : sp_in a2 0 ((nI (n 1)) - 1) = 0
  · rw [if_pos h2, if_neg (fun z => h1 (by rw [z]; exact h2))]
    by_cases h7 : sp_in a2 0 7 = 0
    · rw [if_pos h7]
    · rw [if_neg h7]
      have h8 := (sp_live2 h1 (by omega)).1
      rw [if_pos (hfr a1.toNatClampNeg a2.toNatClampNeg (by omega) (sp_dead h2 h7 (by omega)) (sp_lt8 h7).1)]
  · rw [if_neg h2, if_neg h3, if_neg (sp_up8 h2 hN.2.1)]
theorem e_knownDay {n : Nat → Nat} {G F : Nat → Nat → Int32} (h : rel_ n G F) (hN : nb_ n) (a1 a2 : Int32) : sX_knownDay n G a1 a2 = rM_knownDay n F a1 a2 := by
  obtain ⟨hq, -, -, -, -, -, -, -, -, -, -, hfr, -⟩ := h
  unfold sX_knownDay rM_knownDay
  rw [hq 32 rfl, hq 30 rfl]
  by_cases h1 : sp_in a1 0 ((nI (n 1)) - 1) = 0
  · rw [if_pos h1, if_pos h1]
  rw [if_neg h1, if_neg h1]
  by_cases h2 : sp_in a2 0 ((nI (n 1)) - 1) = 0
  · rw [if_pos h2, if_neg (fun z => h1 (by rw [z]; exact h2))]
    by_cases h7 : sp_in a2 0 7 = 0
    · rw [if_pos h7]
    · rw [if_neg h7]
      have h8 := (sp_live2 h1 (by omega)).1
      rw [if_pos (hfr a1.toNatClampNeg a2.toNatClampNeg (by omega) (sp_dead h2 h7 (by omega)) (sp_lt8 h7).1)]
  · rw [if_neg h2, if_neg (sp_up8 h2 hN.2.1)]
theorem e_right {G F : Nat → Nat → Int32} (h : rq_ G F) (a2 : Int32) : ∀ k j x, sX_areWantsRight_L4 G a2 k j x = rM_cost_L55 F a2 k j x := by
  intro k
  induction k with
  | zero => intro j x; rfl
  | succ k ih =>
    intro j x
    show sX_areWantsRight_L4 G a2 k (j + 1) _ = rM_cost_L55 F a2 k (j + 1) _
    rw [ih, h 33 rfl]
theorem min_sw {x : Int32} : (if 1000 < x then 1000 else x) = (if x ≤ 1000 then x else 1000) := by
  by_cases e : x ≤ 1000
  · rw [if_pos e, if_neg]
    rw [sp_lt]
    rw [sp_le] at e
    omega
  · rw [if_neg e, if_pos]
    rw [sp_lt]
    rw [sp_le] at e
    omega
theorem e_costL {n : Nat → Nat} {G F : Nat → Nat → Int32} (h : rq_ G F) (a1 a2 a3 a4 a5 : Int32) : ∀ k j x, sX_cost_L85 G a1 a2 a5 a4 a3 k j x = rM_cost_L130 n F a1 a2 a5 a4 a3 k j x := by
  intro k
  induction k with
  | zero => intro j x; rfl
  | succ k ih =>
    intro j x
    show (if _ then _ else _) = rM_cost_L130 n F a1 a2 a5 a4 a3 k (j + 1) _
    rw [min_sw, e_stored h, ← h 33 rfl]
    by_cases e : nI j ≤ (if G 2 (6 * a1.toNatClampNeg + a2.toNatClampNeg) ≤ 1000 then G 2 (6 * a1.toNatClampNeg + a2.toNatClampNeg) else 1000) + a5
    · rw [if_pos e, if_pos e, ih, Int32.mul_assoc]
    · rw [if_neg e, if_neg e, ih, Int32.mul_assoc]
theorem e_cost {n : Nat → Nat} {G F : Nat → Nat → Int32} (h : rq_ G F) (a1 a2 a3 a4 a5 : Int32) : sX_cost n G a1 a2 a3 a4 a5 = rM_cost n F a1 a2 a3 a4 a5 := by
  unfold sX_cost rM_cost sX_areWantsRight
  rw [e_right h, e_costL (n := n) h]
  by_cases h1 : sp_in a1 0 ((nI (n 1)) - 1) = 0
  · rw [if_pos h1, if_pos h1]
  by_cases h2 : sp_in a2 0 5 = 0
  · rw [if_neg h1, if_neg h1, if_pos h2, if_pos h2]
  rw [if_neg h1, if_neg h1, if_neg h2, if_neg h2]
  by_cases h3 : sp_in a3 0 100 = 0
  · rw [if_pos h3, if_pos h3]
    simp only [ite_self]
  by_cases h4 : sp_in a4 0 100 = 0
  · rw [if_neg h3, if_neg h3, if_pos h4, if_pos h4]
    simp only [ite_self]
  by_cases h5 : sp_in a5 0 20 = 0
  · rw [if_neg h3, if_neg h3, if_neg h4, if_neg h4, if_pos h5, if_pos h5]
    simp only [ite_self]
  rw [if_neg h3, if_neg h3, if_neg h4, if_neg h4, if_neg h5, if_neg h5]
  by_cases h6 : rM_cost_L55 F a2 21 0 0 = 1000
  · rw [if_pos h6, if_pos h6, if_neg (by decide)]
  · rw [if_neg h6, if_neg h6, if_pos rfl]
theorem nI_ne {a b : Nat} (h : ¬ a = b) (ha : a < 2147483648) (hb : b < 2147483648) : ¬ nI a = nI b := fun z => h ((nI_eq (by omega) (by omega)).mp z)
theorem q_aux (P1 P2 P3 P4 P5 P6 P7 : Prop) [Decidable P1] [Decidable P2] [Decidable P3] [Decidable P4] [Decidable P5] [Decidable P6] [Decidable P7] (X Y : Int32) : (if (if P1 then (if P2 then 1 else (if P3 then (if P4 then 1 else 0) else 0)) else (if P3 then (if P4 then 1 else 0) else 0) : Int32) = 0 then X else if (if P5 then 1 else if P6 then (if P7 then 0 else 1) else 0 : Int32) = 0 then X else Y) = (if P1 then (if P2 then (if P5 then Y else (if P6 then (if P7 then X else Y) else X)) else (if P3 then (if P4 then (if P5 then Y else (if P6 then (if P7 then X else Y) else X)) else X) else X)) else (if P3 then (if P4 then (if P5 then Y else (if P6 then (if P7 then X else Y) else X)) else X) else X)) := by
  by_cases h1 : P1 <;> by_cases h2 : P2 <;> by_cases h3 : P3 <;> by_cases h4 : P4 <;> by_cases h5 : P5 <;> by_cases h6 : P6 <;> by_cases h7 : P7 <;> simp [h1, h2, h3, h4, h5, h6, h7]
theorem e_quarrelL {n : Nat → Nat} {G F : Nat → Nat → Int32} (h : rel_ n G F) (a1 a2 : Int32) : ∀ k j, j + k = n 3 → sX_quarrel_L13 n G a1 a2 k j = rM_quarrel_L20 F a1 a2 k j := by
  obtain ⟨hq, -, h24, -, -, -, -, hic, -⟩ := h
  intro k
  induction k with
  | zero => intro j _; rfl
  | succ k ih =>
    intro j hj
    have hp : sX_Canoe_partsBooks n G j = if F 18 j = 2 then 1 else if F 18 j = 1 then (if F 24 j = 0 then 0 else 1) else 0 := by
      unfold sX_Canoe_partsBooks
      rw [hq 18 rfl]
      by_cases e2 : F 18 j = 2
      · rw [if_pos e2, if_pos e2]
      rw [if_neg e2, if_neg e2]
      by_cases e1 : F 18 j = 1
      · rw [if_pos e1, if_pos e1]
        have := (h24 j (by omega)).2 e1
        by_cases e0 : F 24 j = 0
        · rw [if_pos e0, if_pos (this.mpr e0)]
        · rw [if_neg e0, if_neg (fun z => e0 (this.mp z))]
      · rw [if_neg e1, if_neg e1]
    show (if sX_Canoe_isBetween n G j a1 a2 = 0 then _ else _) = _
    rw [hp, ih (j + 1) (by omega)]
    unfold sX_Canoe_isBetween
    rw [hq 14 rfl, hq 15 rfl]
    exact q_aux _ _ _ _ _ _ _ _ _
theorem e_quarrel {n : Nat → Nat} {G F : Nat → Nat → Int32} (h : rel_ n G F) (hN : nb_ n) (a1 a2 : Int32) : sX_quarrel n G a1 a2 = rM_quarrel n F a1 a2 := by
  have hL := e_quarrelL h a1 a2 (n 3) 0 (by omega)
  unfold sX_quarrel rM_quarrel sX_areTwoPosts
  rw [hL]
  by_cases h0 : a1 = a2
  · rw [if_pos h0, if_pos rfl]
    subst h0
    by_cases h1 : sp_in a1 0 ((nI (n 1)) - 1) = 0
    · rw [if_pos h1]
    rw [if_neg h1, if_neg h1]
    obtain ⟨hq, -, -, -, -, -, -, hic, -⟩ := h
    have key : ∀ k j, j + k = n 3 → rM_quarrel_L20 F a1 a1 k j = -1 := by
      intro k
      induction k with
      | zero => intro j _; rfl
      | succ k ih =>
        intro j hj
        obtain ⟨⟨a, b, w, ha, hb, hab, hw, e14, e15, e16⟩, -⟩ := hic j (by omega)
        have e := ih (j + 1) (by omega)
        show (if _ then _ else _) = _
        rw [e]
        by_cases b1 : F 14 j = a1
        · have b2 : ¬ F 15 j = a1 := fun z => by
            rw [← b1, e14, e15] at z
            exact nI_ne (fun y => hab y.symm) (by omega) (by omega) z
          rw [if_pos b1, if_neg b2, if_pos b1, if_neg b2]
        · rw [if_neg b1, if_neg b1]
    rw [key (n 3) 0 (by omega)]
  · rw [if_neg h0]
    by_cases h1 : sp_in a1 0 ((nI (n 1)) - 1) = 0
    · rw [if_pos h1, if_pos h1, if_pos rfl]
    rw [if_neg h1, if_neg h1]
    by_cases h2 : sp_in a2 0 ((nI (n 1)) - 1) = 0
    · rw [if_pos h2, if_pos h2, if_pos rfl]
    · rw [if_neg h2, if_neg h2, if_neg (by decide)]
theorem sp_sub {x : Int32} {lo hi : Int32} {k : Nat} (hlo : lo.toInt = k) (hhi : hi.toInt = k + 5) (hk : k ≤ 1000) : sp_in (x - lo) 0 5 = sp_in x lo hi := by
  have el : lo = nI k := Int32.toInt_inj.mp (by rw [hlo, nI_toInt (by omega)])
  have eh : hi = nI (k + 5) := Int32.toInt_inj.mp (by rw [hhi, nI_toInt (by omega)]; omega)
  unfold sp_in
  by_cases c : lo ≤ x ∧ x ≤ hi
  · rw [if_pos c, if_pos]
    obtain ⟨c1, c2⟩ := c
    rw [el, sp_le, nI_toInt (by omega)] at c1
    obtain ⟨j, hj, rfl⟩ := nI_of (x := x) (fun z => by rw [sp_lt, show (0 : Int32).toInt = 0 from rfl] at z; omega)
    rw [nI_toInt (by omega)] at c1
    rw [eh, nI_leI (by omega) (by omega)] at c2
    rw [el, pk_sub (by omega)]
    exact ⟨nI_pos' (by omega), show nI (j - k) ≤ nI 5 from nI_le (by omega) (by decide)⟩
  · rw [if_neg c, if_neg]
    intro z
    apply c
    obtain ⟨z1, z2⟩ := z
    obtain ⟨j, hj, e⟩ := nI_of2 (x := x - lo) (M := 5) (n := 5) rfl (fun y => by rw [sp_lt] at y; rw [sp_le] at z1; omega) z2
    have ex : x = nI (k + j) := by
      rw [← nI_add, ← el, ← e]
      rw [Int32.add_comm, Int32.sub_add_cancel]
    rw [ex, el, eh]
    exact ⟨nI_le (by omega) (by omega), nI_le (by omega) (by omega)⟩
theorem e_canoe {n : Nat → Nat} {G F : Nat → Nat → Int32} (h : rel_ n G F) (hN : nb_ n) (a1 a2 : Int32) : sX_canoe n G a1 a2 = rM_canoe n F a1 a2 := by
  obtain ⟨hq, h17, -⟩ := h
  unfold sX_canoe rM_canoe
  rw [hq 14 rfl, hq 15 rfl, hq 16 rfl, hq 18 rfl, hq 19 rfl, hq 20 rfl, hq 21 rfl, hq 22 rfl, hq 23 rfl, sp_sub (x := a2) (lo := 10) (hi := 15) (k := 10) rfl rfl (by decide), sp_sub (x := a2) (lo := 20) (hi := 25) (k := 20) rfl rfl (by decide)]
  by_cases h1 : sp_in a1 0 ((nI (n 3)) - 1) = 0
  · rw [if_pos h1, if_pos h1]
  rw [if_neg h1, if_neg h1]
  obtain ⟨h3, -⟩ := sp_live2 h1 (by omega)
  have e17 : G 17 a1.toNatClampNeg = if F 18 a1.toNatClampNeg = 0 then F 17 a1.toNatClampNeg else 0 := by
    by_cases e : F 18 a1.toNatClampNeg = 0
    · rw [if_pos e]; exact (h17 _ h3).1 e
    · rw [if_neg e]; exact (h17 _ h3).2 e
  rw [e17]
theorem e_bag {n : Nat → Nat} {G F : Nat → Nat → Int32} (h : rel_ n G F) (hN : nb_ n) {a1 : Int32} (h1 : ¬ sp_in a1 0 ((nI (n 1)) - 1) = 0) : ∀ k j x, j + k = n 4 → sX_countBag_L4 G a1 k j x = rM_told_L37 F a1 k j x := by
  obtain ⟨hq, -, -, h28, -⟩ := h
  obtain ⟨h3, e1⟩ := sp_live2 h1 (by omega)
  intro k
  induction k with
  | zero => intro j x _; rfl
  | succ k ih =>
    intro j x hj
    show (if G 41 j = a1 then _ else _) = (if F 28 j = a1 then _ else _)
    rw [ih (j + 1) _ (by omega), ih (j + 1) _ (by omega), Int32.add_zero]
    have hb : G 41 j = a1 ↔ F 28 j = a1 := by
      rcases h28 j (by omega) with ⟨p, hp, ef, eb, -⟩ | ⟨ef, eb, -⟩ | ⟨c, hc, ef, eb, -⟩
      · rw [ef, eb]
      · rw [eb, e1]
        refine ⟨fun z => ?_, fun z => ?_⟩
        · have := congrArg Int32.toInt z
          rw [nI_toInt (by omega), show (-1 : Int32).toInt = -1 from rfl] at this
          omega
        · rcases ef with ef | ef
          · rw [ef] at z
            exact absurd z (nI_ne (a := 1000) (by omega) (by decide) (by omega))
          · rw [ef] at z
            exact absurd z (nI_ne (a := 1001) (by omega) (by decide) (by omega))
      · rw [eb, e1, ef]
        refine ⟨fun z => ?_, fun z => ?_⟩
        · have := congrArg Int32.toInt z
          rw [nI_toInt (by omega), show (-1 : Int32).toInt = -1 from rfl] at this
          omega
        · exact absurd z (nI_ne (by omega) (by omega) (by omega))
    by_cases e : F 28 j = a1
    · rw [if_pos e, if_pos (hb.mpr e)]
    · rw [if_neg e, if_neg (fun z => e (hb.mp z))]
theorem e_allL {n : Nat → Nat} {G F : Nat → Nat → Int32} (hq : rq_ G F) {a1 : Int32} (h1 : ¬ sp_in a1 0 ((nI (n 1)) - 1) = 0) : ∀ k j x, j + k = 12 → sX_Post_owedByAll_L4 G a1.toNatClampNeg k j x = rM_told_L76 n F a1 k j x := by
  intro k
  induction k with
  | zero => intro j x _; rfl
  | succ k ih =>
    intro j x hj
    show sX_Post_owedByAll_L4 G a1.toNatClampNeg k (j + 1) _ = rM_told_L76 n F a1 k (j + 1) _
    rw [ih (j + 1) _ (by omega)]
    have e : rM_owes n F a1 (nI j) = G 4 (12 * a1.toNatClampNeg + j) := by
      unfold rM_owes
      rw [if_neg h1, if_neg (show ¬ sp_in (nI j) 0 11 = 0 from sp_nIn (k := 12) (by omega) (by decide)), nI_clamp (by omega), hq 4 rfl]
    rw [e]
theorem e_told {n : Nat → Nat} {G F : Nat → Nat → Int32} (h : rel_ n G F) (hN : nb_ n) (a1 a2 : Int32) : sX_told n G a1 a2 = rM_told n F a1 a2 := by
  have hq := h.1
  unfold sX_told rM_told
  by_cases h1 : sp_in a1 0 ((nI (n 1)) - 1) = 0
  · rw [if_pos h1, if_pos h1]
  rw [if_neg h1, if_neg h1]
  by_cases h2 : sp_in a2 0 5 = 0
  · rw [if_pos h2, if_pos h2]
    unfold sX_countBag sX_Post_owedByAll
    rw [e_bag h hN h1 (n 4) 0 0 (by omega), e_allL (n := n) hq h1 12 0 0 rfl]
  · rw [if_neg h2, if_neg h2, e_stored hq]
