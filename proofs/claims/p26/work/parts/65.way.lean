/-! way(): a way more, the class's table mended in place -/
theorem L11_o {i : Nat} {a2 a1 : Int32} : ∀ (k j : Nat) (X : Nat → Nat → Int32) (s : Nat), ¬ s = 43 → sX_shortenDistances_L11 i a2 a1 k j X s = X s
  | 0, _, _, _, _ => rfl
  | k + 1, j, X, s, hs => by
    rw [sX_shortenDistances_L11, L11_o k (j + 1) _ s hs, up2_ns X _ _ hs]
theorem L2_o {a2 a1 : Int32} : ∀ (k j : Nat) (X : Nat → Nat → Int32) (s : Nat), ¬ s = 43 → sX_shortenDistances_L2 a2 a1 k j X s = X s
  | 0, _, _, _, _ => rfl
  | k + 1, j, X, s, hs => by
    rw [sX_shortenDistances_L2, L2_o k (j + 1) _ s hs, L11_o _ _ _ s hs]
def sc_ (D : Nat → Nat → Nat) (a b i j : Nat) (X : Nat → Nat → Int32) : Prop := ∃ C : Nat → Nat → Nat, (∀ x y, x < 8 → y < 8 → X 43 (8 * x + y) = nI (C x y)) ∧ (∀ x y, x < 8 → y < 8 → dn_ D a b x y ≤ C x y ∧ C x y ≤ D x y) ∧ ∀ x y, x < 8 → y < 8 → (x < i ∨ (x = i ∧ y < j)) → C x y = dn_ D a b x y
theorem mn_n {x y : Nat} (hx : x < 2147483648) (hy : y < 2147483648) : (if nI y < nI x then nI y else nI x) = nI (min x y) := by
  by_cases c : nI y < nI x
  · rw [if_pos c]
    have := (nI_ltI (by omega) (by omega)).mp c
    rw [Nat.min_eq_right (by omega)]
  · rw [if_neg c]
    have : ¬ y < x := fun z => c ((nI_ltI (by omega) (by omega)).mpr z)
    rw [Nat.min_eq_left (by omega)]
theorem sc_in {n : Nat → Nat} {F : Nat → Nat → Int32} {D : Nat → Nat → Nat} (h : de_ n F D) {a b i : Nat} (ha : a < 8) (hb : b < 8) (hi : i < 8) : ∀ (k j : Nat) (X : Nat → Nat → Int32), j + k = 8 → sc_ D a b i j X → sc_ D a b (i + 1) 0 (sX_shortenDistances_L11 i (nI b) (nI a) k j X)
  | 0, j, X, hj, hX => by
    obtain ⟨C, h1, h2, h3⟩ := hX
    exact ⟨C, h1, h2, fun x y hx hy z => h3 x y hx hy (by omega)⟩
  | k + 1, j, X, hj, hX => by
    rw [sX_shortenDistances_L11]
    refine sc_in h ha hb hi k (j + 1) _ (by omega) ?_
    obtain ⟨C, h1, h2, h3⟩ := hX
    have hj8 : j < 8 := by omega
    have bd : ∀ x y, x < 8 → y < 8 → C x y ≤ 100 := fun x y hx hy => Nat.le_trans (h2 x y hx hy).2 (h.1 x y hx hy)
    have b1 := bd i j hi hj8
    have b2 := bd i a hi ha
    have b3 := bd b j hb hj8
    have b4 := bd i b hi hb
    have b5 := bd a j ha hj8
    rw [nI_clamp (by omega), nI_clamp (by omega), h1 i b hi hb, h1 a j ha hj8, h1 i a hi ha, h1 b j hb hj8, h1 i j hi hj8, nI_1, nI_1, nI_add, nI_add, mn_n (by omega) (by omega), mn_n (by omega) (by omega), dn_in h ha hb hi hj8 h2]
    refine ⟨fun x y => if x = i ∧ y = j then dn_ D a b i j else C x y, fun x y hx hy => ?_, fun x y hx hy => ?_, fun x y hx hy z => ?_⟩
    · show up2 X 43 (8 * i + j) _ 43 (8 * x + y) = nI (if x = i ∧ y = j then dn_ D a b i j else C x y)
      by_cases e : x = i ∧ y = j
      · rw [if_pos e, e.1, e.2, up2_eq]
      · rw [if_neg e, up2_nk X 43 _ (by omega)]
        exact h1 x y hx hy
    · show dn_ D a b x y ≤ (if x = i ∧ y = j then dn_ D a b i j else C x y) ∧ (if x = i ∧ y = j then dn_ D a b i j else C x y) ≤ D x y
      by_cases e : x = i ∧ y = j
      · rw [if_pos e, e.1, e.2]
        have := h2 i j hi hj8
        omega
      · rw [if_neg e]
        exact h2 x y hx hy
    · show (if x = i ∧ y = j then dn_ D a b i j else C x y) = dn_ D a b x y
      by_cases e : x = i ∧ y = j
      · rw [if_pos e, e.1, e.2]
      · rw [if_neg e]
        exact h3 x y hx hy (by omega)
theorem sc_out {n : Nat → Nat} {F : Nat → Nat → Int32} {D : Nat → Nat → Nat} (h : de_ n F D) {a b : Nat} (ha : a < 8) (hb : b < 8) : ∀ (k i : Nat) (X : Nat → Nat → Int32), i + k = 8 → sc_ D a b i 0 X → sc_ D a b 8 0 (sX_shortenDistances_L2 (nI b) (nI a) k i X)
  | 0, i, X, hi, hX => by
    have : i = 8 := by omega
    rw [← this]
    exact hX
  | k + 1, i, X, hi, hX => by
    rw [sX_shortenDistances_L2]
    exact sc_out h ha hb k (i + 1) _ (by omega) (sc_in h ha hb (by omega) 8 0 X rfl hX)
theorem short_D {n : Nat → Nat} {F G : Nat → Nat → Int32} {D : Nat → Nat → Nat} (h : de_ n F D) {a b : Nat} (ha : a < 8) (hb : b < 8) (hG : ∀ i j, i < 8 → j < 8 → G 43 (8 * i + j) = nI (D i j)) (n' : Nat → Nat) : ∀ i j, i < 8 → j < 8 → sX_shortenDistances n' G (nI a) (nI b) 43 (8 * i + j) = nI (dn_ D a b i j) := fun i j hi hj => by
  obtain ⟨C, h1, -, h3⟩ := sc_out h ha hb 8 0 G rfl ⟨D, hG, fun x y _ _ => ⟨by unfold dn_; omega, Nat.le_refl _⟩, fun x y _ _ z => by omega⟩
  show sX_shortenDistances_L2 (nI b) (nI a) 8 0 G 43 (8 * i + j) = _
  rw [h1 i j hi hj, h3 i j hi hj (Or.inl hi)]
/-- a way in the books -/
def ww_ (F : Nat → Nat → Int32) (k : Nat) (a b d f l c : Int32) : Nat → Nat → Int32 := up2 (up2 (up2 (up2 (up2 (up2 F 6 k a) 7 k b) 8 k d) 9 k f) 10 k l) 11 k c
theorem jo_new {n : Nat → Nat} {F : Nat → Nat → Int32} {a b : Nat} {d f l c : Int32} (ha : a < 8) (hb : b < 8) (x y : Nat) (hx : x < 8) (hy : y < 8) : jo_ (va_up n 2 (n 2 + 1)) (ww_ F (n 2) (nI a) (nI b) d f l c) x y ↔ jo_ n F x y ∨ (x = a ∧ y = b) ∨ (x = b ∧ y = a) := by
  have e6 : ∀ w, ww_ F (n 2) (nI a) (nI b) d f l c 6 w = upd (F 6) (n 2) (nI a) w := fun _ => rfl
  have e7 : ∀ w, ww_ F (n 2) (nI a) (nI b) d f l c 7 w = upd (F 7) (n 2) (nI b) w := fun _ => rfl
  refine ⟨fun ⟨w, hw, z⟩ => ?_, fun z => ?_⟩
  · have hw : w < n 2 + 1 := hw
    rw [e6, e7] at z
    by_cases e : w = n 2
    · rw [e, pk_us, pk_us] at z
      rcases z with ⟨z1, z2⟩ | ⟨z1, z2⟩
      · have y1 := (nI_eq (by omega) (by omega)).mp z1
        have y2 := (nI_eq (by omega) (by omega)).mp z2
        exact Or.inr (Or.inl ⟨y1.symm, y2.symm⟩)
      · have y1 := (nI_eq (by omega) (by omega)).mp z1
        have y2 := (nI_eq (by omega) (by omega)).mp z2
        exact Or.inr (Or.inr ⟨y2.symm, y1.symm⟩)
    · rw [pk_un e, pk_un e] at z
      exact Or.inl ⟨w, by omega, z⟩
  · rcases z with ⟨w, hw, z⟩ | ⟨rfl, rfl⟩ | ⟨rfl, rfl⟩
    · refine ⟨w, Nat.lt_succ_of_lt hw, ?_⟩
      rw [e6, e7, pk_un (by omega), pk_un (by omega)]
      exact z
    · refine ⟨n 2, Nat.lt_succ_self _, ?_⟩
      rw [e6, e7, pk_us, pk_us]
      exact Or.inl ⟨rfl, rfl⟩
    · refine ⟨n 2, Nat.lt_succ_self _, ?_⟩
      rw [e6, e7, pk_us, pk_us]
      exact Or.inr ⟨rfl, rfl⟩
theorem rel_way {n : Nat → Nat} {G F : Nat → Nat → Int32} (h : rel_ n G F) (hN : nb_ n) {a b : Nat} (ha : a < n 1) (hb : b < n 1) (hab : ¬ a = b) (d f l c : Int32) : rel_ (va_up n 2 (n 2 + 1)) (sX_shortenDistances (va_up n 2 (n 2 + 1)) (ww_ G (n 2) (nI a) (nI b) d f l c) (nI a) (nI b)) (ww_ F (n 2) (nI a) (nI b) d f l c) := by
  obtain ⟨a1, a2, a3, a4, a5, ⟨D, hG, hD⟩, b1, b2, b3, b4, b5, b6, b7⟩ := h
  have r1 := rq_up (rq_up (rq_up (rq_up (rq_up (rq_up a1 6 (n 2) (nI a)) 7 (n 2) (nI b)) 8 (n 2) d) 9 (n 2) f) 10 (n 2) l) 11 (n 2) c
  have ho : ∀ s, ¬ s = 43 → sX_shortenDistances (va_up n 2 (n 2 + 1)) (ww_ G (n 2) (nI a) (nI b) d f l c) (nI a) (nI b) s = ww_ G (n 2) (nI a) (nI b) d f l c s := fun s hs => L2_o 8 0 _ s hs
  have hdx := short_D (G := ww_ G (n 2) (nI a) (nI b) d f l c) hD (show a < 8 by omega) (show b < 8 by omega) hG (va_up n 2 (n 2 + 1))
  generalize sX_shortenDistances (va_up n 2 (n 2 + 1)) (ww_ G (n 2) (nI a) (nI b) d f l c) (nI a) (nI b) = G' at ho hdx ⊢
  have e17 : G' 17 = G 17 := ho 17 (by decide)
  have e24 : G' 24 = G 24 := ho 24 (by decide)
  have e40 : G' 40 = G 40 := ho 40 (by decide)
  have e41 : G' 41 = G 41 := ho 41 (by decide)
  have e42 : G' 42 = G 42 := ho 42 (by decide)
  refine ⟨fun s hs => ?_, fun x hx => ?_, fun x hx => ?_, fun x hx => ?_, fun x hx => ?_, ⟨_, hdx, de_way hD (show a < 8 by omega) (show b < 8 by omega) (fun x y hx hy => jo_new (by omega) (by omega) x y hx hy)⟩, fun w hw => ?_, fun x hx => ?_, b3, b4, b5, b6, b7⟩
  · rw [ho s (fun z => by rw [z] at hs; cases hs)]
    exact r1 s hs
  · rw [e17]; exact a2 x hx
  · rw [e24]; exact a3 x hx
  · rw [e41, e42]; exact a4 x hx
  · rw [e40]; exact a5 x hx
  · have hw : w < n 2 + 1 := hw
    show ∃ x y, x < n 1 ∧ y < n 1 ∧ ¬ x = y ∧ upd (F 6) (n 2) (nI a) w = nI x ∧ upd (F 7) (n 2) (nI b) w = nI y
    by_cases e : w = n 2
    · rw [e, pk_us, pk_us]
      exact ⟨a, b, ha, hb, hab, rfl, rfl⟩
    · rw [pk_un e, pk_un e]
      exact b1 w (by omega)
  · obtain ⟨⟨p, q, w, hp, hq, hpq, hw, r⟩, s⟩ := b2 x hx
    exact ⟨⟨p, q, w, hp, hq, hpq, Nat.lt_succ_of_lt hw, r⟩, s⟩
/-! what is refused, by either -/
def wyX_ (n : Nat → Nat) (G : Nat → Nat → Int32) (a1 a2 a3 a4 : Int32) : Prop := ¬ sX_areTwoPosts n G a1 a2 = 0 ∧ ¬ G 43 (8 * a1.toNatClampNeg + a2.toNatClampNeg) = 1 ∧ nI (n 2) < 12 ∧ ¬ a3 < 0 ∧ ¬ sp_in a4 1 500 = 0 ∧ ¬ sp_in (a3 / 1000000) 1 40 = 0 ∧ ¬ (a3 - a3 / 1000 * 1000) < ((a3 / 1000) - (a3 / 1000) / 1000 * 1000) ∧ (a3 - a3 / 1000 * 1000) < 365
theorem wyX_no {n : Nat → Nat} {G : Nat → Nat → Int32} {a1 a2 a3 a4 : Int32} (h : ¬ wyX_ n G a1 a2 a3 a4) : sX_way n G a1 a2 a3 a4 = ((-1), n, G) := by
  unfold sX_way
  by_cases h1 : sX_areTwoPosts n G a1 a2 = 0
  · rw [if_pos h1]
  rw [if_neg h1]
  by_cases h2 : G 43 (8 * a1.toNatClampNeg + a2.toNatClampNeg) = 1
  · rw [if_pos h2]
  rw [if_neg h2]
  by_cases h3 : nI (n 2) < 12
  · rw [if_pos h3]
    by_cases h4 : a3 < 0
    · rw [if_pos h4]
    rw [if_neg h4]
    by_cases h5 : sp_in a4 1 500 = 0
    · rw [if_pos h5]
    rw [if_neg h5]
    by_cases h6 : sp_in (a3 / 1000000) 1 40 = 0
    · rw [if_pos h6]
    rw [if_neg h6]
    by_cases h7 : (a3 - a3 / 1000 * 1000) < ((a3 / 1000) - (a3 / 1000) / 1000 * 1000)
    · rw [if_pos h7]
    rw [if_neg h7]
    by_cases h8 : (a3 - a3 / 1000 * 1000) < 365
    · exact absurd ⟨h1, h2, h3, h4, h5, h6, h7, h8⟩ h
    · rw [if_neg h8]
  · rw [if_neg h3]
theorem wyX_yes {n : Nat → Nat} {G : Nat → Nat → Int32} {a1 a2 a3 a4 : Int32} (h : wyX_ n G a1 a2 a3 a4) : sX_way n G a1 a2 a3 a4 = (nI (n 2 + 1) - 1, va_up n 2 (n 2 + 1), sX_shortenDistances (va_up n 2 (n 2 + 1)) (ww_ G (n 2) a1 a2 (a3 / 1000000) ((a3 / 1000) - (a3 / 1000) / 1000 * 1000) (a3 - a3 / 1000 * 1000) a4) a1 a2) := by
  obtain ⟨h1, h2, h3, h4, h5, h6, h7, h8⟩ := h
  unfold sX_way
  rw [if_neg h1, if_neg h2, if_pos h3, if_neg h4, if_neg h5, if_neg h6, if_neg h7, if_pos h8]
  rfl
def wyM_ (n : Nat → Nat) (F : Nat → Nat → Int32) (a1 a2 a3 a4 : Int32) : Prop := ¬ a3 < 0 ∧ ¬ sp_in (a3 / 1000000) 1 40 = 0 ∧ ¬ sp_in ((a3 / 1000) - (a3 / 1000) / 1000 * 1000) 0 364 = 0 ∧ ¬ sp_in (a3 - a3 / 1000 * 1000) ((a3 / 1000) - (a3 / 1000) / 1000 * 1000) 364 = 0 ∧ ¬ sp_in a1 0 ((nI (n 1)) - 1) = 0 ∧ ¬ sp_in a2 0 ((nI (n 1)) - 1) = 0 ∧ ¬ a1 = a2 ∧ rM_between n F a1 a2 = -1 ∧ ¬ sp_in a4 1 500 = 0 ∧ ¬ nI (n 2) = 12
theorem wyM_no {n : Nat → Nat} {F : Nat → Nat → Int32} {a1 a2 a3 a4 : Int32} (h : ¬ wyM_ n F a1 a2 a3 a4) : rM_way n F a1 a2 a3 a4 = ((-1), n, F) := by
  unfold rM_way
  by_cases h1 : a3 < 0
  · rw [if_pos h1]
  rw [if_neg h1]
  by_cases h2 : sp_in (a3 / 1000000) 1 40 = 0
  · rw [if_pos h2]
  rw [if_neg h2]
  by_cases h3 : sp_in ((a3 / 1000) - (a3 / 1000) / 1000 * 1000) 0 364 = 0
  · rw [if_pos h3]
  rw [if_neg h3]
  by_cases h4 : sp_in (a3 - a3 / 1000 * 1000) ((a3 / 1000) - (a3 / 1000) / 1000 * 1000) 364 = 0
  · rw [if_pos h4]
  rw [if_neg h4]
  by_cases h5 : sp_in a1 0 ((nI (n 1)) - 1) = 0
  · rw [if_pos h5]
  rw [if_neg h5]
  by_cases h6 : sp_in a2 0 ((nI (n 1)) - 1) = 0
  · rw [if_pos h6]
  rw [if_neg h6]
  by_cases h7 : a1 = a2
  · rw [if_pos h7]
  rw [if_neg h7]
  by_cases h8 : rM_between n F a1 a2 = -1
  · rw [if_pos h8]
    by_cases h9 : sp_in a4 1 500 = 0
    · rw [if_pos h9]
    rw [if_neg h9]
    by_cases h10 : nI (n 2) = 12
    · rw [if_pos h10]
    · exact absurd ⟨h1, h2, h3, h4, h5, h6, h7, h8, h9, h10⟩ h
  · rw [if_neg h8]
theorem wyM_yes {n : Nat → Nat} {F : Nat → Nat → Int32} {a1 a2 a3 a4 : Int32} (h : wyM_ n F a1 a2 a3 a4) : rM_way n F a1 a2 a3 a4 = (nI (n 2 + 1) - 1, va_up n 2 (n 2 + 1), ww_ F (n 2) a1 a2 (a3 / 1000000) ((a3 / 1000) - (a3 / 1000) / 1000 * 1000) (a3 - a3 / 1000 * 1000) a4) := by
  obtain ⟨h1, h2, h3, h4, h5, h6, h7, h8, h9, h10⟩ := h
  unfold rM_way
  rw [if_neg h1, if_neg h2, if_neg h3, if_neg h4, if_neg h5, if_neg h6, if_neg h7, if_pos h8, if_neg h9, if_neg h10]
  rfl
theorem two_p {n : Nat → Nat} {G : Nat → Nat → Int32} {a1 a2 : Int32} : ¬ sX_areTwoPosts n G a1 a2 = 0 ↔ ¬ sp_in a1 0 ((nI (n 1)) - 1) = 0 ∧ ¬ sp_in a2 0 ((nI (n 1)) - 1) = 0 ∧ ¬ a1 = a2 := by
  unfold sX_areTwoPosts
  by_cases h0 : a1 = a2
  · rw [if_pos h0]
    exact ⟨fun z => absurd rfl z, fun z => absurd h0 z.2.2⟩
  rw [if_neg h0]
  by_cases h1 : sp_in a1 0 ((nI (n 1)) - 1) = 0
  · rw [if_pos h1]
    exact ⟨fun z => absurd rfl z, fun z => absurd h1 z.1⟩
  rw [if_neg h1]
  by_cases h2 : sp_in a2 0 ((nI (n 1)) - 1) = 0
  · rw [if_pos h2]
    exact ⟨fun z => absurd rfl z, fun z => absurd h2 z.2.1⟩
  · rw [if_neg h2]
    exact ⟨fun _ => ⟨h1, h2, h0⟩, fun _ => by decide⟩
theorem year_p {a3 : Int32} (h : ¬ a3 < 0) : (¬ (a3 - a3 / 1000 * 1000) < ((a3 / 1000) - (a3 / 1000) / 1000 * 1000) ∧ (a3 - a3 / 1000 * 1000) < 365) ↔ (¬ sp_in ((a3 / 1000) - (a3 / 1000) / 1000 * 1000) 0 364 = 0 ∧ ¬ sp_in (a3 - a3 / 1000 * 1000) ((a3 / 1000) - (a3 / 1000) / 1000 * 1000) 364 = 0) := by
  obtain ⟨x, hx, rfl⟩ := nI_of h
  have e1 : (nI x - nI x / 1000 * 1000 : Int32) = nI (x % 1000) := pk_rem (d := 1000) (by omega) (by decide) (by decide)
  have e2 : (nI x / 1000 : Int32) = nI (x / 1000) := pk_div (d := 1000) (by omega) (by decide) (by decide)
  have e3 : (nI (x / 1000) - nI (x / 1000) / 1000 * 1000 : Int32) = nI (x / 1000 % 1000) := pk_rem (d := 1000) (by omega) (by decide) (by decide)
  rw [e1, e2, e3]
  have hu : x % 1000 < 1000 := Nat.mod_lt _ (by decide)
  have hv : x / 1000 % 1000 < 1000 := Nat.mod_lt _ (by decide)
  generalize x % 1000 = u at *
  generalize x / 1000 % 1000 = v at *
  have c1 : nI u < nI v ↔ u < v := nI_ltI (by omega) (by omega)
  have c2 : nI u < 365 ↔ u < 365 := nI_ltI (b := 365) (by omega) (by decide)
  have c3 : sp_in (nI v) 0 364 = 0 ↔ ¬ v ≤ 364 := by
    rw [sp_in_0]
    have z1 : (0 : Int32) ≤ nI v ↔ True := ⟨fun _ => trivial, fun _ => nI_pos' (by omega)⟩
    have z2 : nI v ≤ 364 ↔ v ≤ 364 := nI_leI (b := 364) (by omega) (by decide)
    rw [z1, z2, true_and]
  have c4 : sp_in (nI u) (nI v) 364 = 0 ↔ ¬ (v ≤ u ∧ u ≤ 364) := by
    rw [sp_in_0]
    have z1 : nI v ≤ nI u ↔ v ≤ u := nI_leI (by omega) (by omega)
    have z2 : nI u ≤ 364 ↔ u ≤ 364 := nI_leI (b := 364) (by omega) (by decide)
    rw [z1, z2]
  rw [c1, c2, c3, c4]
  omega
theorem way_p {n : Nat → Nat} {G F : Nat → Nat → Int32} (h : rel_ n G F) (hN : nb_ n) (a1 a2 a3 a4 : Int32) : wyX_ n G a1 a2 a3 a4 ↔ wyM_ n F a1 a2 a3 a4 := by
  obtain ⟨-, -, -, -, -, ⟨D, hG, hD⟩, -⟩ := h
  have h12 : nI (n 2) < 12 ↔ ¬ nI (n 2) = 12 := nI_lt8 (B := 12) (by decide) hN.2.2.1
  have hjo : ¬ sp_in a1 0 ((nI (n 1)) - 1) = 0 → ¬ sp_in a2 0 ((nI (n 1)) - 1) = 0 → ¬ a1 = a2 → (¬ G 43 (8 * a1.toNatClampNeg + a2.toNatClampNeg) = 1 ↔ rM_between n F a1 a2 = -1) := fun h1 h2 h0 => by
    obtain ⟨l1, e1⟩ := sp_live2 h1 (by omega)
    obtain ⟨l2, e2⟩ := sp_live2 h2 (by omega)
    have hne : ¬ a1.toNatClampNeg = a2.toNatClampNeg := fun z => h0 (by rw [e1, e2, z])
    generalize a1.toNatClampNeg = a at *
    generalize a2.toNatClampNeg = t at *
    subst e1
    subst e2
    have h100 := hD.1 a t (by omega) (by omega)
    have e : nI (D a t) = 1 ↔ D a t = 1 := nI_eq (b := 1) (by omega) (by decide)
    rw [e_betw hN rfl rfl a t, hG a t (by omega) (by omega), e, de_one hD (by omega) (by omega) hne]
  refine ⟨fun ⟨p1, p2, p3, p4, p5, p6, p7, p8⟩ => ?_, fun ⟨q1, q2, q3, q4, q5, q6, q7, q8, q9, q10⟩ => ?_⟩
  · obtain ⟨t1, t2, t3⟩ := two_p.mp p1
    obtain ⟨y1, y2⟩ := (year_p p4).mp ⟨p7, p8⟩
    exact ⟨p4, p6, y1, y2, t1, t2, t3, (hjo t1 t2 t3).mp p2, p5, h12.mp p3⟩
  · obtain ⟨y1, y2⟩ := (year_p q1).mpr ⟨q3, q4⟩
    exact ⟨two_p.mpr ⟨q5, q6, q7⟩, (hjo q5 q6 q7).mpr q8, h12.mpr q10, q1, q9, q2, y1, y2⟩
theorem s_way {n : Nat → Nat} {G F : Nat → Nat → Int32} (h : rel_ n G F) (hN : nb_ n) (a1 a2 a3 a4 : Int32) : (sX_way n G a1 a2 a3 a4).1 = (rM_way n F a1 a2 a3 a4).1 ∧ (sX_way n G a1 a2 a3 a4).2.1 = (rM_way n F a1 a2 a3 a4).2.1 ∧ rel_ (sX_way n G a1 a2 a3 a4).2.1 (sX_way n G a1 a2 a3 a4).2.2 (rM_way n F a1 a2 a3 a4).2.2 := by
  by_cases c : wyM_ n F a1 a2 a3 a4
  · rw [wyX_yes ((way_p h hN a1 a2 a3 a4).mpr c), wyM_yes c]
    refine ⟨rfl, rfl, ?_⟩
    obtain ⟨-, -, -, -, q5, q6, q7, -⟩ := c
    obtain ⟨l1, e1⟩ := sp_live2 q5 (by omega)
    obtain ⟨l2, e2⟩ := sp_live2 q6 (by omega)
    have hne : ¬ a1.toNatClampNeg = a2.toNatClampNeg := fun z => q7 (by rw [e1, e2, z])
    have := rel_way h hN l1 l2 hne (a3 / 1000000) ((a3 / 1000) - (a3 / 1000) / 1000 * 1000) (a3 - a3 / 1000 * 1000) a4
    rw [← e1, ← e2] at this
    exact this
  · rw [wyX_no (fun z => c ((way_p h hN a1 a2 a3 a4).mp z)), wyM_no c]
    exact ⟨rfl, rfl, h⟩
