/-! next(): the reference's walk from the goal finds the fewest ways -/
theorem L25_o {a2 : Int32} : ∀ (k j : Nat) (X : Nat → Nat → Int32) (s : Nat), ¬ s = 36 → rM_next_L25 a2 k j X s = X s
  | 0, _, _, _, _ => rfl
  | k + 1, j, X, s, hs => by
    show (if nI j = a2 then rM_next_L25 a2 k (j + 1) (up2 X 36 j 0) else rM_next_L25 a2 k (j + 1) (up2 X 36 j 100)) s = X s
    by_cases e : nI j = a2
    · rw [if_pos e, L25_o k (j + 1) _ s hs, up2_ns X j 0 hs]
    · rw [if_neg e, L25_o k (j + 1) _ s hs, up2_ns X j 100 hs]
theorem L25_i {a2 : Int32} : ∀ (k j : Nat) (X : Nat → Nat → Int32), (∀ p, p < j → X 36 p = if nI p = a2 then 0 else 100) → ∀ p, p < j + k → rM_next_L25 a2 k j X 36 p = if nI p = a2 then 0 else 100
  | 0, j, X, h, p, hp => h p hp
  | k + 1, j, X, h, p, hp => by
    show (if nI j = a2 then rM_next_L25 a2 k (j + 1) (up2 X 36 j 0) else rM_next_L25 a2 k (j + 1) (up2 X 36 j 100)) 36 p = _
    by_cases e : nI j = a2
    · rw [if_pos e]
      refine L25_i k (j + 1) _ (fun x hx => ?_) p (by omega)
      by_cases ex : x = j
      · rw [ex, up2_eq, if_pos e]
      · rw [up2_nk X 36 0 ex]; exact h x (by omega)
    · rw [if_neg e]
      refine L25_i k (j + 1) _ (fun x hx => ?_) p (by omega)
      by_cases ex : x = j
      · rw [ex, up2_eq, if_neg e]
      · rw [up2_nk X 36 100 ex]; exact h x (by omega)
def rx1_ (j : Nat) (X : Nat → Nat → Int32) : Nat → Nat → Int32 := if X 36 (X 7 j).toNatClampNeg ≤ X 36 (X 6 j).toNatClampNeg + 1 then X else up2 X 36 (X 7 j).toNatClampNeg (X 36 (X 6 j).toNatClampNeg + 1)
def rx2_ (j : Nat) (X : Nat → Nat → Int32) : Nat → Nat → Int32 := if X 36 (X 6 j).toNatClampNeg ≤ X 36 (X 7 j).toNatClampNeg + 1 then X else up2 X 36 (X 6 j).toNatClampNeg (X 36 (X 7 j).toNatClampNeg + 1)
theorem L65_s (k j : Nat) (X : Nat → Nat → Int32) : rM_next_L65 (k + 1) j X = rM_next_L65 k (j + 1) (rx2_ j (rx1_ j X)) := by
  rw [rM_next_L65]
  unfold rx1_
  by_cases c1 : X 36 (X 7 j).toNatClampNeg ≤ X 36 (X 6 j).toNatClampNeg + 1
  · rw [if_pos c1, if_pos c1]
    unfold rx2_
    by_cases c2 : X 36 (X 6 j).toNatClampNeg ≤ X 36 (X 7 j).toNatClampNeg + 1
    · rw [if_pos c2, if_pos c2]
    · rw [if_neg c2, if_neg c2]
  · rw [if_neg c1, if_neg c1]
    generalize up2 X 36 (X 7 j).toNatClampNeg (X 36 (X 6 j).toNatClampNeg + 1) = Y
    unfold rx2_
    by_cases c2 : Y 36 (Y 6 j).toNatClampNeg ≤ Y 36 (Y 7 j).toNatClampNeg + 1
    · rw [if_pos c2, if_pos c2]
    · rw [if_neg c2, if_neg c2]
theorem rx1_o (j : Nat) (X : Nat → Nat → Int32) {s : Nat} (hs : ¬ s = 36) : rx1_ j X s = X s := by
  unfold rx1_
  split
  · rfl
  · exact up2_ns X _ _ hs
theorem rx2_o (j : Nat) (X : Nat → Nat → Int32) {s : Nat} (hs : ¬ s = 36) : rx2_ j X s = X s := by
  unfold rx2_
  split
  · rfl
  · exact up2_ns X _ _ hs
theorem L65_o : ∀ (k j : Nat) (X : Nat → Nat → Int32) (s : Nat), ¬ s = 36 → rM_next_L65 k j X s = X s
  | 0, _, _, _, _ => rfl
  | k + 1, j, X, s, hs => by rw [L65_s, L65_o k (j + 1) _ s hs, rx2_o j _ hs, rx1_o j _ hs]
theorem L56_o {n : Nat → Nat} : ∀ (k j : Nat) (X : Nat → Nat → Int32) (s : Nat), ¬ s = 36 → rM_next_L56 n k j X s = X s
  | 0, _, _, _, _ => rfl
  | k + 1, j, X, s, hs => by
    show rM_next_L56 n k (j + 1) (rM_next_L65 (n 2) 0 X) s = X s
    rw [L56_o k (j + 1) _ s hs, L65_o _ _ _ s hs]
/-- one end of a way made nearer: in natural numbers -/
theorem rx_n {X : Nat → Nat → Int32} {d : Nat → Nat} {a b : Nat} (ha : a < 8) (hb : b < 8) (hd : ∀ p, p < 8 → X 36 p = nI (d p) ∧ d p ≤ 100) : ∀ p, p < 8 → (if X 36 b ≤ X 36 a + 1 then X else up2 X 36 b (X 36 a + 1)) 36 p = nI (if p = b then min (d b) (d a + 1) else d p) := fun p hp => by
  have e1 := (hd a ha).1
  have e2 := (hd b hb).1
  have l1 := (hd a ha).2
  have l2 := (hd b hb).2
  rw [e1, e2, nI_1]
  by_cases c : nI (d b) ≤ nI (d a + 1)
  · rw [if_pos c]
    have c' := (nI_leI (by omega) (by omega)).mp c
    by_cases ep : p = b
    · rw [if_pos ep, ep, e2, Nat.min_eq_left c']
    · rw [if_neg ep]; exact (hd p hp).1
  · rw [if_neg c]
    have c' : ¬ d b ≤ d a + 1 := fun z => c ((nI_leI (by omega) (by omega)).mpr z)
    by_cases ep : p = b
    · rw [if_pos ep, ep, up2_eq, Nat.min_eq_right (by omega)]
    · rw [if_neg ep, up2_nk X 36 _ ep]; exact (hd p hp).1
/-- what holds in the round r, when j ways of it are done -/
def pj_ (F : Nat → Nat → Int32) (D : Nat → Nat → Nat) (t r j : Nat) (X : Nat → Nat → Int32) : Prop := ∃ d : Nat → Nat, (∀ p, p < 8 → X 36 p = nI (d p) ∧ d p ≤ 100) ∧ (∀ p, p < 8 → D p t ≤ d p ∧ (D p t ≤ r → d p = D p t)) ∧ ∀ w a b, w < j → a < 8 → b < 8 → F 6 w = nI a → F 7 w = nI b → (D a t ≤ r → d b ≤ D a t + 1) ∧ (D b t ≤ r → d a ≤ D b t + 1)
theorem pj_step {n : Nat → Nat} {F : Nat → Nat → Int32} {D : Nat → Nat → Nat} (h : de_ n F D) (hw : ivw_ n F) (hN : nb_ n) {t r j : Nat} (ht : t < 8) (hj : j < n 2) {X : Nat → Nat → Int32} (h6 : X 6 = F 6) (h7 : X 7 = F 7) (hX : pj_ F D t r j X) : pj_ F D t r (j + 1) (rx2_ j (rx1_ j X)) := by
  obtain ⟨a, b, ha, hb, hab, e6, e7⟩ := hw j hj
  have ha8 : a < 8 := by omega
  have hb8 : b < 8 := by omega
  obtain ⟨d, hd, hs, he⟩ := hX
  have hjo : jo_ n F a b := ⟨j, hj, Or.inl ⟨e6, e7⟩⟩
  have d1 := h.2.2.2.2.1 a b ha8 hb8 hjo
  have d2 := h.2.2.2.2.1 b a hb8 ha8 (jo_sym hjo)
  have t1 := h.2.2.2.1 b t a hb8 ht ha8
  have t2 := h.2.2.2.1 a t b ha8 ht hb8
  have E1 : rx1_ j X = if X 36 b ≤ X 36 a + 1 then X else up2 X 36 b (X 36 a + 1) := by
    unfold rx1_
    rw [h6, h7, e6, e7, nI_clamp (by omega), nI_clamp (by omega)]
  have v1 := rx_n ha8 hb8 hd
  rw [← E1] at v1
  obtain ⟨f1, hf1⟩ : ∃ f1 : Nat → Nat, f1 = fun p => if p = b then min (d b) (d a + 1) else d p := ⟨_, rfl⟩
  have f1b : f1 b = min (d b) (d a + 1) := by rw [hf1]; exact if_pos rfl
  have f1o : ∀ p, ¬ p = b → f1 p = d p := fun p hp => by rw [hf1]; exact if_neg hp
  have v1' : ∀ p, p < 8 → rx1_ j X 36 p = nI (f1 p) ∧ f1 p ≤ 100 := fun p hp => by
    refine ⟨by rw [v1 p hp, hf1], ?_⟩
    by_cases e : p = b
    · rw [e, f1b]
      have := (hd b hb8).2
      omega
    · rw [f1o p e]; exact (hd p hp).2
  have g6 : rx1_ j X 6 = F 6 := (rx1_o j X (by decide)).trans h6
  have g7 : rx1_ j X 7 = F 7 := (rx1_o j X (by decide)).trans h7
  have E2 : rx2_ j (rx1_ j X) = if rx1_ j X 36 a ≤ rx1_ j X 36 b + 1 then rx1_ j X else up2 (rx1_ j X) 36 a (rx1_ j X 36 b + 1) := by
    unfold rx2_
    rw [g6, g7, e6, e7, nI_clamp (by omega), nI_clamp (by omega)]
  have v2 := rx_n hb8 ha8 v1'
  rw [← E2] at v2
  obtain ⟨f2, hf2⟩ : ∃ f2 : Nat → Nat, f2 = fun p => if p = a then min (f1 a) (f1 b + 1) else f1 p := ⟨_, rfl⟩
  have f2a : f2 a = min (d a) (f1 b + 1) := by rw [hf2]; show (if a = a then min (f1 a) (f1 b + 1) else f1 a) = _; rw [if_pos rfl, f1o a hab]
  have f2o : ∀ p, ¬ p = a → f2 p = f1 p := fun p hp => by rw [hf2]; exact if_neg hp
  have f2b : f2 b = min (d b) (d a + 1) := by rw [f2o b (fun z => hab z.symm), f1b]
  have le2 : ∀ p, f2 p ≤ d p := fun p => by
    by_cases e : p = a
    · rw [e, f2a]; omega
    · rw [f2o p e]
      by_cases e2 : p = b
      · rw [e2, f1b]; omega
      · rw [f1o p e2]; omega
  have sa := hs a ha8
  have sb := hs b hb8
  have lo2 : ∀ p, p < 8 → D p t ≤ f2 p := fun p hp => by
    by_cases e : p = a
    · rw [e, f2a, f1b]; omega
    · rw [f2o p e]
      by_cases e2 : p = b
      · rw [e2, f1b]; omega
      · rw [f1o p e2]; exact (hs p hp).1
  refine ⟨f2, fun p hp => ⟨by rw [v2 p hp, hf2], Nat.le_trans (le2 p) (hd p hp).2⟩, fun p hp => ⟨lo2 p hp, fun z => ?_⟩, fun w x y hw2 hx hy ex ey => ?_⟩
  · have := (hs p hp).2 z
    have := le2 p
    have := lo2 p hp
    omega
  · by_cases ew : w = j
    · rw [ew, e6] at ex
      rw [ew, e7] at ey
      have ex' : a = x := (nI_eq (by omega) (by omega)).mp ex
      have ey' : b = y := (nI_eq (by omega) (by omega)).mp ey
      subst ex'
      subst ey'
      refine ⟨fun z => ?_, fun z => ?_⟩
      · have := sa.2 z
        rw [f2b]; omega
      · have := sb.2 z
        rw [f2a, f1b]; omega
    · obtain ⟨z1, z2⟩ := he w x y (by omega) hx hy ex ey
      refine ⟨fun z => Nat.le_trans (le2 y) (z1 z), fun z => Nat.le_trans (le2 x) (z2 z)⟩
theorem pj_round {n : Nat → Nat} {F : Nat → Nat → Int32} {D : Nat → Nat → Nat} (h : de_ n F D) (hw : ivw_ n F) (hN : nb_ n) {t r : Nat} (ht : t < 8) : ∀ (k j : Nat) (X : Nat → Nat → Int32), j + k = n 2 → X 6 = F 6 → X 7 = F 7 → pj_ F D t r j X → pj_ F D t r (n 2) (rM_next_L65 k j X)
  | 0, j, X, e, _, _, hX => by
    have : j = n 2 := by omega
    rw [← this]
    exact hX
  | k + 1, j, X, e, h6, h7, hX => by
    rw [L65_s]
    exact pj_round h hw hN ht k (j + 1) _ (by omega) ((rx2_o j _ (by decide)).trans ((rx1_o j X (by decide)).trans h6)) ((rx2_o j _ (by decide)).trans ((rx1_o j X (by decide)).trans h7)) (pj_step h hw hN ht (by omega) h6 h7 hX)
/-- the next round begins -/
theorem pj_next {n : Nat → Nat} {F : Nat → Nat → Int32} {D : Nat → Nat → Nat} (h : de_ n F D) {t r : Nat} (ht : t < 8) (hr : r < 50) {X : Nat → Nat → Int32} (hX : pj_ F D t r (n 2) X) : pj_ F D t (r + 1) 0 X := by
  obtain ⟨d, hd, hs, he⟩ := hX
  refine ⟨d, hd, fun p hp => ⟨(hs p hp).1, fun z => ?_⟩, fun w a b hw => absurd hw (Nat.not_lt_zero _)⟩
  by_cases c : D p t ≤ r
  · exact (hs p hp).2 c
  · have hne : ¬ p = t := fun z2 => by rw [z2, h.2.1 t ht] at c; omega
    obtain ⟨q, hq8, ⟨w, hw, hj⟩, e2⟩ := h.2.2.2.2.2 p t hp ht hne (by omega)
    have lo := (hs p hp).1
    rcases hj with ⟨e6, e7⟩ | ⟨e6, e7⟩
    · have := (he w p q hw hp hq8 e6 e7).2 (by omega)
      omega
    · have := (he w q p hw hq8 hp e6 e7).1 (by omega)
      omega
theorem pj_all {n : Nat → Nat} {F : Nat → Nat → Int32} {D : Nat → Nat → Nat} (h : de_ n F D) (hw : ivw_ n F) (hN : nb_ n) {t : Nat} (ht : t < 8) : ∀ (k r : Nat) (X : Nat → Nat → Int32), r + k ≤ 50 → X 6 = F 6 → X 7 = F 7 → pj_ F D t r 0 X → ∀ j, pj_ F D t (r + k) 0 (rM_next_L56 n k j X)
  | 0, r, X, _, _, _, hX, _ => hX
  | k + 1, r, X, e, h6, h7, hX, j => by
    show pj_ F D t (r + (k + 1)) 0 (rM_next_L56 n k (j + 1) (rM_next_L65 (n 2) 0 X))
    have := pj_all h hw hN ht k (r + 1) (rM_next_L65 (n 2) 0 X) (by omega) ((L65_o _ _ _ 6 (by decide)).trans h6) ((L65_o _ _ _ 7 (by decide)).trans h7) (pj_next h ht (by omega) (pj_round h hw hN ht (n 2) 0 X (by omega) h6 h7 hX)) (j + 1)
    rw [show r + (k + 1) = r + 1 + k by omega]
    exact this
/-- behind its eight rounds the reference has the fewest ways -/
theorem far_D {n : Nat → Nat} {F : Nat → Nat → Int32} {D : Nat → Nat → Nat} (h : de_ n F D) (hw : ivw_ n F) (hN : nb_ n) {t : Nat} (ht : t < 8) : ∀ p, p < 8 → rM_next_L56 n 8 0 (rM_next_L25 (nI t) 8 0 F) 36 p = nI (D p t) := by
  have hi := L25_i (a2 := nI t) 8 0 F (fun p hp => absurd hp (Nat.not_lt_zero _))
  have h0 : pj_ F D t 0 0 (rM_next_L25 (nI t) 8 0 F) := by
    refine ⟨fun p => if p = t then 0 else 100, fun p hp => ⟨?_, ?_⟩, fun p hp => ⟨?_, fun z => ?_⟩, fun w a b hw => absurd hw (Nat.not_lt_zero _)⟩
    · rw [hi p (by omega)]
      show _ = nI (if p = t then 0 else 100)
      by_cases e : p = t
      · rw [if_pos e, if_pos (by rw [e])]; rfl
      · rw [if_neg e, if_neg (nI_ne e (by omega) (by omega))]; rfl
    · show (if p = t then 0 else 100) ≤ 100
      split <;> omega
    · show D p t ≤ if p = t then 0 else 100
      by_cases e : p = t
      · rw [if_pos e, e, h.2.1 t ht]; omega
      · rw [if_neg e]; exact h.1 p t hp ht
    · show (if p = t then 0 else 100) = D p t
      have := de_zero h hp ht (by omega)
      rw [if_pos this]
      omega
  have h8 := pj_all h hw hN ht 8 0 _ (by omega) (L25_o 8 0 F 6 (by decide)) (L25_o 8 0 F 7 (by decide)) h0 0
  obtain ⟨d, hd, hs, -⟩ := h8
  intro p hp
  rw [(hd p hp).1]
  by_cases c : D p t < 100
  · have := de_7 h hp ht c
    rw [(hs p hp).2 (by omega)]
  · have a1 := (hs p hp).1
    have a2 := (hd p hp).2
    rw [show d p = D p t by omega]
theorem bt_aux (P1 P2 P3 P4 : Prop) [Decidable P1] [Decidable P2] [Decidable P3] [Decidable P4] (X Y : Int32) : (if P1 then (if P2 then Y else (if P3 then (if P4 then Y else X) else X)) else (if P3 then (if P4 then Y else X) else X)) = if (P1 ∧ P2) ∨ (P3 ∧ P4) then Y else X := by
  by_cases h1 : P1 <;> by_cases h2 : P2 <;> by_cases h3 : P3 <;> by_cases h4 : P4 <;> simp [h1, h2, h3, h4]
theorem betw {F : Nat → Nat → Int32} {a1 a2 : Int32} : ∀ (k j : Nat), j + k < 1000 → (rM_between_L2 F a1 a2 k j = -1 ↔ ∀ w, j ≤ w → w < j + k → ¬ ((F 6 w = a1 ∧ F 7 w = a2) ∨ (F 6 w = a2 ∧ F 7 w = a1)))
  | 0, j, _ => ⟨fun _ w h1 h2 => absurd h2 (by omega), fun _ => rfl⟩
  | k + 1, j, hjk => by
    have ih := betw (F := F) (a1 := a1) (a2 := a2) k (j + 1) (by omega)
    have hn : ¬ nI j = -1 := fun z => by
      have := congrArg Int32.toInt z
      rw [nI_toInt (by omega), show (-1 : Int32).toInt = -1 from rfl] at this
      omega
    have ext : (∀ w, j ≤ w → w < j + (k + 1) → ¬ ((F 6 w = a1 ∧ F 7 w = a2) ∨ (F 6 w = a2 ∧ F 7 w = a1))) ↔ ¬ ((F 6 j = a1 ∧ F 7 j = a2) ∨ (F 6 j = a2 ∧ F 7 j = a1)) ∧ ∀ w, j + 1 ≤ w → w < j + 1 + k → ¬ ((F 6 w = a1 ∧ F 7 w = a2) ∨ (F 6 w = a2 ∧ F 7 w = a1)) := by
      refine ⟨fun z => ⟨z j (Nat.le_refl _) (by omega), fun w h1 h2 => z w (by omega) (by omega)⟩, fun z w h1 h2 => ?_⟩
      by_cases e : w = j
      · rw [e]; exact z.1
      · exact z.2 w (by omega) (by omega)
    rw [ext, ← ih]
    show (if F 6 j = a1 then (if F 7 j = a2 then nI j else (if F 6 j = a2 then (if F 7 j = a1 then nI j else rM_between_L2 F a1 a2 k (j + 1)) else rM_between_L2 F a1 a2 k (j + 1))) else (if F 6 j = a2 then (if F 7 j = a1 then nI j else rM_between_L2 F a1 a2 k (j + 1)) else rM_between_L2 F a1 a2 k (j + 1))) = -1 ↔ _
    rw [bt_aux (F 6 j = a1) (F 7 j = a2) (F 6 j = a2) (F 7 j = a1)]
    by_cases c : (F 6 j = a1 ∧ F 7 j = a2) ∨ (F 6 j = a2 ∧ F 7 j = a1)
    · rw [if_pos c]
      exact ⟨fun z => absurd z hn, fun z => absurd c z.1⟩
    · rw [if_neg c]
      exact ⟨fun z => ⟨c, z⟩, fun z => z.2⟩
theorem e_betw {n : Nat → Nat} {F X : Nat → Nat → Int32} (hN : nb_ n) (h6 : X 6 = F 6) (h7 : X 7 = F 7) (a b : Nat) : rM_between n X (nI a) (nI b) = -1 ↔ ¬ jo_ n F a b := by
  unfold rM_between
  rw [betw (n 2) 0 (by omega), h6, h7]
  refine ⟨fun z ⟨w, hw, y⟩ => z w (Nat.zero_le _) (by omega) y, fun z w _ hw y => z ⟨w, by omega, y⟩⟩
theorem nI_n1 {k : Nat} (h : k < 2147483648) : ¬ nI k = -1 := fun z => by
  have := congrArg Int32.toInt z
  rw [nI_toInt (by omega), show (-1 : Int32).toInt = -1 from rfl] at this
  omega
/-- the class's way of finding it: the first neighbour that is nearer -/
theorem nx_class {n : Nat → Nat} {G F : Nat → Nat → Int32} {D : Nat → Nat → Nat} (hG : ∀ i j, i < 8 → j < 8 → G 43 (8 * i + j) = nI (D i j)) (h : de_ n F D) {a t q : Nat} (ha : a < 8) (ht : t < 8) (hat : ¬ a = t) (hd : D a t < 100) (hq : q < 8) (hjo : jo_ n F a q) (haq : ¬ a = q) (eq : D q t + 1 = D a t) (hl : ∀ p, p < q → ¬ a = p → jo_ n F a p → ¬ D p t + 1 = D a t) : ∀ k j, j + k = 8 → j ≤ q → sX_next_L26 G (nI a) (nI t) k j = nI q := by
  intro k
  induction k with
  | zero => intro j hj hjq; omega
  | succ k ih =>
    intro j hj hjq
    show (if G 43 (8 * (nI a).toNatClampNeg + j) = 1 then (if G 43 (8 * j + (nI t).toNatClampNeg) = G 43 (8 * (nI a).toNatClampNeg + (nI t).toNatClampNeg) - 1 then nI j else sX_next_L26 G (nI a) (nI t) k (j + 1)) else sX_next_L26 G (nI a) (nI t) k (j + 1)) = nI q
    rw [nI_clamp (by omega), nI_clamp (by omega), hG a j ha (by omega), hG j t (by omega) ht, hG a t ha ht]
    have e1 : nI (D a t) - 1 = nI (D a t - 1) := by
      rw [show D a t = (D a t - 1) + 1 by omega, nI_pred]
      rfl
    have h1 := h.1 j t (by omega) ht
    have h2 := h.1 a j ha (by omega)
    rw [e1]
    by_cases ej : j = q
    · subst ej
      rw [if_pos (show nI (D a j) = 1 by rw [(de_one h ha hq haq).mpr hjo]; rfl), if_pos (show nI (D j t) = nI (D a t - 1) by rw [show D a t - 1 = D j t by omega])]
    · have step := ih (j + 1) (by omega) (by omega)
      rw [step]
      by_cases c1 : nI (D a j) = 1
      · rw [if_pos c1]
        have c1' : D a j = 1 := (nI_eq (b := 1) (by omega) (by decide)).mp c1
        have haj : ¬ a = j := fun z => by rw [← z, h.2.1 a ha] at c1'; omega
        have c2 : ¬ nI (D j t) = nI (D a t - 1) := fun z => by
          have := (nI_eq (by omega) (by omega)).mp z
          exact hl j (by omega) haj ((de_one h ha (by omega) haj).mp c1') (by omega)
        rw [if_neg c2]
      · rw [if_neg c1]
/-- the reference's way: the nearest neighbour of least number -/
theorem nx_ref {n : Nat → Nat} {F X : Nat → Nat → Int32} {D : Nat → Nat → Nat} (hN : nb_ n) (hw : ivw_ n F) (h : de_ n F D) {a t q : Nat} (ha : a < 8) (ht : t < 8) (hX : ∀ p, p < 8 → X 36 p = nI (D p t)) (hb : ∀ p, rM_between n X (nI a) (nI p) = -1 ↔ ¬ jo_ n F a p) (hd : D a t < 100) (hq : q < n 1) (hjo : jo_ n F a q) (eq : D q t + 1 = D a t) (hl : ∀ p, p < q → jo_ n F a p → ¬ D p t + 1 = D a t) (hEX : rM_next_L56 n 8 0 (rM_next_L25 (nI t) 8 0 F) = X) : ∀ k j x, j + k = n 1 → (j ≤ q → x = -1 ∨ ∃ b, b < j ∧ x = nI b ∧ D a t ≤ D b t) → (q < j → x = nI q) → rM_next_L201 n (nI t) F (nI a) k j x = nI q := by
  intro k
  induction k with
  | zero =>
    intro j x hj h1 h2
    exact h2 (by omega)
  | succ k ih =>
    intro j x hj h1 h2
    have hj8 : j < 8 := by omega
    have hlow : jo_ n F a j → D a t ≤ D j t + 1 := fun z => by
      have z1 := h.2.2.2.2.1 a j ha hj8 z
      have z2 := h.2.2.2.1 a t j ha ht hj8
      omega
    show (if rM_between n (rM_next_L56 n 8 0 (rM_next_L25 (nI t) 8 0 F)) (nI a) (nI j) = -1 then rM_next_L201 n (nI t) F (nI a) k (j + 1) x else (if 100 ≤ rM_next_L56 n 8 0 (rM_next_L25 (nI t) 8 0 F) 36 j then rM_next_L201 n (nI t) F (nI a) k (j + 1) x else (if x = -1 then rM_next_L201 n (nI t) F (nI a) k (j + 1) (nI j) else (if rM_next_L56 n 8 0 (rM_next_L25 (nI t) 8 0 F) 36 x.toNatClampNeg ≤ rM_next_L56 n 8 0 (rM_next_L25 (nI t) 8 0 F) 36 j then rM_next_L201 n (nI t) F (nI a) k (j + 1) x else rM_next_L201 n (nI t) F (nI a) k (j + 1) (nI j))))) = nI q
    rw [hEX, hX j hj8]
    have hj100 := h.1 j t hj8 ht
    by_cases c0 : rM_between n X (nI a) (nI j) = -1
    · rw [if_pos c0]
      have nj := (hb j).mp c0
      refine ih (j + 1) x (by omega) (fun z => ?_) (fun z => ?_)
      · rcases h1 (by omega) with y | ⟨b, hbj, y⟩
        · exact Or.inl y
        · exact Or.inr ⟨b, by omega, y⟩
      · by_cases e : j = q
        · rw [e] at nj; exact absurd hjo nj
        · exact h2 (by omega)
    rw [if_neg c0]
    have yj : jo_ n F a j := Classical.byContradiction fun z => c0 ((hb j).mpr z)
    by_cases c1 : 100 ≤ nI (D j t)
    · rw [if_pos c1]
      have c1' : 100 ≤ D j t := (nI_leI (a := 100) (by decide) (by omega)).mp c1
      refine ih (j + 1) x (by omega) (fun z => ?_) (fun z => ?_)
      · rcases h1 (by omega) with y | ⟨b, hbj, y⟩
        · exact Or.inl y
        · exact Or.inr ⟨b, by omega, y⟩
      · by_cases e : j = q
        · rw [e] at c1'; omega
        · exact h2 (by omega)
    rw [if_neg c1]
    have cj : j ≤ q → ¬ j = q → D a t ≤ D j t := fun z1 z2 => by
      have := hlow yj
      have := hl j (by omega) yj
      omega
    by_cases c2 : x = -1
    · rw [if_pos c2]
      refine ih (j + 1) (nI j) (by omega) (fun z => Or.inr ⟨j, by omega, rfl, cj (by omega) (by omega)⟩) (fun z => ?_)
      by_cases e : j = q
      · rw [e]
      · have := h2 (by omega)
        rw [c2] at this
        exact absurd this.symm (nI_n1 (by omega))
    rw [if_neg c2]
    by_cases hjq : j ≤ q
    · rcases h1 hjq with y | ⟨b, hbj, rfl, hDb⟩
      · exact absurd y c2
      · rw [nI_clamp (by omega), hX b (by omega)]
        have hb100 := h.1 b t (by omega) ht
        by_cases c3 : nI (D b t) ≤ nI (D j t)
        · rw [if_pos c3]
          have c3' := (nI_leI (by omega) (by omega)).mp c3
          refine ih (j + 1) (nI b) (by omega) (fun z => Or.inr ⟨b, by omega, rfl, hDb⟩) (fun z => ?_)
          have e : j = q := by omega
          rw [e] at c3'
          omega
        · rw [if_neg c3]
          refine ih (j + 1) (nI j) (by omega) (fun z => Or.inr ⟨j, by omega, rfl, cj (by omega) (by omega)⟩) (fun z => ?_)
          rw [show j = q by omega]
    · have ex := h2 (by omega)
      subst ex
      rw [nI_clamp (by omega), hX q (by omega)]
      have := hlow yj
      have hq100 := h.1 q t (by omega) ht
      rw [if_pos (nI_le (by omega) (by omega))]
      exact ih (j + 1) (nI q) (by omega) (fun z => by omega) (fun _ => rfl)
theorem nx_none {n : Nat → Nat} {F X : Nat → Nat → Int32} {D : Nat → Nat → Nat} (hN : nb_ n) (h : de_ n F D) {a t : Nat} (ha : a < 8) (ht : t < 8) (hX : ∀ p, p < 8 → X 36 p = nI (D p t)) (hb : ∀ p, rM_between n X (nI a) (nI p) = -1 ↔ ¬ jo_ n F a p) (hd : ¬ D a t < 100) (hEX : rM_next_L56 n 8 0 (rM_next_L25 (nI t) 8 0 F) = X) : ∀ k j, j + k = n 1 → rM_next_L201 n (nI t) F (nI a) k j (-1) = -1 := by
  intro k
  induction k with
  | zero => intro j _; rfl
  | succ k ih =>
    intro j hj
    have hj8 : j < 8 := by omega
    show (if rM_between n (rM_next_L56 n 8 0 (rM_next_L25 (nI t) 8 0 F)) (nI a) (nI j) = -1 then rM_next_L201 n (nI t) F (nI a) k (j + 1) (-1) else (if 100 ≤ rM_next_L56 n 8 0 (rM_next_L25 (nI t) 8 0 F) 36 j then rM_next_L201 n (nI t) F (nI a) k (j + 1) (-1) else _)) = -1
    rw [hEX, hX j hj8, ih (j + 1) (by omega)]
    by_cases c0 : rM_between n X (nI a) (nI j) = -1
    · rw [if_pos c0]
    rw [if_neg c0]
    have yj : jo_ n F a j := Classical.byContradiction fun z => c0 ((hb j).mpr z)
    have z1 := h.2.2.2.2.1 a j ha hj8 yj
    have z2 := h.2.2.2.1 a t j ha ht hj8
    have z3 : ¬ D j t < 100 := fun z => by
      have := de_7 h hj8 ht z
      omega
    have hj100 := h.1 j t hj8 ht
    rw [if_pos (show 100 ≤ nI (D j t) from nI_le (a := 100) (by omega) (by omega))]
theorem e_next0 {n : Nat → Nat} {G F : Nat → Nat → Int32} (hdx : dx_ n G F) (hw : ivw_ n F) (hN : nb_ n) (a1 a2 : Int32) : sX_next n G a1 a2 = (rM_next n F a1 a2).1 ∧ ∀ s, ¬ s = 36 → (rM_next n F a1 a2).2 s = F s := by
  obtain ⟨D, hG, hD⟩ := hdx
  unfold sX_next rM_next sX_areTwoPosts
  by_cases h1 : sp_in a1 0 ((nI (n 1)) - 1) = 0
  · rw [if_pos h1, if_pos h1]
    by_cases h0 : a1 = a2
    · rw [if_pos h0, if_pos rfl]; exact ⟨rfl, fun _ _ => rfl⟩
    · rw [if_neg h0, if_pos rfl]; exact ⟨rfl, fun _ _ => rfl⟩
  rw [if_neg h1, if_neg h1]
  by_cases h2 : sp_in a2 0 ((nI (n 1)) - 1) = 0
  · rw [if_pos h2, if_pos h2]
    by_cases h0 : a1 = a2
    · rw [if_pos h0, if_pos rfl]; exact ⟨rfl, fun _ _ => rfl⟩
    · rw [if_neg h0, if_pos rfl]; exact ⟨rfl, fun _ _ => rfl⟩
  rw [if_neg h2, if_neg h2]
  by_cases h0 : a1 = a2
  · rw [if_pos h0, if_pos h0, if_pos rfl]; exact ⟨rfl, fun _ _ => rfl⟩
  rw [if_neg h0, if_neg h0, if_neg (show ¬ (1 : Int32) = 0 by decide)]
  obtain ⟨l1, e1⟩ := sp_live2 h1 (by omega)
  obtain ⟨l2, e2⟩ := sp_live2 h2 (by omega)
  have hne : ¬ a1.toNatClampNeg = a2.toNatClampNeg := fun z => h0 (by rw [e1, e2, z])
  generalize a1.toNatClampNeg = a at *
  generalize a2.toNatClampNeg = t at *
  subst e1
  subst e2
  have ha : a < 8 := by omega
  have ht : t < 8 := by omega
  refine ⟨?_, fun s hs => by
    show rM_next_L56 n 8 0 (rM_next_L25 (nI t) 8 0 F) s = F s
    rw [L56_o _ _ _ s hs, L25_o _ _ _ s hs]⟩
  show (if G 43 (8 * a + t) < 100 then sX_next_L26 G (nI a) (nI t) 8 0 else -1) = rM_next_L201 n (nI t) F (nI a) (n 1) 0 (-1)
  have hX := far_D hD hw hN ht
  have hbt : ∀ p, rM_between n (rM_next_L56 n 8 0 (rM_next_L25 (nI t) 8 0 F)) (nI a) (nI p) = -1 ↔ ¬ jo_ n F a p := fun p => e_betw hN ((L56_o _ _ _ 6 (by decide)).trans (L25_o _ _ _ 6 (by decide))) ((L56_o _ _ _ 7 (by decide)).trans (L25_o _ _ _ 7 (by decide))) a p
  rw [hG a t ha ht]
  have h100 := hD.1 a t ha ht
  by_cases c : D a t < 100
  · rw [if_pos (show nI (D a t) < 100 from nI_lt (b := 100) c (by decide))]
    obtain ⟨q0, hq0, hjo0, e0⟩ := hD.2.2.2.2.2 a t ha ht hne c
    obtain ⟨q, ⟨hq8, hjo, eq⟩, hleast⟩ := pk_least (fun q => q < 8 ∧ jo_ n F a q ∧ D q t + 1 = D a t) ⟨q0, hq0, hjo0, e0⟩
    have haq : ¬ a = q := fun z => by rw [← z] at eq; omega
    have hq1 : q < n 1 := by
      obtain ⟨w, hwn, hj⟩ := hjo
      obtain ⟨x, y, hx, hy, -, e6, e7⟩ := hw w hwn
      rcases hj with ⟨z6, z7⟩ | ⟨z6, z7⟩
      · rw [e7] at z7
        have := (nI_eq (by omega) (by omega)).mp z7
        omega
      · rw [e6] at z6
        have := (nI_eq (by omega) (by omega)).mp z6
        omega
    rw [nx_class hG hD ha ht hne c hq8 hjo haq eq (fun p hp _ hj e => hleast p hp ⟨by omega, hj, e⟩) 8 0 rfl (by omega)]
    exact (nx_ref hN hw hD ha ht hX hbt c hq1 hjo eq (fun p hp hj e => hleast p hp ⟨by omega, hj, e⟩) rfl (n 1) 0 (-1) (by omega) (fun _ => Or.inl rfl) (fun z => absurd z (Nat.not_lt_zero _))).symm
  · rw [if_neg (show ¬ nI (D a t) < 100 from fun z => c ((nI_ltI (b := 100) (by omega) (by decide)).mp z))]
    exact (nx_none hN hD ha ht hX hbt c rfl (n 1) 0 (by omega)).symm
theorem rel_ext {n : Nat → Nat} {G F F' : Nat → Nat → Int32} (h : rel_ n G F) (hs : ∀ s, ¬ s = 36 → F' s = F s) : rel_ n G F' := by
  have hf : F' = va_up F 36 (F' 36) := by
    funext s
    by_cases e : s = 36
    · rw [e, va_up_self]
    · rw [va_up_ne _ _ e]; exact hs s e
  rw [hf]
  refine ⟨fun s hsh => ?_, h.2⟩
  rw [va_up_ne _ _ (fun z => by rw [z] at hsh; cases hsh)]
  exact h.1 s hsh
theorem s_next {n : Nat → Nat} {G F : Nat → Nat → Int32} (h : rel_ n G F) (hN : nb_ n) (a1 a2 : Int32) : sX_next n G a1 a2 = (rM_next n F a1 a2).1 ∧ rel_ n G (rM_next n F a1 a2).2 := by
  obtain ⟨p1, p2⟩ := e_next0 h.2.2.2.2.2.1 h.2.2.2.2.2.2.1 hN a1 a2
  exact ⟨p1, rel_ext h p2⟩
