/-! the fewest ways: what next() walks by -/
theorem pig : ∀ (N m : Nat) (f : Nat → Nat), (∀ i, i ≤ m → f i < N) → (∀ i j, i ≤ m → j ≤ m → f i = f j → i = j) → m < N
  | 0, m, f, h, _ => absurd (h 0 (Nat.zero_le _)) (Nat.not_lt_zero _)
  | N + 1, 0, _, _, _ => Nat.succ_pos N
  | N + 1, m + 1, f, h, hi => by
    by_cases he : ∃ i, i ≤ m + 1 ∧ f i = N
    · obtain ⟨i0, h0, e0⟩ := he
      have := pig N m (fun i => f (if i < i0 then i else i + 1)) (fun i hi2 => by
        have h1 : f (if i < i0 then i else i + 1) < N + 1 := h _ (by split <;> omega)
        have h2 : ¬ f (if i < i0 then i else i + 1) = N := fun z => by
          have := hi _ i0 (by split <;> omega) h0 (z.trans e0.symm)
          split at this <;> omega
        show f (if i < i0 then i else i + 1) < N
        omega) (fun i j hi2 hj2 z => by
        have := hi _ _ (by split <;> omega) (by split <;> omega) z
        split at this <;> split at this <;> omega)
      omega
    · have := pig N (m + 1) f (fun i hi2 => by
        have h1 := h i hi2
        have h2 : ¬ f i = N := fun z => he ⟨i, hi2, z⟩
        omega) hi
      omega
section DE
variable {n : Nat → Nat} {F : Nat → Nat → Int32} {D : Nat → Nat → Nat}
theorem de_zero (h : de_ n F D) {i j : Nat} (hi : i < 8) (hj : j < 8) (e : D i j = 0) : i = j := Classical.byContradiction fun z => by
  obtain ⟨q, -, -, hq⟩ := h.2.2.2.2.2 i j hi hj z (by omega)
  omega
theorem de_one (h : de_ n F D) {i j : Nat} (hi : i < 8) (hj : j < 8) (hij : ¬ i = j) : D i j = 1 ↔ jo_ n F i j := by
  refine ⟨fun e => ?_, fun e => ?_⟩
  · obtain ⟨q, hq8, hq, e2⟩ := h.2.2.2.2.2 i j hi hj hij (by omega)
    have := de_zero h hq8 hj (by omega)
    rw [this] at hq
    exact hq
  · have h1 := h.2.2.2.2.1 i j hi hj e
    have h2 : ¬ D i j = 0 := fun z => hij (de_zero h hi hj z)
    omega
theorem de_chain (h : de_ n F D) {t : Nat} (ht : t < 8) : ∀ m p, p < 8 → D p t = m → m < 100 → ∃ f : Nat → Nat, ∀ i, i ≤ m → f i < 8 ∧ D (f i) t = i
  | 0, p, hp, e, _ => ⟨fun _ => p, fun i hi => ⟨hp, by rw [e]; omega⟩⟩
  | m + 1, p, hp, e, hm => by
    have hne : ¬ p = t := fun z => by rw [z, h.2.1 t ht] at e; omega
    obtain ⟨q, hq8, -, e2⟩ := h.2.2.2.2.2 p t hp ht hne (by omega)
    obtain ⟨f, hf⟩ := de_chain h ht m q hq8 (by omega) (by omega)
    refine ⟨fun i => if i ≤ m then f i else p, fun i hi => ?_⟩
    by_cases c : i ≤ m
    · show (if i ≤ m then f i else p) < 8 ∧ D (if i ≤ m then f i else p) t = i
      rw [if_pos c]
      exact hf i c
    · show (if i ≤ m then f i else p) < 8 ∧ D (if i ≤ m then f i else p) t = i
      rw [if_neg c]
      exact ⟨hp, by omega⟩
theorem de_7 (h : de_ n F D) {p t : Nat} (hp : p < 8) (ht : t < 8) (hd : D p t < 100) : D p t ≤ 7 := by
  obtain ⟨f, hf⟩ := de_chain h ht (D p t) p hp rfl hd
  have := pig 8 (D p t) f (fun i hi => (hf i hi).1) (fun i j hi hj z => by
    rw [← (hf i hi).2, ← (hf j hj).2, z])
  omega
end DE
/-! a way more -/
def dn_ (D : Nat → Nat → Nat) (a b : Nat) (i j : Nat) : Nat := min (D i j) (min (D i a + 1 + D b j) (D i b + 1 + D a j))
theorem jo_sym {n : Nat → Nat} {F : Nat → Nat → Int32} {a b : Nat} (h : jo_ n F a b) : jo_ n F b a := by
  obtain ⟨w, hw, h⟩ := h
  exact ⟨w, hw, h.symm⟩
theorem dn_tri {n : Nat → Nat} {F : Nat → Nat → Int32} {D : Nat → Nat → Nat} (h : de_ n F D) {a b i j k : Nat} (ha : a < 8) (hb : b < 8) (hi : i < 8) (hj : j < 8) (hk : k < 8) : dn_ D a b i j ≤ dn_ D a b i k + dn_ D a b k j := by
  obtain ⟨-, h0, hs, ht, -, -⟩ := h
  have t1 := ht i j k hi hj hk
  have t2 := ht i a k hi ha hk
  have t3 := ht i b k hi hb hk
  have t4 := ht b j k hb hj hk
  have t5 := ht a j k ha hj hk
  have t6 := ht i j a hi hj ha
  have t7 := ht i j b hi hj hb
  unfold dn_
  omega
theorem de_way {n : Nat → Nat} {F : Nat → Nat → Int32} {D : Nat → Nat → Nat} (h : de_ n F D) {a b : Nat} (ha : a < 8) (hb : b < 8) {n' : Nat → Nat} {F' : Nat → Nat → Int32} (hj : ∀ x y, x < 8 → y < 8 → (jo_ n' F' x y ↔ jo_ n F x y ∨ (x = a ∧ y = b) ∨ (x = b ∧ y = a))) : de_ n' F' (dn_ D a b) := by
  have hh := h
  obtain ⟨h1, h0, hs, ht, he, hp⟩ := h
  have e0 : ∀ x y, x < 8 → y < 8 → jo_ n' F' x y → dn_ D a b x y ≤ 1 := fun x y hx hy hxy => by
    have a0 := h0 a ha
    have b0 := h0 b hb
    rcases (hj x y hx hy).mp hxy with z | ⟨rfl, rfl⟩ | ⟨rfl, rfl⟩
    · have := he x y hx hy z
      unfold dn_
      omega
    · unfold dn_
      omega
    · unfold dn_
      omega
  refine ⟨fun i j hi hj2 => ?_, fun i hi => ?_, fun i j hi hj2 => ?_, fun i j k hi hj2 hk => dn_tri hh ha hb hi hj2 hk, e0, fun i j hi hj2 hij hd => ?_⟩
  · have := h1 i j hi hj2
    unfold dn_
    omega
  · have := h0 i hi
    unfold dn_
    omega
  · have s1 := hs i j hi hj2
    have s2 := hs i a hi ha
    have s3 := hs b j hb hj2
    have s4 := hs i b hi hb
    have s5 := hs a j ha hj2
    unfold dn_
    omega
  · have fin : ∀ q, q < 8 → jo_ n' F' i q → dn_ D a b q j + 1 ≤ dn_ D a b i j → ∃ q, q < 8 ∧ jo_ n' F' i q ∧ dn_ D a b q j + 1 = dn_ D a b i j := fun q hq hjo hle => by
      refine ⟨q, hq, hjo, ?_⟩
      have z1 := dn_tri hh ha hb hi hj2 hq
      have z2 := e0 i q hi hq hjo
      omega
    have a0 := h0 a ha
    have b0 := h0 b hb
    rcases (show dn_ D a b i j = D i j ∨ dn_ D a b i j = D i a + 1 + D b j ∨ dn_ D a b i j = D i b + 1 + D a j by unfold dn_; omega) with e | e | e
    · obtain ⟨q, hq, hjo, e2⟩ := hp i j hi hj2 hij (by omega)
      refine fin q hq ((hj i q hi hq).mpr (Or.inl hjo)) ?_
      have : dn_ D a b q j ≤ D q j := by unfold dn_; omega
      omega
    · by_cases c : i = a
      · subst c
        refine fin b hb ((hj i b hi hb).mpr (Or.inr (Or.inl ⟨rfl, rfl⟩))) ?_
        have : dn_ D i b b j ≤ D b j := by unfold dn_; omega
        omega
      · obtain ⟨q, hq, hjo, e2⟩ := hp i a hi ha c (by omega)
        refine fin q hq ((hj i q hi hq).mpr (Or.inl hjo)) ?_
        have : dn_ D a b q j ≤ D q a + 1 + D b j := by unfold dn_; omega
        omega
    · by_cases c : i = b
      · subst c
        refine fin a ha ((hj i a hi ha).mpr (Or.inr (Or.inr ⟨rfl, rfl⟩))) ?_
        have : dn_ D a i a j ≤ D a j := by unfold dn_; omega
        omega
      · obtain ⟨q, hq, hjo, e2⟩ := hp i b hi hb c (by omega)
        refine fin q hq ((hj i q hi hq).mpr (Or.inl hjo)) ?_
        have : dn_ D a b q j ≤ D q b + 1 + D a j := by unfold dn_; omega
        omega
/-- in place: between the old and the new -/
theorem dn_in {n : Nat → Nat} {F : Nat → Nat → Int32} {D C : Nat → Nat → Nat} (h : de_ n F D) {a b i j : Nat} (ha : a < 8) (hb : b < 8) (hi : i < 8) (hj : j < 8) (hC : ∀ x y, x < 8 → y < 8 → dn_ D a b x y ≤ C x y ∧ C x y ≤ D x y) : min (C i j) (min (C i a + 1 + C b j) (C i b + 1 + C a j)) = dn_ D a b i j := by
  obtain ⟨-, h0, hs, ht, -, -⟩ := h
  have a0 := h0 a ha
  have b0 := h0 b hb
  have t6 := ht i j a hi hj ha
  have t7 := ht i j b hi hj hb
  have c1 := hC i j hi hj
  have c2 := hC i a hi ha
  have c3 := hC b j hb hj
  have c4 := hC i b hi hb
  have c5 := hC a j ha hj
  unfold dn_ at *
  omega
