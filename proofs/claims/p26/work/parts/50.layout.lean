/-! the class's cells by their roles: 1 Post, 2 Way, 3 Canoe, 4 Letter, 5 stock, 6 prices, 7 owed, 8 reports of a post, 9 waresSent, 10 wares of a canoe, 11 stock of a report, 12 distances, 13 wants, 14 tallies (rows), 21 .. 28 the object's own arrays -/
def il_ : Nat → Nat
  | 5 => 6
  | 6 => 6
  | 7 => 12
  | 9 => 6
  | 10 => 6
  | 11 => 6
  | 12 => 8
  | 13 => 21
  | 14 => 6
  | 28 => 6
  | _ => 0
def is_ : Nat → Nat
  | 5 => 2
  | 6 => 3
  | 7 => 4
  | 9 => 23
  | 10 => 22
  | 11 => 31
  | 12 => 43
  | 13 => 33
  | 14 => 34
  | 28 => 12
  | _ => 0
def ix_ (i w : Nat) : Nat → Nat
  | 5 => 6 * i + w
  | 6 => 6 * i + w
  | 7 => 12 * i + w
  | 9 => 6 * i + w
  | 10 => 6 * i + w
  | 11 => 6 * i + w
  | 12 => 8 * i + w
  | 13 => 21 * i + w
  | 14 => 6 * w + i
  | 28 => w
  | _ => 0
def ro_ (ad : Nat → Nat → Nat) (v : Int32) : Option Nat := if v = -1 then none else some (ad 4 v.toNatClampNeg)
def lq_ (ad : Nat → Nat → Nat) (G : Nat → Nat → Int32) (i : Nat) : va_E := if G 26 i = 0 then .inr (2, [.int (G 40 i), .int (G 27 i), .int (G 41 i), .int (G 42 i), .int (G 29 i), .int (G 30 i)]) else if G 26 i = 1 then .inr (1, [.int (G 40 i), .int (G 27 i), .int (G 41 i), .int (G 42 i), .int (G 29 i), .int (G 30 i)]) else .inr (4, [.int (G 40 i), .int (G 27 i), .int (G 41 i), .int (G 42 i), .int (G 30 i), .ref (ad 11 i)])
def ce_ (cI : ClassId) (cy : Nat → ClassId) (ad : Nat → Nat → Nat) (n : Nat → Nat) (G : Nat → Nat → Int32) (i : Nat) (e : va_E) : Nat → Prop
  | 1 => e = .inr (3, [.ref (ad 5 i), .ref (ad 6 i), .ref (ad 7 i), .ref (ad 8 i)])
  | 2 => e = .inr (5, [.int (G 6 i), .int (G 7 i), .int (G 8 i), .int (G 9 i), .int (G 10 i), .int (G 11 i)])
  | 3 => e = .inr (0, [.int (G 14 i), .int (G 15 i), .int (G 16 i), .int (G 19 i), .ref (ad 9 i), .ref (ad 10 i), .int (G 21 i), .int (G 17 i), .int (G 20 i), .int (G 18 i), .int (G 24 i)])
  | 4 => e = lq_ ad G i
  | 8 => ∃ g : Nat → Option Nat, e = .inl (cy 7, 8, .inr (.inr (.inr (.inr g)))) ∧ ∀ w, w < 8 → g w = ro_ ad (G 32 (8 * i + w))
  | 21 => e = .inl (cy 8, 8, .inr (.inr (.inr (.inr (fun j => if j < n 1 then some (ad 1 j) else none)))))
  | 22 => e = .inl (cy 9, 12, .inr (.inr (.inr (.inr (fun j => if j < n 2 then some (ad 2 j) else none)))))
  | 23 => e = .inl (cy 10, 120, .inr (.inr (.inr (.inr (fun j => if j < n 3 then some (ad 3 j) else none)))))
  | 24 => e = .inl (cy 11, 300, .inr (.inr (.inr (.inr (fun j => if j < n 4 then some (ad 4 j) else none)))))
  | 25 => e = .inl (cy 12, 8, .inr (.inr (.inr (.inr (fun j => if j < 8 then some (ad 12 j) else none)))))
  | 26 => e = .inl (cy 13, 6, .inr (.inr (.inr (.inr (fun j => if j < 6 then some (ad 13 j) else none)))))
  | 27 => e = .inl (cy 14, 6, .inr (.inr (.inr (.inr (fun j => if j < 6 then some (ad 14 j) else none)))))
  | k => ∃ g : Nat → Int32, e = .inl (cI, il_ k, .inl g) ∧ ∀ w, w < il_ k → g w = G (is_ k) (ix_ i w k)
/-- which roles there are -/
def lf_ (n : Nat → Nat) (G : Nat → Nat → Int32) (i : Nat) : Nat → Prop
  | 1 => i < n 1
  | 2 => i < n 2
  | 3 => i < n 3
  | 4 => i < n 4
  | 5 => i < n 1
  | 6 => i < n 1
  | 7 => i < n 1
  | 8 => i < n 1
  | 9 => i < n 3
  | 10 => i < n 3
  | 11 => i < n 4 ∧ ¬ G 26 i = 0 ∧ ¬ G 26 i = 1
  | 12 => i < 8
  | 13 => i < 6
  | 14 => i < 6
  | 21 => i = 0
  | 22 => i = 0
  | 23 => i = 0
  | 24 => i = 0
  | 25 => i = 0
  | 26 => i = 0
  | 27 => i = 0
  | 28 => i = 0
  | _ => False
/-- a report that is known is a report that was written -/
def rv_ (n : Nat → Nat) (G : Nat → Nat → Int32) : Prop := ∀ i w, i < n 1 → w < 8 → G 32 (8 * i + w) = -1 ∨ ∃ l, l < n 4 ∧ G 32 (8 * i + w) = nI l ∧ ¬ G 26 l = 0 ∧ ¬ G 26 l = 1
/-- the layout: each role's address lies in the pool, has that role, and holds what the state says -/
def ly_ (cI : ClassId) (cy : Nat → ClassId) (q : Nat → Nat) (ad : Nat → Nat → Nat) (rl : Nat → Nat × Nat) (L : List Nat) (n : Nat → Nat) (G : Nat → Nat → Int32) (f : Nat → va_E) : Prop :=
  (∀ k i, lf_ n G i k → ad k i ∈ L ∧ rl (ad k i) = (k, i) ∧ ce_ cI cy ad n G i (f (ad k i)) k) ∧ (∀ j, 1 ≤ j → j ≤ 8 → q j = ad (20 + j) 0) ∧ rv_ n G
def cp_ (D : va_G) (cI : ClassId) (cy : Nat → ClassId) (h0 : Nat) (q : Nat → Nat) (A : Nat → Prop) (ad : Nat → Nat → Nat) (rl : Nat → Nat × Nat) (L : List Nat) (n : Nat → Nat) (G : Nat → Nat → Int32) (H : Heap) : Prop :=
  ∃ f, va_P D vwCl (xo_ h0 q n (G 44 0) ++ va_pl L f) H ∧ va_D A (xo_ h0 q n (G 44 0) ++ va_pl L f) ∧ ly_ cI cy q ad rl L n G f
theorem up2_eq (G : Nat → Nat → Int32) (s k : Nat) (v : Int32) : up2 G s k v s k = v := by unfold up2; rw [va_up_self]; exact pk_us
theorem up2_nk (G : Nat → Nat → Int32) (s : Nat) {k j : Nat} (v : Int32) (h : j ≠ k) : up2 G s k v s j = G s j := by unfold up2; rw [va_up_self]; exact pk_un h
theorem up2_ns (G : Nat → Nat → Int32) {s t : Nat} (k : Nat) (v : Int32) (h : t ≠ s) : up2 G s k v t = G t := by unfold up2; exact va_up_ne _ _ h
theorem up2_or (G : Nat → Nat → Int32) {s t k j : Nat} (v : Int32) (h : ¬ (t = s ∧ j = k)) : up2 G s k v t j = G t j := by
  by_cases e : t = s
  · subst e; exact up2_nk G t v (fun z => h ⟨rfl, z⟩)
  · rw [up2_ns G k v e]
theorem is_lt (k : Nat) : is_ k < 44 := by
  unfold is_
  split <;> decide
theorem ce_ar {cI : ClassId} {cy : Nat → ClassId} {ad : Nat → Nat → Nat} {n : Nat → Nat} {G : Nat → Nat → Int32} {i : Nat} {e : va_E} : ∀ {k : Nat}, 0 < il_ k → (ce_ cI cy ad n G i e k ↔ ∃ g : Nat → Int32, e = .inl (cI, il_ k, .inl g) ∧ ∀ w, w < il_ k → g w = G (is_ k) (ix_ i w k))
  | 0, h => absurd h (by decide)
  | 1, h => absurd h (by decide)
  | 2, h => absurd h (by decide)
  | 3, h => absurd h (by decide)
  | 4, h => absurd h (by decide)
  | 5, _ => Iff.rfl
  | 6, _ => Iff.rfl
  | 7, _ => Iff.rfl
  | 8, h => absurd h (by decide)
  | 9, _ => Iff.rfl
  | 10, _ => Iff.rfl
  | 11, _ => Iff.rfl
  | 12, _ => Iff.rfl
  | 13, _ => Iff.rfl
  | 14, _ => Iff.rfl
  | 15, h => absurd h (by decide)
  | 16, h => absurd h (by decide)
  | 17, h => absurd h (by decide)
  | 18, h => absurd h (by decide)
  | 19, h => absurd h (by decide)
  | 20, h => absurd h (by decide)
  | 21, h => absurd h (by decide)
  | 22, h => absurd h (by decide)
  | 23, h => absurd h (by decide)
  | 24, h => absurd h (by decide)
  | 25, h => absurd h (by decide)
  | 26, h => absurd h (by decide)
  | 27, h => absurd h (by decide)
  | 28, _ => Iff.rfl
  | k + 29, h => absurd h (Nat.lt_irrefl 0)
/-- whose a place of the state is -/
def ow_ (x : Nat) : Nat → Nat × Nat
  | 2 => (5, x / 6)
  | 3 => (6, x / 6)
  | 4 => (7, x / 12)
  | 6 => (2, x)
  | 7 => (2, x)
  | 8 => (2, x)
  | 9 => (2, x)
  | 10 => (2, x)
  | 11 => (2, x)
  | 12 => (28, 0)
  | 14 => (3, x)
  | 15 => (3, x)
  | 16 => (3, x)
  | 17 => (3, x)
  | 18 => (3, x)
  | 19 => (3, x)
  | 20 => (3, x)
  | 21 => (3, x)
  | 22 => (10, x / 6)
  | 23 => (9, x / 6)
  | 24 => (3, x)
  | 26 => (4, x)
  | 27 => (4, x)
  | 29 => (4, x)
  | 30 => (4, x)
  | 31 => (11, x / 6)
  | 32 => (8, x / 8)
  | 33 => (13, x / 21)
  | 34 => (14, x % 6)
  | 40 => (4, x)
  | 41 => (4, x)
  | 42 => (4, x)
  | 43 => (12, x / 8)
  | _ => (0, 0)
theorem ow_ar {i w : Nat} : ∀ {k : Nat}, 0 < il_ k → w < il_ k → (k = 14 → i < 6) → (k = 28 → i = 0) → ow_ (ix_ i w k) (is_ k) = (k, i)
  | 0, h, hw, h6, h0 => absurd h (by decide)
  | 1, h, hw, h6, h0 => absurd h (by decide)
  | 2, h, hw, h6, h0 => absurd h (by decide)
  | 3, h, hw, h6, h0 => absurd h (by decide)
  | 4, h, hw, h6, h0 => absurd h (by decide)
  | 5, h, hw, h6, h0 => by have hw : w < 6 := hw; show (5, (6 * i + w) / 6) = (5, i); rw [show (6 * i + w) / 6 = i by omega]
  | 6, h, hw, h6, h0 => by have hw : w < 6 := hw; show (6, (6 * i + w) / 6) = (6, i); rw [show (6 * i + w) / 6 = i by omega]
  | 7, h, hw, h6, h0 => by have hw : w < 12 := hw; show (7, (12 * i + w) / 12) = (7, i); rw [show (12 * i + w) / 12 = i by omega]
  | 8, h, hw, h6, h0 => absurd h (by decide)
  | 9, h, hw, h6, h0 => by have hw : w < 6 := hw; show (9, (6 * i + w) / 6) = (9, i); rw [show (6 * i + w) / 6 = i by omega]
  | 10, h, hw, h6, h0 => by have hw : w < 6 := hw; show (10, (6 * i + w) / 6) = (10, i); rw [show (6 * i + w) / 6 = i by omega]
  | 11, h, hw, h6, h0 => by have hw : w < 6 := hw; show (11, (6 * i + w) / 6) = (11, i); rw [show (6 * i + w) / 6 = i by omega]
  | 12, h, hw, h6, h0 => by have hw : w < 8 := hw; show (12, (8 * i + w) / 8) = (12, i); rw [show (8 * i + w) / 8 = i by omega]
  | 13, h, hw, h6, h0 => by have hw : w < 21 := hw; show (13, (21 * i + w) / 21) = (13, i); rw [show (21 * i + w) / 21 = i by omega]
  | 14, h, hw, h6, h0 => by show (14, (6 * w + i) % 6) = (14, i); rw [show (6 * w + i) % 6 = i by have := h6 rfl; omega]
  | 15, h, hw, h6, h0 => absurd h (by decide)
  | 16, h, hw, h6, h0 => absurd h (by decide)
  | 17, h, hw, h6, h0 => absurd h (by decide)
  | 18, h, hw, h6, h0 => absurd h (by decide)
  | 19, h, hw, h6, h0 => absurd h (by decide)
  | 20, h, hw, h6, h0 => absurd h (by decide)
  | 21, h, hw, h6, h0 => absurd h (by decide)
  | 22, h, hw, h6, h0 => absurd h (by decide)
  | 23, h, hw, h6, h0 => absurd h (by decide)
  | 24, h, hw, h6, h0 => absurd h (by decide)
  | 25, h, hw, h6, h0 => absurd h (by decide)
  | 26, h, hw, h6, h0 => absurd h (by decide)
  | 27, h, hw, h6, h0 => absurd h (by decide)
  | 28, h, hw, h6, h0 => by show ((28, 0) : Nat × Nat) = (28, i); rw [h0 rfl]
  | _ + 29, h, _, _, _ => absurd h (Nat.lt_irrefl 0)
theorem lf_cases {n : Nat → Nat} {G : Nat → Nat → Int32} {i : Nat} : ∀ {k : Nat}, lf_ n G i k → 0 < il_ k ∨ k = 1 ∨ k = 2 ∨ k = 3 ∨ k = 4 ∨ k = 8 ∨ (21 ≤ k ∧ k ≤ 27)
  | 0, hl => hl.elim
  | 1, _ => Or.inr (Or.inl rfl)
  | 2, _ => Or.inr (Or.inr (Or.inl rfl))
  | 3, _ => Or.inr (Or.inr (Or.inr (Or.inl rfl)))
  | 4, _ => Or.inr (Or.inr (Or.inr (Or.inr (Or.inl rfl))))
  | 5, _ => Or.inl (by decide)
  | 6, _ => Or.inl (by decide)
  | 7, _ => Or.inl (by decide)
  | 8, _ => Or.inr (Or.inr (Or.inr (Or.inr (Or.inr (Or.inl rfl)))))
  | 9, _ => Or.inl (by decide)
  | 10, _ => Or.inl (by decide)
  | 11, _ => Or.inl (by decide)
  | 12, _ => Or.inl (by decide)
  | 13, _ => Or.inl (by decide)
  | 14, _ => Or.inl (by decide)
  | 15, hl => hl.elim
  | 16, hl => hl.elim
  | 17, hl => hl.elim
  | 18, hl => hl.elim
  | 19, hl => hl.elim
  | 20, hl => hl.elim
  | 21, _ => Or.inr (Or.inr (Or.inr (Or.inr (Or.inr (Or.inr ⟨by decide, by decide⟩)))))
  | 22, _ => Or.inr (Or.inr (Or.inr (Or.inr (Or.inr (Or.inr ⟨by decide, by decide⟩)))))
  | 23, _ => Or.inr (Or.inr (Or.inr (Or.inr (Or.inr (Or.inr ⟨by decide, by decide⟩)))))
  | 24, _ => Or.inr (Or.inr (Or.inr (Or.inr (Or.inr (Or.inr ⟨by decide, by decide⟩)))))
  | 25, _ => Or.inr (Or.inr (Or.inr (Or.inr (Or.inr (Or.inr ⟨by decide, by decide⟩)))))
  | 26, _ => Or.inr (Or.inr (Or.inr (Or.inr (Or.inr (Or.inr ⟨by decide, by decide⟩)))))
  | 27, _ => Or.inr (Or.inr (Or.inr (Or.inr (Or.inr (Or.inr ⟨by decide, by decide⟩)))))
  | 28, _ => Or.inl (by decide)
  | _ + 29, hl => hl.elim
theorem lf_14 {n : Nat → Nat} {G : Nat → Nat → Int32} {i k : Nat} (h : lf_ n G i k) : (k = 14 → i < 6) ∧ (k = 28 → i = 0) := ⟨fun e => by subst e; exact h, fun e => by subst e; exact h⟩
theorem cg_2 {cI : ClassId} {cy : Nat → ClassId} {ad : Nat → Nat → Nat} {n : Nat → Nat} {G G' : Nat → Nat → Int32} {i : Nat} {e : va_E} (h : ∀ s x, ow_ x s = (2, i) → G' s x = G s x) (hc : ce_ cI cy ad n G i e 2) : ce_ cI cy ad n G' i e 2 := by
  have hc : e = _ := hc
  show e = _
  rw [hc, h 6 i rfl, h 7 i rfl, h 8 i rfl, h 9 i rfl, h 10 i rfl, h 11 i rfl]
theorem cg_3 {cI : ClassId} {cy : Nat → ClassId} {ad : Nat → Nat → Nat} {n : Nat → Nat} {G G' : Nat → Nat → Int32} {i : Nat} {e : va_E} (h : ∀ s x, ow_ x s = (3, i) → G' s x = G s x) (hc : ce_ cI cy ad n G i e 3) : ce_ cI cy ad n G' i e 3 := by
  have hc : e = _ := hc
  show e = _
  rw [hc, h 14 i rfl, h 15 i rfl, h 16 i rfl, h 19 i rfl, h 21 i rfl, h 17 i rfl, h 20 i rfl, h 18 i rfl, h 24 i rfl]
theorem cg_4 {cI : ClassId} {cy : Nat → ClassId} {ad : Nat → Nat → Nat} {n : Nat → Nat} {G G' : Nat → Nat → Int32} {i : Nat} {e : va_E} (h : ∀ s x, ow_ x s = (4, i) → G' s x = G s x) (hc : ce_ cI cy ad n G i e 4) : ce_ cI cy ad n G' i e 4 := by
  have hc : e = lq_ ad G i := hc
  show e = lq_ ad G' i
  unfold lq_ at hc ⊢
  rw [hc, h 26 i rfl, h 40 i rfl, h 27 i rfl, h 41 i rfl, h 42 i rfl, h 29 i rfl, h 30 i rfl]
theorem cg_8 {cI : ClassId} {cy : Nat → ClassId} {ad : Nat → Nat → Nat} {n : Nat → Nat} {G G' : Nat → Nat → Int32} {i : Nat} {e : va_E} (h : ∀ s x, ow_ x s = (8, i) → G' s x = G s x) (hc : ce_ cI cy ad n G i e 8) : ce_ cI cy ad n G' i e 8 := by
  obtain ⟨g, he, hg⟩ := hc
  exact ⟨g, he, fun w hw => by rw [h 32 (8 * i + w) (show (8, (8 * i + w) / 8) = (8, i) by rw [show (8 * i + w) / 8 = i by omega])]; exact hg w hw⟩
theorem cg_21 {cI : ClassId} {cy : Nat → ClassId} {ad : Nat → Nat → Nat} {n : Nat → Nat} {G G' : Nat → Nat → Int32} {i : Nat} {e : va_E} (hc : ce_ cI cy ad n G i e 21) : ce_ cI cy ad n G' i e 21 := by
  have h2 : e = .inl (cy 8, 8, .inr (.inr (.inr (.inr (fun j => if j < n 1 then some (ad 1 j) else none))))) := hc
  exact h2
theorem cg_22 {cI : ClassId} {cy : Nat → ClassId} {ad : Nat → Nat → Nat} {n : Nat → Nat} {G G' : Nat → Nat → Int32} {i : Nat} {e : va_E} (hc : ce_ cI cy ad n G i e 22) : ce_ cI cy ad n G' i e 22 := by
  have h2 : e = .inl (cy 9, 12, .inr (.inr (.inr (.inr (fun j => if j < n 2 then some (ad 2 j) else none))))) := hc
  exact h2
theorem cg_23 {cI : ClassId} {cy : Nat → ClassId} {ad : Nat → Nat → Nat} {n : Nat → Nat} {G G' : Nat → Nat → Int32} {i : Nat} {e : va_E} (hc : ce_ cI cy ad n G i e 23) : ce_ cI cy ad n G' i e 23 := by
  have h2 : e = .inl (cy 10, 120, .inr (.inr (.inr (.inr (fun j => if j < n 3 then some (ad 3 j) else none))))) := hc
  exact h2
theorem cg_24 {cI : ClassId} {cy : Nat → ClassId} {ad : Nat → Nat → Nat} {n : Nat → Nat} {G G' : Nat → Nat → Int32} {i : Nat} {e : va_E} (hc : ce_ cI cy ad n G i e 24) : ce_ cI cy ad n G' i e 24 := by
  have h2 : e = .inl (cy 11, 300, .inr (.inr (.inr (.inr (fun j => if j < n 4 then some (ad 4 j) else none))))) := hc
  exact h2
theorem cg_25 {cI : ClassId} {cy : Nat → ClassId} {ad : Nat → Nat → Nat} {n : Nat → Nat} {G G' : Nat → Nat → Int32} {i : Nat} {e : va_E} (hc : ce_ cI cy ad n G i e 25) : ce_ cI cy ad n G' i e 25 := by
  have h2 : e = .inl (cy 12, 8, .inr (.inr (.inr (.inr (fun j => if j < 8 then some (ad 12 j) else none))))) := hc
  exact h2
theorem cg_26 {cI : ClassId} {cy : Nat → ClassId} {ad : Nat → Nat → Nat} {n : Nat → Nat} {G G' : Nat → Nat → Int32} {i : Nat} {e : va_E} (hc : ce_ cI cy ad n G i e 26) : ce_ cI cy ad n G' i e 26 := by
  have h2 : e = .inl (cy 13, 6, .inr (.inr (.inr (.inr (fun j => if j < 6 then some (ad 13 j) else none))))) := hc
  exact h2
theorem cg_27 {cI : ClassId} {cy : Nat → ClassId} {ad : Nat → Nat → Nat} {n : Nat → Nat} {G G' : Nat → Nat → Int32} {i : Nat} {e : va_E} (hc : ce_ cI cy ad n G i e 27) : ce_ cI cy ad n G' i e 27 := by
  have h2 : e = .inl (cy 14, 6, .inr (.inr (.inr (.inr (fun j => if j < 6 then some (ad 14 j) else none))))) := hc
  exact h2
theorem cg_1 {cI : ClassId} {cy : Nat → ClassId} {ad : Nat → Nat → Nat} {n : Nat → Nat} {G G' : Nat → Nat → Int32} {i : Nat} {e : va_E} (hc : ce_ cI cy ad n G i e 1) : ce_ cI cy ad n G' i e 1 := by
  have h2 : e = .inr (3, [.ref (ad 5 i), .ref (ad 6 i), .ref (ad 7 i), .ref (ad 8 i)]) := hc
  exact h2
theorem cg_r {cI : ClassId} {cy : Nat → ClassId} {ad : Nat → Nat → Nat} {n : Nat → Nat} {G G' : Nat → Nat → Int32} {i : Nat} {e : va_E} {k : Nat} (h1 : 21 ≤ k) (h2 : k ≤ 27) (hc : ce_ cI cy ad n G i e k) : ce_ cI cy ad n G' i e k := by
  rcases (show k = 21 ∨ k = 22 ∨ k = 23 ∨ k = 24 ∨ k = 25 ∨ k = 26 ∨ k = 27 by omega) with rfl | rfl | rfl | rfl | rfl | rfl | rfl
  · exact cg_21 hc
  · exact cg_22 hc
  · exact cg_23 hc
  · exact cg_24 hc
  · exact cg_25 hc
  · exact cg_26 hc
  · exact cg_27 hc
theorem cg_a {cI : ClassId} {cy : Nat → ClassId} {ad : Nat → Nat → Nat} {n : Nat → Nat} {G G' : Nat → Nat → Int32} {i : Nat} {e : va_E} {k : Nat} (hil : 0 < il_ k) (h6 : (k = 14 → i < 6) ∧ (k = 28 → i = 0)) (h : ∀ s x, ow_ x s = (k, i) → G' s x = G s x) (hc : ce_ cI cy ad n G i e k) : ce_ cI cy ad n G' i e k := by
  obtain ⟨g, he, hg⟩ := (ce_ar hil).mp hc
  exact (ce_ar hil).mpr ⟨g, he, fun w hw => (hg w hw).trans (h _ _ (ow_ar hil hw h6.1 h6.2)).symm⟩
theorem ce_cong' {cI : ClassId} {cy : Nat → ClassId} {ad : Nat → Nat → Nat} {n n' : Nat → Nat} {G G' : Nat → Nat → Int32} {i : Nat} {e : va_E} {k : Nat} (h : ∀ s x, ow_ x s = (k, i) → G' s x = G s x) (hl : lf_ n G i k) (hc : ce_ cI cy ad n' G i e k) : ce_ cI cy ad n' G' i e k := by
  rcases lf_cases hl with hil | rfl | rfl | rfl | rfl | rfl | ⟨h1, h2⟩
  · exact cg_a hil (lf_14 hl) h hc
  · exact cg_1 hc
  · exact cg_2 h hc
  · exact cg_3 h hc
  · exact cg_4 h hc
  · exact cg_8 h hc
  · exact cg_r h1 h2 hc
theorem ce_cong {cI : ClassId} {cy : Nat → ClassId} {ad : Nat → Nat → Nat} {n : Nat → Nat} {G G' : Nat → Nat → Int32} {i : Nat} {e : va_E} {k : Nat} (h : ∀ s x, ow_ x s = (k, i) → G' s x = G s x) (hl : lf_ n G i k) (hc : ce_ cI cy ad n G i e k) : ce_ cI cy ad n G' i e k := ce_cong' h hl hc
theorem lf_cong {n : Nat → Nat} {G G' : Nat → Nat → Int32} (h : G' 26 = G 26) {i : Nat} : ∀ {k : Nat}, lf_ n G' i k → lf_ n G i k
  | 0, hl => hl
  | 1, hl => hl
  | 2, hl => hl
  | 3, hl => hl
  | 4, hl => hl
  | 5, hl => hl
  | 6, hl => hl
  | 7, hl => hl
  | 8, hl => hl
  | 9, hl => hl
  | 10, hl => hl
  | 11, hl => ⟨hl.1, by rw [← h]; exact hl.2.1, by rw [← h]; exact hl.2.2⟩
  | 12, hl => hl
  | 13, hl => hl
  | 14, hl => hl
  | 15, hl => hl
  | 16, hl => hl
  | 17, hl => hl
  | 18, hl => hl
  | 19, hl => hl
  | 20, hl => hl
  | 21, hl => hl
  | 22, hl => hl
  | 23, hl => hl
  | 24, hl => hl
  | 25, hl => hl
  | 26, hl => hl
  | 27, hl => hl
  | 28, hl => hl
  | _ + 29, hl => hl
theorem ly_put {cI : ClassId} {cy : Nat → ClassId} {q : Nat → Nat} {ad : Nat → Nat → Nat} {rl : Nat → Nat × Nat} {L : List Nat} {n : Nat → Nat} {G : Nat → Nat → Int32} {f : Nat → va_E} (hL : ly_ cI cy q ad rl L n G f) {k i s x : Nat} {v : Int32} {e : va_E} (hk : lf_ n G i k) (ho : ow_ x s = (k, i)) (h26 : ¬ 26 = s) (h32 : ¬ 32 = s) (he : ce_ cI cy ad n (up2 G s x v) i e k) : ly_ cI cy q ad rl L n (up2 G s x v) (va_up f (ad k i) e) := by
  obtain ⟨h1, h2, h3⟩ := hL
  have e26 : up2 G s x v 26 = G 26 := up2_ns G x v h26
  have e32 : up2 G s x v 32 = G 32 := up2_ns G x v h32
  refine ⟨fun k' i' hl => ?_, h2, fun i' w hi hw => by rw [e32, e26]; exact h3 i' w hi hw⟩
  have hl' := lf_cong e26 hl
  obtain ⟨a1, a2, a3⟩ := h1 k' i' hl'
  refine ⟨a1, a2, ?_⟩
  by_cases hkk : (k', i') = (k, i)
  · obtain ⟨rfl, rfl⟩ := Prod.mk.inj hkk
    rw [va_up_self]
    exact he
  · have hne : ad k' i' ≠ ad k i := fun z => hkk (by rw [← a2, z, (h1 k i hk).2.1])
    rw [va_up_ne _ _ hne]
    refine ce_cong (fun s' x' ho' => up2_or G v (fun z => hkk ?_)) hl' a3
    rw [← ho', z.1, z.2, ho]
theorem is_n26 : ∀ k : Nat, ¬ 26 = is_ k := fun k => by unfold is_; split <;> decide
theorem is_n32 : ∀ k : Nat, ¬ 32 = is_ k := fun k => by unfold is_; split <;> decide
theorem sp_live {x : Int32} {k : Nat} (h : ¬ sp_in x 0 ((nI k) - 1) = 0) (hk : k < 2147483648) : x.toNatClampNeg < k := by
  obtain ⟨h1, h2⟩ := sp_in_1 h
  rw [sp_le, show (0 : Int32).toInt = 0 from rfl] at h1
  cases k with
  | zero =>
    exfalso
    rw [show (nI 0 - 1 : Int32) = -1 from by decide, sp_le, show (-1 : Int32).toInt = -1 from rfl] at h2
    omega
  | succ k =>
    rw [nI_pred, sp_le, nI_toInt (by omega)] at h2
    obtain ⟨j, hj, rfl⟩ := nI_of (x := x) (fun z => by rw [sp_lt, show (0 : Int32).toInt = 0 from rfl] at z; omega)
    rw [nI_toInt (by omega)] at h2
    rw [nI_clamp (by omega)]
    omega
theorem ix_inj {i a b : Nat} : ∀ {k : Nat}, 0 < il_ k → a < il_ k → b < il_ k → ix_ i a k = ix_ i b k → a = b
  | 0, h, _, _, e => absurd h (by decide)
  | 1, h, _, _, e => absurd h (by decide)
  | 2, h, _, _, e => absurd h (by decide)
  | 3, h, _, _, e => absurd h (by decide)
  | 4, h, _, _, e => absurd h (by decide)
  | 5, h, _, _, e => by have e : 6 * i + a = 6 * i + b := e; omega
  | 6, h, _, _, e => by have e : 6 * i + a = 6 * i + b := e; omega
  | 7, h, _, _, e => by have e : 12 * i + a = 12 * i + b := e; omega
  | 8, h, _, _, e => absurd h (by decide)
  | 9, h, _, _, e => by have e : 6 * i + a = 6 * i + b := e; omega
  | 10, h, _, _, e => by have e : 6 * i + a = 6 * i + b := e; omega
  | 11, h, _, _, e => by have e : 6 * i + a = 6 * i + b := e; omega
  | 12, h, _, _, e => by have e : 8 * i + a = 8 * i + b := e; omega
  | 13, h, _, _, e => by have e : 21 * i + a = 21 * i + b := e; omega
  | 14, h, _, _, e => by have e : 6 * a + i = 6 * b + i := e; omega
  | 15, h, _, _, e => absurd h (by decide)
  | 16, h, _, _, e => absurd h (by decide)
  | 17, h, _, _, e => absurd h (by decide)
  | 18, h, _, _, e => absurd h (by decide)
  | 19, h, _, _, e => absurd h (by decide)
  | 20, h, _, _, e => absurd h (by decide)
  | 21, h, _, _, e => absurd h (by decide)
  | 22, h, _, _, e => absurd h (by decide)
  | 23, h, _, _, e => absurd h (by decide)
  | 24, h, _, _, e => absurd h (by decide)
  | 25, h, _, _, e => absurd h (by decide)
  | 26, h, _, _, e => absurd h (by decide)
  | 27, h, _, _, e => absurd h (by decide)
  | 28, h, _, _, e => by have e : a = b := e; omega
  | _ + 29, h, _, _, _ => absurd h (Nat.lt_irrefl 0)
section CX
variable {p : Program} {l : Launch} {e : Env} {R : Room} {s : State} {m : MethodId} {args : Array Value} {below : List Frame} {meth : Method} {c : Code} {H : Heap} {locs : List Loc} {cells slots : Nat} {Q : State → Prop}
variable {cc : ByteArray} {pc : Nat} {ls : Array Slot} {rest : List Value} {D : va_G} {A : Nat → Prop} {H0 : Heap} {cI : ClassId} {cy : Nat → ClassId} {h0 : Nat} {q : Nat → Nat} {ad : Nat → Nat → Nat} {rl : Nat → Nat × Nat} {L : List Nat} {n : Nat → Nat} {G : Nat → Nat → Int32} {Ts : List Cond} {own : String} {index : Nat}
/-- a field of the object itself -/
theorem cx_get (hexec : p.tables.exec = Jvm.exec) (hb : c.code = cc) (hts : ∀ w ∈ Ts, w.before args s = true) (hin : ∀ w ∈ u_ws RX7 TX7 14, w ∈ Ts) (hown : s.vm.findClass own = some m.cls) (hK : va_K D vwCl (tt_ cI cy) s) (hC : cp_ D cI cy h0 q A ad rl L n G H) (k : Nat) (hk : k < 14) {v : Value} (hv : (ho_ q n (G 44 0))[k]? = some v) (hlink : (Cond.fieldLink own index (TX7 k).1 (TX7 k).2.1 (TX7 k).2.2.1).before args s = true) (hdg : decode cc pc = .ok (.getfield index, 3))
    (kk : W p l e R s m args below meth c H locs cells slots Q (F0 m (pc + 3) ls (v :: rest))) : W p l e R s m args below meth c H locs cells slots Q (F0 m pc ls (.ref h0 :: rest)) := by
  obtain ⟨f, hP, -, -⟩ := hC
  exact va_get (D := D) (ci := 6) (C := RX7) (T := TX7) (N := 14) hexec hb hts hin hown hK hP 0 rfl rfl k hk hlink (fun _ h9 => h9) hv hdg kk
/-- an int of an array of a role -/
theorem ci_ald (k i : Nat) (hexec : p.tables.exec = Jvm.exec) (hb : c.code = cc) (hK : va_K D vwCl (tt_ cI cy) s) (hC : cp_ D cI cy h0 q A ad rl L n G H) (hl : lf_ n G i k) (hil : 0 < il_ k) {w : Int32} (hw : vp_in w (il_ k)) (hdg : decode cc pc = .ok (.iaload, 1))
    (kk : W p l e R s m args below meth c H locs cells slots Q (F0 m (pc + 1) ls (.int (G (is_ k) (ix_ i w.toNatClampNeg k)) :: rest))) : W p l e R s m args below meth c H locs cells slots Q (F0 m pc ls (.int w :: .ref (ad k i) :: rest)) := by
  obtain ⟨f, hP, -, hL⟩ := hC
  obtain ⟨hm, -, hc⟩ := hL.1 k i hl
  obtain ⟨g, he, hg⟩ := (ce_ar hil).mp hc
  obtain ⟨p0, hp⟩ := va_pl_get (X := xo_ h0 q n (G 44 0)) (f := f) hm
  rw [he] at hp
  refine va_iald hexec hb hK hP p0 0 hp rfl hw hdg ?_
  rw [hg _ (vp_lt hw)]
  exact kk
/-- an int of an array of a role set -/
theorem ci_ast (k i : Nat) (hexec : p.tables.exec = Jvm.exec) (hb : c.code = cc) (hK : va_K D vwCl (tt_ cI cy) s) (hC : cp_ D cI cy h0 q A ad rl L n G H) (hS : va_S A H0 H locs) (hl : lf_ n G i k) (hil : 0 < il_ k) {w x : Int32} (hw : vp_in w (il_ k)) (hdg : decode cc pc = .ok (.iastore, 1))
    (kk : ∀ (H1 : Heap) (locs1 : List Loc), cp_ D cI cy h0 q A ad rl L n (up2 G (is_ k) (ix_ i w.toNatClampNeg k) x) H1 → va_S A H0 H1 locs1 → W p l e R s m args below meth c H1 locs1 cells slots Q (F0 m (pc + 1) ls rest)) : W p l e R s m args below meth c H locs cells slots Q (F0 m pc ls (.int x :: .int w :: .ref (ad k i) :: rest)) := by
  obtain ⟨f, hP, hD, hL⟩ := hC
  obtain ⟨hm, -, hc⟩ := hL.1 k i hl
  obtain ⟨g, he, hg⟩ := (ce_ar hil).mp hc
  obtain ⟨p0, hp⟩ := va_pl_get (X := xo_ h0 q n (G 44 0)) (f := f) hm
  have hp' := hp
  rw [he] at hp'
  refine va_iast hexec hb hK hP hD hS p0 0 hp' rfl hw hdg (fun H1 locs1 hP2 hD2 hS2 => ?_)
  rw [va_pl_set hD hm hp] at hP2 hD2
  have e44 : up2 G (is_ k) (ix_ i w.toNatClampNeg k) x 44 = G 44 := up2_ns G _ x (by have := is_lt k; omega)
  have how : ow_ (ix_ i w.toNatClampNeg k) (is_ k) = (k, i) := ow_ar hil (vp_lt hw) (lf_14 hl).1 (lf_14 hl).2
  refine kk H1 locs1 ⟨_, by rw [e44]; exact hP2, by rw [e44]; exact hD2, ly_put hL hl how (is_n26 k) (is_n32 k) ((ce_ar hil).mpr ⟨_, rfl, fun w2 hw2 => ?_⟩)⟩ hS2
  by_cases ew : w2 = w.toNatClampNeg
  · rw [ew, pk_us, up2_eq]
  · rw [pk_un ew, hg w2 hw2]
    refine (up2_or G x (fun z => ew ?_)).symm
    exact ix_inj hil hw2 (vp_lt hw) z.2
/-- a field of an object of a role -/
theorem co_get (k i : Nat) {C : String} {T : u_T} {N ci : Nat} {fs : List Value} {ref : String} (hexec : p.tables.exec = Jvm.exec) (hb : c.code = cc) (hts : ∀ w ∈ Ts, w.before args s = true) (hin : ∀ w ∈ u_ws C T N, w ∈ Ts) (hown : s.vm.findClass own = some m.cls) (hK : va_K D vwCl (tt_ cI cy) s) (hC : cp_ D cI cy h0 q A ad rl L n G H) (hl : lf_ n G i k) (hce : ∀ e, ce_ cI cy ad n G i e k → e = .inr (ci, fs)) (hcl : vwCl[ci]? = some (C, T, N)) (j : Nat) (hj : j < N) (hlink : (Cond.fieldLink own index ref (T j).2.1 (T j).2.2.1).before args s = true) (hsame : ∀ x, s.fieldFound? (T j).1 (T j).2.1 (T j).2.2.1 = some x → s.fieldFound? ref (T j).2.1 (T j).2.2.1 = some x) {v : Value} (hv : fs[j]? = some v) (hdg : decode cc pc = .ok (.getfield index, 3))
    (kk : W p l e R s m args below meth c H locs cells slots Q (F0 m (pc + 3) ls (v :: rest))) : W p l e R s m args below meth c H locs cells slots Q (F0 m pc ls (.ref (ad k i) :: rest)) := by
  obtain ⟨f, hP, -, hL⟩ := hC
  obtain ⟨hm, -, hc⟩ := hL.1 k i hl
  obtain ⟨p0, hp⟩ := va_pl_get (X := xo_ h0 q n (G 44 0)) (f := f) hm
  rw [hce _ hc] at hp
  exact va_get (D := D) (ci := ci) (C := C) (T := T) (N := N) hexec hb hts hin hown hK hP p0 hp hcl j hj hlink hsame hv hdg kk
/-- an int field of an object of a role set: the place (sl, i) of the state -/
theorem co_put (k i sl : Nat) {C : String} {T : u_T} {N ci : Nat} {fs : List Value} {ref : String} {ty0 : Nat → FieldType} (hexec : p.tables.exec = Jvm.exec) (hb : c.code = cc) (hts : ∀ w ∈ Ts, w.before args s = true) (hin : ∀ w ∈ u_ws C T N, w ∈ Ts) (hty : ∀ k, k < N → parseFieldDescriptor (T k).2.2.1 = some (ty0 k)) (hnm : ∀ a, a < N → ∀ b, b < N → a ≠ b → (T a).2.1 ≠ (T b).2.1) (hown : s.vm.findClass own = some m.cls) (hK : va_K D vwCl (tt_ cI cy) s) (hC : cp_ D cI cy h0 q A ad rl L n G H) (hS : va_S A H0 H locs) (hl : lf_ n G i k) (hce : ∀ e, ce_ cI cy ad n G i e k → e = .inr (ci, fs)) (hcl : vwCl[ci]? = some (C, T, N)) (j : Nat) (hj : j < N) (hlink : (Cond.fieldLink own index ref (T j).2.1 (T j).2.2.1).before args s = true) (hsame : ∀ x, s.fieldFound? (T j).1 (T j).2.1 (T j).2.2.1 = some x → s.fieldFound? ref (T j).2.1 (T j).2.2.1 = some x) (hfin : (T j).2.2.2 = false) {ty : FieldType} {v : Int32} (hd : parseFieldDescriptor (T j).2.2.1 = some ty) (hn : narrow ty (.int v) = .int v) (hfit : fits ty (.int v) = true) (hfl : j < fs.length) (hsl : ¬ 26 = sl ∧ ¬ 32 = sl ∧ ¬ 44 = sl) (how : ow_ i sl = (k, i)) (hce2 : ce_ cI cy ad n (up2 G sl i v) i (.inr (ci, fs.set j (.int v))) k) (hdg : decode cc pc = .ok (.putfield index, 3))
    (kk : ∀ (H1 : Heap) (locs1 : List Loc), cp_ D cI cy h0 q A ad rl L n (up2 G sl i v) H1 → va_S A H0 H1 locs1 → W p l e R s m args below meth c H1 locs1 cells slots Q (F0 m (pc + 3) ls rest)) : W p l e R s m args below meth c H locs cells slots Q (F0 m pc ls (.int v :: .ref (ad k i) :: rest)) := by
  obtain ⟨f, hP, hD, hL⟩ := hC
  obtain ⟨hm, -, hc⟩ := hL.1 k i hl
  obtain ⟨p0, hp⟩ := va_pl_get (X := xo_ h0 q n (G 44 0)) (f := f) hm
  have hp' := hp
  rw [hce _ hc] at hp'
  refine va_put (D := D) (ci := ci) (C := C) (T := T) (N := N) hexec hb hts hin ty0 hty hnm hown hK hP hD hS p0 hp' hcl j hj hlink hsame hfin hd hn hfit hfl hdg (fun H1 locs1 hP2 hD2 hS2 => ?_)
  rw [va_pl_set hD hm hp] at hP2 hD2
  have e44 : up2 G sl i v 44 = G 44 := up2_ns G i v hsl.2.2
  exact kk H1 locs1 ⟨_, by rw [e44]; exact hP2, by rw [e44]; exact hD2, ly_put hL hl how hsl.1 hsl.2.1 hce2⟩ hS2
theorem cr_ald25 (hexec : p.tables.exec = Jvm.exec) (hb : c.code = cc) (hK : va_K D vwCl (tt_ cI cy) s) (hC : cp_ D cI cy h0 q A ad rl L n G H) {w : Int32} (hw : vp_in w 8) (hdg : decode cc pc = .ok (.aaload, 1))
    (kk : W p l e R s m args below meth c H locs cells slots Q (F0 m (pc + 1) ls (.ref (ad 12 w.toNatClampNeg) :: rest))) : W p l e R s m args below meth c H locs cells slots Q (F0 m pc ls (.int w :: .ref (q 5) :: rest)) := by
  obtain ⟨f, hP, -, hL⟩ := hC
  obtain ⟨hm, -, hc⟩ := hL.1 25 0 rfl
  have hq : q 5 = ad 25 0 := hL.2.1 5 (by decide) (by decide)
  obtain ⟨p0, hp⟩ := va_pl_get (X := xo_ h0 q n (G 44 0)) (f := f) hm
  rw [show f (ad 25 0) = _ from hc] at hp
  rw [hq]
  exact va_ald2 hexec hb hK hP p0 6 hp rfl (i := w) hw (b := ad 12 w.toNatClampNeg) (if_pos (vp_lt hw)) hdg kk
theorem cr_ald26 (hexec : p.tables.exec = Jvm.exec) (hb : c.code = cc) (hK : va_K D vwCl (tt_ cI cy) s) (hC : cp_ D cI cy h0 q A ad rl L n G H) {w : Int32} (hw : vp_in w 6) (hdg : decode cc pc = .ok (.aaload, 1))
    (kk : W p l e R s m args below meth c H locs cells slots Q (F0 m (pc + 1) ls (.ref (ad 13 w.toNatClampNeg) :: rest))) : W p l e R s m args below meth c H locs cells slots Q (F0 m pc ls (.int w :: .ref (q 6) :: rest)) := by
  obtain ⟨f, hP, -, hL⟩ := hC
  obtain ⟨hm, -, hc⟩ := hL.1 26 0 rfl
  have hq : q 6 = ad 26 0 := hL.2.1 6 (by decide) (by decide)
  obtain ⟨p0, hp⟩ := va_pl_get (X := xo_ h0 q n (G 44 0)) (f := f) hm
  rw [show f (ad 26 0) = _ from hc] at hp
  rw [hq]
  exact va_ald2 hexec hb hK hP p0 7 hp rfl (i := w) hw (b := ad 13 w.toNatClampNeg) (if_pos (vp_lt hw)) hdg kk
theorem cr_ald27 (hexec : p.tables.exec = Jvm.exec) (hb : c.code = cc) (hK : va_K D vwCl (tt_ cI cy) s) (hC : cp_ D cI cy h0 q A ad rl L n G H) {w : Int32} (hw : vp_in w 6) (hdg : decode cc pc = .ok (.aaload, 1))
    (kk : W p l e R s m args below meth c H locs cells slots Q (F0 m (pc + 1) ls (.ref (ad 14 w.toNatClampNeg) :: rest))) : W p l e R s m args below meth c H locs cells slots Q (F0 m pc ls (.int w :: .ref (q 7) :: rest)) := by
  obtain ⟨f, hP, -, hL⟩ := hC
  obtain ⟨hm, -, hc⟩ := hL.1 27 0 rfl
  have hq : q 7 = ad 27 0 := hL.2.1 7 (by decide) (by decide)
  obtain ⟨p0, hp⟩ := va_pl_get (X := xo_ h0 q n (G 44 0)) (f := f) hm
  rw [show f (ad 27 0) = _ from hc] at hp
  rw [hq]
  exact va_ald2 hexec hb hK hP p0 8 hp rfl (i := w) hw (b := ad 14 w.toNatClampNeg) (if_pos (vp_lt hw)) hdg kk
theorem ca_ald21 (hexec : p.tables.exec = Jvm.exec) (hb : c.code = cc) (hK : va_K D vwCl (tt_ cI cy) s) (hC : cp_ D cI cy h0 q A ad rl L n G H) {w : Int32} (hw : vp_in w 8) (hdg : decode cc pc = .ok (.aaload, 1))
    (kk : W p l e R s m args below meth c H locs cells slots Q (F0 m (pc + 1) ls (va_rf (if w.toNatClampNeg < n 1 then some (ad 1 w.toNatClampNeg) else none) :: rest))) : W p l e R s m args below meth c H locs cells slots Q (F0 m pc ls (.int w :: .ref (q 1) :: rest)) := by
  obtain ⟨f, hP, -, hL⟩ := hC
  obtain ⟨hm, -, hc⟩ := hL.1 21 0 rfl
  have hq : q 1 = ad 21 0 := hL.2.1 1 (by decide) (by decide)
  obtain ⟨p0, hp⟩ := va_pl_get (X := xo_ h0 q n (G 44 0)) (f := f) hm
  rw [show f (ad 21 0) = _ from hc] at hp
  rw [hq]
  exact va_aldq hexec hb hK hP p0 2 hp rfl (i := w) hw hdg kk
theorem ca_ald22 (hexec : p.tables.exec = Jvm.exec) (hb : c.code = cc) (hK : va_K D vwCl (tt_ cI cy) s) (hC : cp_ D cI cy h0 q A ad rl L n G H) {w : Int32} (hw : vp_in w 12) (hdg : decode cc pc = .ok (.aaload, 1))
    (kk : W p l e R s m args below meth c H locs cells slots Q (F0 m (pc + 1) ls (va_rf (if w.toNatClampNeg < n 2 then some (ad 2 w.toNatClampNeg) else none) :: rest))) : W p l e R s m args below meth c H locs cells slots Q (F0 m pc ls (.int w :: .ref (q 2) :: rest)) := by
  obtain ⟨f, hP, -, hL⟩ := hC
  obtain ⟨hm, -, hc⟩ := hL.1 22 0 rfl
  have hq : q 2 = ad 22 0 := hL.2.1 2 (by decide) (by decide)
  obtain ⟨p0, hp⟩ := va_pl_get (X := xo_ h0 q n (G 44 0)) (f := f) hm
  rw [show f (ad 22 0) = _ from hc] at hp
  rw [hq]
  exact va_aldq hexec hb hK hP p0 3 hp rfl (i := w) hw hdg kk
theorem ca_ald23 (hexec : p.tables.exec = Jvm.exec) (hb : c.code = cc) (hK : va_K D vwCl (tt_ cI cy) s) (hC : cp_ D cI cy h0 q A ad rl L n G H) {w : Int32} (hw : vp_in w 120) (hdg : decode cc pc = .ok (.aaload, 1))
    (kk : W p l e R s m args below meth c H locs cells slots Q (F0 m (pc + 1) ls (va_rf (if w.toNatClampNeg < n 3 then some (ad 3 w.toNatClampNeg) else none) :: rest))) : W p l e R s m args below meth c H locs cells slots Q (F0 m pc ls (.int w :: .ref (q 3) :: rest)) := by
  obtain ⟨f, hP, -, hL⟩ := hC
  obtain ⟨hm, -, hc⟩ := hL.1 23 0 rfl
  have hq : q 3 = ad 23 0 := hL.2.1 3 (by decide) (by decide)
  obtain ⟨p0, hp⟩ := va_pl_get (X := xo_ h0 q n (G 44 0)) (f := f) hm
  rw [show f (ad 23 0) = _ from hc] at hp
  rw [hq]
  exact va_aldq hexec hb hK hP p0 4 hp rfl (i := w) hw hdg kk
theorem ca_ald24 (hexec : p.tables.exec = Jvm.exec) (hb : c.code = cc) (hK : va_K D vwCl (tt_ cI cy) s) (hC : cp_ D cI cy h0 q A ad rl L n G H) {w : Int32} (hw : vp_in w 300) (hdg : decode cc pc = .ok (.aaload, 1))
    (kk : W p l e R s m args below meth c H locs cells slots Q (F0 m (pc + 1) ls (va_rf (if w.toNatClampNeg < n 4 then some (ad 4 w.toNatClampNeg) else none) :: rest))) : W p l e R s m args below meth c H locs cells slots Q (F0 m pc ls (.int w :: .ref (q 4) :: rest)) := by
  obtain ⟨f, hP, -, hL⟩ := hC
  obtain ⟨hm, -, hc⟩ := hL.1 24 0 rfl
  have hq : q 4 = ad 24 0 := hL.2.1 4 (by decide) (by decide)
  obtain ⟨p0, hp⟩ := va_pl_get (X := xo_ h0 q n (G 44 0)) (f := f) hm
  rw [show f (ad 24 0) = _ from hc] at hp
  rw [hq]
  exact va_aldq hexec hb hK hP p0 5 hp rfl (i := w) hw hdg kk
theorem cr_rep (i : Nat) (hexec : p.tables.exec = Jvm.exec) (hb : c.code = cc) (hK : va_K D vwCl (tt_ cI cy) s) (hC : cp_ D cI cy h0 q A ad rl L n G H) (hl : i < n 1) {w : Int32} (hw : vp_in w 8) (hdg : decode cc pc = .ok (.aaload, 1))
    (kk : W p l e R s m args below meth c H locs cells slots Q (F0 m (pc + 1) ls (va_rf (ro_ ad (G 32 (8 * i + w.toNatClampNeg))) :: rest))) : W p l e R s m args below meth c H locs cells slots Q (F0 m pc ls (.int w :: .ref (ad 8 i) :: rest)) := by
  obtain ⟨f, hP, -, hL⟩ := hC
  obtain ⟨hm, -, hc⟩ := hL.1 8 i hl
  obtain ⟨g, he, hg⟩ := hc
  obtain ⟨p0, hp⟩ := va_pl_get (X := xo_ h0 q n (G 44 0)) (f := f) hm
  rw [he] at hp
  refine va_aldq hexec hb hK hP p0 1 hp rfl (i := w) hw hdg ?_
  rw [hg _ (vp_lt hw)]
  exact kk
end CX
theorem lq_0 {ad : Nat → Nat → Nat} {G : Nat → Nat → Int32} {i : Nat} (h : G 26 i = 0) : lq_ ad G i = .inr (2, [.int (G 40 i), .int (G 27 i), .int (G 41 i), .int (G 42 i), .int (G 29 i), .int (G 30 i)]) := if_pos h
theorem lq_1 {ad : Nat → Nat → Nat} {G : Nat → Nat → Int32} {i : Nat} (h : G 26 i = 1) : lq_ ad G i = .inr (1, [.int (G 40 i), .int (G 27 i), .int (G 41 i), .int (G 42 i), .int (G 29 i), .int (G 30 i)]) := (if_neg (by rw [h]; decide)).trans (if_pos h)
theorem lq_2 {ad : Nat → Nat → Nat} {G : Nat → Nat → Int32} {i : Nat} (h0 : ¬ G 26 i = 0) (h1 : ¬ G 26 i = 1) : lq_ ad G i = .inr (4, [.int (G 40 i), .int (G 27 i), .int (G 41 i), .int (G 42 i), .int (G 30 i), .ref (ad 11 i)]) := (if_neg h0).trans (if_neg h1)
section CL
variable {p : Program} {l : Launch} {e : Env} {R : Room} {s : State} {m : MethodId} {args : Array Value} {below : List Frame} {meth : Method} {c : Code} {H : Heap} {locs : List Loc} {cells slots : Nat} {Q : State → Prop}
variable {cc : ByteArray} {pc : Nat} {ls : Array Slot} {rest : List Value} {D : va_G} {A : Nat → Prop} {H0 : Heap} {cI : ClassId} {cy : Nat → ClassId} {h0 : Nat} {q : Nat → Nat} {ad : Nat → Nat → Nat} {rl : Nat → Nat × Nat} {L : List Nat} {n : Nat → Nat} {G : Nat → Nat → Int32} {Ts : List Cond} {own : String} {index : Nat}
theorem cl_get0 (i : Nat) (hexec : p.tables.exec = Jvm.exec) (hb : c.code = cc) (hts : ∀ w ∈ Ts, w.before args s = true) (h1 : ∀ w ∈ u_ws RX1 TX1 6, w ∈ Ts) (h3 : ∀ w ∈ u_ws RX3 TX3 6, w ∈ Ts) (h5 : ∀ w ∈ u_ws RX5 TX5 6, w ∈ Ts) (hown : s.vm.findClass own = some m.cls) (hK : va_K D vwCl (tt_ cI cy) s) (hC : cp_ D cI cy h0 q A ad rl L n G H) (hl : i < n 4)
    (hlink : (Cond.fieldLink own index "FurPosts$Letter" (TX3 0).2.1 (TX3 0).2.2.1).before args s = true) (hdg : decode cc pc = .ok (.getfield index, 3)) (kk : W p l e R s m args below meth c H locs cells slots Q (F0 m (pc + 3) ls (.int (G 40 i) :: rest))) : W p l e R s m args below meth c H locs cells slots Q (F0 m pc ls (.ref (ad 4 i) :: rest)) := by
  by_cases k0 : G 26 i = 0
  · exact co_get 4 i (C := RX3) (T := TX3) (N := 6) (ci := 2) hexec hb hts h3 hown hK hC hl (fun e he => (show e = lq_ ad G i from he).trans (lq_0 k0)) rfl 0 (by decide) hlink (fun _ h9 => h9) rfl hdg kk
  by_cases k1 : G 26 i = 1
  · exact co_get 4 i (C := RX1) (T := TX1) (N := 6) (ci := 1) hexec hb hts h1 hown hK hC hl (fun e he => (show e = lq_ ad G i from he).trans (lq_1 k1)) rfl 0 (by decide) hlink (fun _ h9 => h9) rfl hdg kk
  · exact co_get 4 i (C := RX5) (T := TX5) (N := 6) (ci := 4) hexec hb hts h5 hown hK hC hl (fun e he => (show e = lq_ ad G i from he).trans (lq_2 k0 k1)) rfl 0 (by decide) hlink (fun _ h9 => h9) rfl hdg kk
theorem cl_get1 (i : Nat) (hexec : p.tables.exec = Jvm.exec) (hb : c.code = cc) (hts : ∀ w ∈ Ts, w.before args s = true) (h1 : ∀ w ∈ u_ws RX1 TX1 6, w ∈ Ts) (h3 : ∀ w ∈ u_ws RX3 TX3 6, w ∈ Ts) (h5 : ∀ w ∈ u_ws RX5 TX5 6, w ∈ Ts) (hown : s.vm.findClass own = some m.cls) (hK : va_K D vwCl (tt_ cI cy) s) (hC : cp_ D cI cy h0 q A ad rl L n G H) (hl : i < n 4)
    (hlink : (Cond.fieldLink own index "FurPosts$Letter" (TX3 1).2.1 (TX3 1).2.2.1).before args s = true) (hdg : decode cc pc = .ok (.getfield index, 3)) (kk : W p l e R s m args below meth c H locs cells slots Q (F0 m (pc + 3) ls (.int (G 27 i) :: rest))) : W p l e R s m args below meth c H locs cells slots Q (F0 m pc ls (.ref (ad 4 i) :: rest)) := by
  by_cases k0 : G 26 i = 0
  · exact co_get 4 i (C := RX3) (T := TX3) (N := 6) (ci := 2) hexec hb hts h3 hown hK hC hl (fun e he => (show e = lq_ ad G i from he).trans (lq_0 k0)) rfl 1 (by decide) hlink (fun _ h9 => h9) rfl hdg kk
  by_cases k1 : G 26 i = 1
  · exact co_get 4 i (C := RX1) (T := TX1) (N := 6) (ci := 1) hexec hb hts h1 hown hK hC hl (fun e he => (show e = lq_ ad G i from he).trans (lq_1 k1)) rfl 1 (by decide) hlink (fun _ h9 => h9) rfl hdg kk
  · exact co_get 4 i (C := RX5) (T := TX5) (N := 6) (ci := 4) hexec hb hts h5 hown hK hC hl (fun e he => (show e = lq_ ad G i from he).trans (lq_2 k0 k1)) rfl 1 (by decide) hlink (fun _ h9 => h9) rfl hdg kk
theorem cl_get2 (i : Nat) (hexec : p.tables.exec = Jvm.exec) (hb : c.code = cc) (hts : ∀ w ∈ Ts, w.before args s = true) (h1 : ∀ w ∈ u_ws RX1 TX1 6, w ∈ Ts) (h3 : ∀ w ∈ u_ws RX3 TX3 6, w ∈ Ts) (h5 : ∀ w ∈ u_ws RX5 TX5 6, w ∈ Ts) (hown : s.vm.findClass own = some m.cls) (hK : va_K D vwCl (tt_ cI cy) s) (hC : cp_ D cI cy h0 q A ad rl L n G H) (hl : i < n 4)
    (hlink : (Cond.fieldLink own index "FurPosts$Letter" (TX3 2).2.1 (TX3 2).2.2.1).before args s = true) (hdg : decode cc pc = .ok (.getfield index, 3)) (kk : W p l e R s m args below meth c H locs cells slots Q (F0 m (pc + 3) ls (.int (G 41 i) :: rest))) : W p l e R s m args below meth c H locs cells slots Q (F0 m pc ls (.ref (ad 4 i) :: rest)) := by
  by_cases k0 : G 26 i = 0
  · exact co_get 4 i (C := RX3) (T := TX3) (N := 6) (ci := 2) hexec hb hts h3 hown hK hC hl (fun e he => (show e = lq_ ad G i from he).trans (lq_0 k0)) rfl 2 (by decide) hlink (fun _ h9 => h9) rfl hdg kk
  by_cases k1 : G 26 i = 1
  · exact co_get 4 i (C := RX1) (T := TX1) (N := 6) (ci := 1) hexec hb hts h1 hown hK hC hl (fun e he => (show e = lq_ ad G i from he).trans (lq_1 k1)) rfl 2 (by decide) hlink (fun _ h9 => h9) rfl hdg kk
  · exact co_get 4 i (C := RX5) (T := TX5) (N := 6) (ci := 4) hexec hb hts h5 hown hK hC hl (fun e he => (show e = lq_ ad G i from he).trans (lq_2 k0 k1)) rfl 2 (by decide) hlink (fun _ h9 => h9) rfl hdg kk
theorem cl_get3 (i : Nat) (hexec : p.tables.exec = Jvm.exec) (hb : c.code = cc) (hts : ∀ w ∈ Ts, w.before args s = true) (h1 : ∀ w ∈ u_ws RX1 TX1 6, w ∈ Ts) (h3 : ∀ w ∈ u_ws RX3 TX3 6, w ∈ Ts) (h5 : ∀ w ∈ u_ws RX5 TX5 6, w ∈ Ts) (hown : s.vm.findClass own = some m.cls) (hK : va_K D vwCl (tt_ cI cy) s) (hC : cp_ D cI cy h0 q A ad rl L n G H) (hl : i < n 4)
    (hlink : (Cond.fieldLink own index "FurPosts$Letter" (TX3 3).2.1 (TX3 3).2.2.1).before args s = true) (hdg : decode cc pc = .ok (.getfield index, 3)) (kk : W p l e R s m args below meth c H locs cells slots Q (F0 m (pc + 3) ls (.int (G 42 i) :: rest))) : W p l e R s m args below meth c H locs cells slots Q (F0 m pc ls (.ref (ad 4 i) :: rest)) := by
  by_cases k0 : G 26 i = 0
  · exact co_get 4 i (C := RX3) (T := TX3) (N := 6) (ci := 2) hexec hb hts h3 hown hK hC hl (fun e he => (show e = lq_ ad G i from he).trans (lq_0 k0)) rfl 3 (by decide) hlink (fun _ h9 => h9) rfl hdg kk
  by_cases k1 : G 26 i = 1
  · exact co_get 4 i (C := RX1) (T := TX1) (N := 6) (ci := 1) hexec hb hts h1 hown hK hC hl (fun e he => (show e = lq_ ad G i from he).trans (lq_1 k1)) rfl 3 (by decide) hlink (fun _ h9 => h9) rfl hdg kk
  · exact co_get 4 i (C := RX5) (T := TX5) (N := 6) (ci := 4) hexec hb hts h5 hown hK hC hl (fun e he => (show e = lq_ ad G i from he).trans (lq_2 k0 k1)) rfl 3 (by decide) hlink (fun _ h9 => h9) rfl hdg kk
theorem cl_put2 (i : Nat) (hexec : p.tables.exec = Jvm.exec) (hb : c.code = cc) (hts : ∀ w ∈ Ts, w.before args s = true) (h1 : ∀ w ∈ u_ws RX1 TX1 6, w ∈ Ts) (h3 : ∀ w ∈ u_ws RX3 TX3 6, w ∈ Ts) (h5 : ∀ w ∈ u_ws RX5 TX5 6, w ∈ Ts) (hown : s.vm.findClass own = some m.cls) (hK : va_K D vwCl (tt_ cI cy) s) (hC : cp_ D cI cy h0 q A ad rl L n G H) (hS : va_S A H0 H locs) (hl : i < n 4) {v : Int32}
    (hlink : (Cond.fieldLink own index "FurPosts$Letter" (TX3 2).2.1 (TX3 2).2.2.1).before args s = true) (hdg : decode cc pc = .ok (.putfield index, 3)) (kk : ∀ (H1 : Heap) (locs1 : List Loc), cp_ D cI cy h0 q A ad rl L n (up2 G 41 i v) H1 → va_S A H0 H1 locs1 → W p l e R s m args below meth c H1 locs1 cells slots Q (F0 m (pc + 3) ls rest)) : W p l e R s m args below meth c H locs cells slots Q (F0 m pc ls (.int v :: .ref (ad 4 i) :: rest)) := by
  by_cases k0 : G 26 i = 0
  · exact co_put 4 i 41 (ty := .int) (C := RX3) (T := TX3) (N := 6) (ci := 2) hexec hb hts h3 tyX3_ok nmX3 hown hK hC hS hl (fun e he => (show e = lq_ ad G i from he).trans (lq_0 k0)) rfl 2 (by decide) hlink (fun _ h9 => h9) rfl (by decide +kernel) rfl rfl (Nat.le_of_ble_eq_true rfl) (by decide) rfl (by
      show _ = lq_ ad (up2 G 41 i v) i
      rw [lq_0 (show up2 G 41 i v 26 i = 0 from k0)]
      show (Sum.inr (2, [.int (G 40 i), .int (G 27 i), .int v, .int (G 42 i), .int (G 29 i), .int (G 30 i)]) : va_E) = Sum.inr (2, [.int (G 40 i), .int (G 27 i), .int (upd (G 41) i v i), .int (G 42 i), .int (G 29 i), .int (G 30 i)])
      rw [pk_us]) hdg kk
  by_cases k1 : G 26 i = 1
  · exact co_put 4 i 41 (ty := .int) (C := RX1) (T := TX1) (N := 6) (ci := 1) hexec hb hts h1 tyX1_ok nmX1 hown hK hC hS hl (fun e he => (show e = lq_ ad G i from he).trans (lq_1 k1)) rfl 2 (by decide) hlink (fun _ h9 => h9) rfl (by decide +kernel) rfl rfl (Nat.le_of_ble_eq_true rfl) (by decide) rfl (by
      show _ = lq_ ad (up2 G 41 i v) i
      rw [lq_1 (show up2 G 41 i v 26 i = 1 from k1)]
      show (Sum.inr (1, [.int (G 40 i), .int (G 27 i), .int v, .int (G 42 i), .int (G 29 i), .int (G 30 i)]) : va_E) = Sum.inr (1, [.int (G 40 i), .int (G 27 i), .int (upd (G 41) i v i), .int (G 42 i), .int (G 29 i), .int (G 30 i)])
      rw [pk_us]) hdg kk
  · exact co_put 4 i 41 (ty := .int) (C := RX5) (T := TX5) (N := 6) (ci := 4) hexec hb hts h5 tyX5_ok nmX5 hown hK hC hS hl (fun e he => (show e = lq_ ad G i from he).trans (lq_2 k0 k1)) rfl 2 (by decide) hlink (fun _ h9 => h9) rfl (by decide +kernel) rfl rfl (Nat.le_of_ble_eq_true rfl) (by decide) rfl (by
      show _ = lq_ ad (up2 G 41 i v) i
      rw [lq_2 (show ¬ up2 G 41 i v 26 i = 0 from k0) (show ¬ up2 G 41 i v 26 i = 1 from k1)]
      show (Sum.inr (4, [.int (G 40 i), .int (G 27 i), .int v, .int (G 42 i), .int (G 30 i), .ref (ad 11 i)]) : va_E) = Sum.inr (4, [.int (G 40 i), .int (G 27 i), .int (upd (G 41) i v i), .int (G 42 i), .int (G 30 i), .ref (ad 11 i)])
      rw [pk_us]) hdg kk
theorem cl_put3 (i : Nat) (hexec : p.tables.exec = Jvm.exec) (hb : c.code = cc) (hts : ∀ w ∈ Ts, w.before args s = true) (h1 : ∀ w ∈ u_ws RX1 TX1 6, w ∈ Ts) (h3 : ∀ w ∈ u_ws RX3 TX3 6, w ∈ Ts) (h5 : ∀ w ∈ u_ws RX5 TX5 6, w ∈ Ts) (hown : s.vm.findClass own = some m.cls) (hK : va_K D vwCl (tt_ cI cy) s) (hC : cp_ D cI cy h0 q A ad rl L n G H) (hS : va_S A H0 H locs) (hl : i < n 4) {v : Int32}
    (hlink : (Cond.fieldLink own index "FurPosts$Letter" (TX3 3).2.1 (TX3 3).2.2.1).before args s = true) (hdg : decode cc pc = .ok (.putfield index, 3)) (kk : ∀ (H1 : Heap) (locs1 : List Loc), cp_ D cI cy h0 q A ad rl L n (up2 G 42 i v) H1 → va_S A H0 H1 locs1 → W p l e R s m args below meth c H1 locs1 cells slots Q (F0 m (pc + 3) ls rest)) : W p l e R s m args below meth c H locs cells slots Q (F0 m pc ls (.int v :: .ref (ad 4 i) :: rest)) := by
  by_cases k0 : G 26 i = 0
  · exact co_put 4 i 42 (ty := .int) (C := RX3) (T := TX3) (N := 6) (ci := 2) hexec hb hts h3 tyX3_ok nmX3 hown hK hC hS hl (fun e he => (show e = lq_ ad G i from he).trans (lq_0 k0)) rfl 3 (by decide) hlink (fun _ h9 => h9) rfl (by decide +kernel) rfl rfl (Nat.le_of_ble_eq_true rfl) (by decide) rfl (by
      show _ = lq_ ad (up2 G 42 i v) i
      rw [lq_0 (show up2 G 42 i v 26 i = 0 from k0)]
      show (Sum.inr (2, [.int (G 40 i), .int (G 27 i), .int (G 41 i), .int v, .int (G 29 i), .int (G 30 i)]) : va_E) = Sum.inr (2, [.int (G 40 i), .int (G 27 i), .int (G 41 i), .int (upd (G 42) i v i), .int (G 29 i), .int (G 30 i)])
      rw [pk_us]) hdg kk
  by_cases k1 : G 26 i = 1
  · exact co_put 4 i 42 (ty := .int) (C := RX1) (T := TX1) (N := 6) (ci := 1) hexec hb hts h1 tyX1_ok nmX1 hown hK hC hS hl (fun e he => (show e = lq_ ad G i from he).trans (lq_1 k1)) rfl 3 (by decide) hlink (fun _ h9 => h9) rfl (by decide +kernel) rfl rfl (Nat.le_of_ble_eq_true rfl) (by decide) rfl (by
      show _ = lq_ ad (up2 G 42 i v) i
      rw [lq_1 (show up2 G 42 i v 26 i = 1 from k1)]
      show (Sum.inr (1, [.int (G 40 i), .int (G 27 i), .int (G 41 i), .int v, .int (G 29 i), .int (G 30 i)]) : va_E) = Sum.inr (1, [.int (G 40 i), .int (G 27 i), .int (G 41 i), .int (upd (G 42) i v i), .int (G 29 i), .int (G 30 i)])
      rw [pk_us]) hdg kk
  · exact co_put 4 i 42 (ty := .int) (C := RX5) (T := TX5) (N := 6) (ci := 4) hexec hb hts h5 tyX5_ok nmX5 hown hK hC hS hl (fun e he => (show e = lq_ ad G i from he).trans (lq_2 k0 k1)) rfl 3 (by decide) hlink (fun _ h9 => h9) rfl (by decide +kernel) rfl rfl (Nat.le_of_ble_eq_true rfl) (by decide) rfl (by
      show _ = lq_ ad (up2 G 42 i v) i
      rw [lq_2 (show ¬ up2 G 42 i v 26 i = 0 from k0) (show ¬ up2 G 42 i v 26 i = 1 from k1)]
      show (Sum.inr (4, [.int (G 40 i), .int (G 27 i), .int (G 41 i), .int v, .int (G 30 i), .ref (ad 11 i)]) : va_E) = Sum.inr (4, [.int (G 40 i), .int (G 27 i), .int (G 41 i), .int (upd (G 42) i v i), .int (G 30 i), .ref (ad 11 i)])
      rw [pk_us]) hdg kk
theorem cl_inst (i : Nat) (hexec : p.tables.exec = Jvm.exec) (hb : c.code = cc) (hown : s.vm.findClass own = some m.cls) (hlink : (Cond.classLink own index RX1).before args s = true) (hW0 : nw_ s) (hK : va_K D vwCl (tt_ cI cy) s) (hC : cp_ D cI cy h0 q A ad rl L n G H) (hl : i < n 4) (hdg : decode cc pc = .ok (.instanceof index, 3))
    (kk : W p l e R s m args below meth c H locs cells slots Q (F0 m (pc + 3) ls (.int (if G 26 i = 1 then 1 else 0) :: rest))) : W p l e R s m args below meth c H locs cells slots Q (F0 m pc ls (.ref (ad 4 i) :: rest)) := by
  obtain ⟨f, hP, -, hL⟩ := hC
  obtain ⟨hm, -, hc⟩ := hL.1 4 i hl
  have hc : f (ad 4 i) = lq_ ad G i := hc
  obtain ⟨p0, hp⟩ := va_pl_get (X := xo_ h0 q n (G 44 0)) (f := f) hm
  by_cases k0 : G 26 i = 0
  · rw [hc, lq_0 k0] at hp
    rw [if_neg (by rw [k0]; decide)] at kk
    exact va_instNo (C := RX3) hexec hb hown hlink (nw_n3 hW0) (va_recv hK hP (ci := 2) (q0 := p0) rfl hp) hdg kk
  by_cases k1 : G 26 i = 1
  · rw [hc, lq_1 k1] at hp
    rw [if_pos k1] at kk
    exact va_instS hexec hb hown hlink (hK.1 1 _ rfl).2 (va_recv hK hP (ci := 1) (q0 := p0) rfl hp) hdg kk
  · rw [hc, lq_2 k0 k1] at hp
    rw [if_neg k1] at kk
    exact va_instNo (C := RX5) hexec hb hown hlink (nw_n5 hW0) (va_recv hK hP (ci := 4) (q0 := p0) rfl hp) hdg kk
theorem cc_put21 (i : Nat) (hexec : p.tables.exec = Jvm.exec) (hb : c.code = cc) (hts : ∀ w ∈ Ts, w.before args s = true) (hin : ∀ w ∈ u_ws RX0 TX0 11, w ∈ Ts) (hown : s.vm.findClass own = some m.cls) (hK : va_K D vwCl (tt_ cI cy) s) (hC : cp_ D cI cy h0 q A ad rl L n G H) (hS : va_S A H0 H locs) (hl : i < n 3) {v : Int32}
    (hlink : (Cond.fieldLink own index (TX0 6).1 (TX0 6).2.1 (TX0 6).2.2.1).before args s = true) (hdg : decode cc pc = .ok (.putfield index, 3)) (kk : ∀ (H1 : Heap) (locs1 : List Loc), cp_ D cI cy h0 q A ad rl L n (up2 G 21 i v) H1 → va_S A H0 H1 locs1 → W p l e R s m args below meth c H1 locs1 cells slots Q (F0 m (pc + 3) ls rest)) : W p l e R s m args below meth c H locs cells slots Q (F0 m pc ls (.int v :: .ref (ad 3 i) :: rest)) := by
  exact co_put 3 i 21 (ty := .int) (C := RX0) (T := TX0) (N := 11) (ci := 0) hexec hb hts hin tyX0_ok nmX0 hown hK hC hS hl (fun e he => he) rfl 6 (by decide) hlink (fun _ h9 => h9) rfl (by decide +kernel) rfl rfl (Nat.le_of_ble_eq_true rfl) (by decide) rfl (by
    show (Sum.inr (0, [.int (G 14 i), .int (G 15 i), .int (G 16 i), .int (G 19 i), .ref (ad 9 i), .ref (ad 10 i), .int v, .int (G 17 i), .int (G 20 i), .int (G 18 i), .int (G 24 i)]) : va_E) = Sum.inr (0, [.int (G 14 i), .int (G 15 i), .int (G 16 i), .int (G 19 i), .ref (ad 9 i), .ref (ad 10 i), .int (upd (G 21) i v i), .int (G 17 i), .int (G 20 i), .int (G 18 i), .int (G 24 i)])
    rw [pk_us]) hdg kk
theorem cc_put17 (i : Nat) (hexec : p.tables.exec = Jvm.exec) (hb : c.code = cc) (hts : ∀ w ∈ Ts, w.before args s = true) (hin : ∀ w ∈ u_ws RX0 TX0 11, w ∈ Ts) (hown : s.vm.findClass own = some m.cls) (hK : va_K D vwCl (tt_ cI cy) s) (hC : cp_ D cI cy h0 q A ad rl L n G H) (hS : va_S A H0 H locs) (hl : i < n 3) {v : Int32}
    (hlink : (Cond.fieldLink own index (TX0 7).1 (TX0 7).2.1 (TX0 7).2.2.1).before args s = true) (hdg : decode cc pc = .ok (.putfield index, 3)) (kk : ∀ (H1 : Heap) (locs1 : List Loc), cp_ D cI cy h0 q A ad rl L n (up2 G 17 i v) H1 → va_S A H0 H1 locs1 → W p l e R s m args below meth c H1 locs1 cells slots Q (F0 m (pc + 3) ls rest)) : W p l e R s m args below meth c H locs cells slots Q (F0 m pc ls (.int v :: .ref (ad 3 i) :: rest)) := by
  exact co_put 3 i 17 (ty := .int) (C := RX0) (T := TX0) (N := 11) (ci := 0) hexec hb hts hin tyX0_ok nmX0 hown hK hC hS hl (fun e he => he) rfl 7 (by decide) hlink (fun _ h9 => h9) rfl (by decide +kernel) rfl rfl (Nat.le_of_ble_eq_true rfl) (by decide) rfl (by
    show (Sum.inr (0, [.int (G 14 i), .int (G 15 i), .int (G 16 i), .int (G 19 i), .ref (ad 9 i), .ref (ad 10 i), .int (G 21 i), .int v, .int (G 20 i), .int (G 18 i), .int (G 24 i)]) : va_E) = Sum.inr (0, [.int (G 14 i), .int (G 15 i), .int (G 16 i), .int (G 19 i), .ref (ad 9 i), .ref (ad 10 i), .int (G 21 i), .int (upd (G 17) i v i), .int (G 20 i), .int (G 18 i), .int (G 24 i)])
    rw [pk_us]) hdg kk
theorem cc_put20 (i : Nat) (hexec : p.tables.exec = Jvm.exec) (hb : c.code = cc) (hts : ∀ w ∈ Ts, w.before args s = true) (hin : ∀ w ∈ u_ws RX0 TX0 11, w ∈ Ts) (hown : s.vm.findClass own = some m.cls) (hK : va_K D vwCl (tt_ cI cy) s) (hC : cp_ D cI cy h0 q A ad rl L n G H) (hS : va_S A H0 H locs) (hl : i < n 3) {v : Int32}
    (hlink : (Cond.fieldLink own index (TX0 8).1 (TX0 8).2.1 (TX0 8).2.2.1).before args s = true) (hdg : decode cc pc = .ok (.putfield index, 3)) (kk : ∀ (H1 : Heap) (locs1 : List Loc), cp_ D cI cy h0 q A ad rl L n (up2 G 20 i v) H1 → va_S A H0 H1 locs1 → W p l e R s m args below meth c H1 locs1 cells slots Q (F0 m (pc + 3) ls rest)) : W p l e R s m args below meth c H locs cells slots Q (F0 m pc ls (.int v :: .ref (ad 3 i) :: rest)) := by
  exact co_put 3 i 20 (ty := .int) (C := RX0) (T := TX0) (N := 11) (ci := 0) hexec hb hts hin tyX0_ok nmX0 hown hK hC hS hl (fun e he => he) rfl 8 (by decide) hlink (fun _ h9 => h9) rfl (by decide +kernel) rfl rfl (Nat.le_of_ble_eq_true rfl) (by decide) rfl (by
    show (Sum.inr (0, [.int (G 14 i), .int (G 15 i), .int (G 16 i), .int (G 19 i), .ref (ad 9 i), .ref (ad 10 i), .int (G 21 i), .int (G 17 i), .int v, .int (G 18 i), .int (G 24 i)]) : va_E) = Sum.inr (0, [.int (G 14 i), .int (G 15 i), .int (G 16 i), .int (G 19 i), .ref (ad 9 i), .ref (ad 10 i), .int (G 21 i), .int (G 17 i), .int (upd (G 20) i v i), .int (G 18 i), .int (G 24 i)])
    rw [pk_us]) hdg kk
theorem cc_put18 (i : Nat) (hexec : p.tables.exec = Jvm.exec) (hb : c.code = cc) (hts : ∀ w ∈ Ts, w.before args s = true) (hin : ∀ w ∈ u_ws RX0 TX0 11, w ∈ Ts) (hown : s.vm.findClass own = some m.cls) (hK : va_K D vwCl (tt_ cI cy) s) (hC : cp_ D cI cy h0 q A ad rl L n G H) (hS : va_S A H0 H locs) (hl : i < n 3) {v : Int32}
    (hlink : (Cond.fieldLink own index (TX0 9).1 (TX0 9).2.1 (TX0 9).2.2.1).before args s = true) (hdg : decode cc pc = .ok (.putfield index, 3)) (kk : ∀ (H1 : Heap) (locs1 : List Loc), cp_ D cI cy h0 q A ad rl L n (up2 G 18 i v) H1 → va_S A H0 H1 locs1 → W p l e R s m args below meth c H1 locs1 cells slots Q (F0 m (pc + 3) ls rest)) : W p l e R s m args below meth c H locs cells slots Q (F0 m pc ls (.int v :: .ref (ad 3 i) :: rest)) := by
  exact co_put 3 i 18 (ty := .int) (C := RX0) (T := TX0) (N := 11) (ci := 0) hexec hb hts hin tyX0_ok nmX0 hown hK hC hS hl (fun e he => he) rfl 9 (by decide) hlink (fun _ h9 => h9) rfl (by decide +kernel) rfl rfl (Nat.le_of_ble_eq_true rfl) (by decide) rfl (by
    show (Sum.inr (0, [.int (G 14 i), .int (G 15 i), .int (G 16 i), .int (G 19 i), .ref (ad 9 i), .ref (ad 10 i), .int (G 21 i), .int (G 17 i), .int (G 20 i), .int v, .int (G 24 i)]) : va_E) = Sum.inr (0, [.int (G 14 i), .int (G 15 i), .int (G 16 i), .int (G 19 i), .ref (ad 9 i), .ref (ad 10 i), .int (G 21 i), .int (G 17 i), .int (G 20 i), .int (upd (G 18) i v i), .int (G 24 i)])
    rw [pk_us]) hdg kk
theorem cc_put24 (i : Nat) (hexec : p.tables.exec = Jvm.exec) (hb : c.code = cc) (hts : ∀ w ∈ Ts, w.before args s = true) (hin : ∀ w ∈ u_ws RX0 TX0 11, w ∈ Ts) (hown : s.vm.findClass own = some m.cls) (hK : va_K D vwCl (tt_ cI cy) s) (hC : cp_ D cI cy h0 q A ad rl L n G H) (hS : va_S A H0 H locs) (hl : i < n 3) {v : Int32} (hnr : narrow .boolean (.int v) = .int v) (hft : fits .boolean (.int v) = true)
    (hlink : (Cond.fieldLink own index (TX0 10).1 (TX0 10).2.1 (TX0 10).2.2.1).before args s = true) (hdg : decode cc pc = .ok (.putfield index, 3)) (kk : ∀ (H1 : Heap) (locs1 : List Loc), cp_ D cI cy h0 q A ad rl L n (up2 G 24 i v) H1 → va_S A H0 H1 locs1 → W p l e R s m args below meth c H1 locs1 cells slots Q (F0 m (pc + 3) ls rest)) : W p l e R s m args below meth c H locs cells slots Q (F0 m pc ls (.int v :: .ref (ad 3 i) :: rest)) := by
  exact co_put 3 i 24 (ty := .boolean) (C := RX0) (T := TX0) (N := 11) (ci := 0) hexec hb hts hin tyX0_ok nmX0 hown hK hC hS hl (fun e he => he) rfl 10 (by decide) hlink (fun _ h9 => h9) rfl (by decide +kernel) hnr hft (Nat.le_of_ble_eq_true rfl) (by decide) rfl (by
    show (Sum.inr (0, [.int (G 14 i), .int (G 15 i), .int (G 16 i), .int (G 19 i), .ref (ad 9 i), .ref (ad 10 i), .int (G 21 i), .int (G 17 i), .int (G 20 i), .int (G 18 i), .int v]) : va_E) = Sum.inr (0, [.int (G 14 i), .int (G 15 i), .int (G 16 i), .int (G 19 i), .ref (ad 9 i), .ref (ad 10 i), .int (G 21 i), .int (G 17 i), .int (G 20 i), .int (G 18 i), .int (upd (G 24) i v i)])
    rw [pk_us]) hdg kk
theorem lf_n0 {n : Nat → Nat} {G : Nat → Nat → Int32} {i j : Nat} : ∀ {k : Nat}, lf_ (va_up n 0 j) G i k → lf_ n G i k
  | 0, hl => hl
  | 1, hl => hl
  | 2, hl => hl
  | 3, hl => hl
  | 4, hl => hl
  | 5, hl => hl
  | 6, hl => hl
  | 7, hl => hl
  | 8, hl => hl
  | 9, hl => hl
  | 10, hl => hl
  | 11, hl => hl
  | 12, hl => hl
  | 13, hl => hl
  | 14, hl => hl
  | 15, hl => hl
  | 16, hl => hl
  | 17, hl => hl
  | 18, hl => hl
  | 19, hl => hl
  | 20, hl => hl
  | 21, hl => hl
  | 22, hl => hl
  | 23, hl => hl
  | 24, hl => hl
  | 25, hl => hl
  | 26, hl => hl
  | 27, hl => hl
  | 28, hl => hl
  | _ + 29, hl => hl
theorem ce_n0 {cI : ClassId} {cy : Nat → ClassId} {ad : Nat → Nat → Nat} {n : Nat → Nat} {G : Nat → Nat → Int32} {i j : Nat} {e : va_E} : ∀ {k : Nat}, ce_ cI cy ad n G i e k → ce_ cI cy ad (va_up n 0 j) G i e k
  | 0, hl => hl
  | 1, hl => hl
  | 2, hl => hl
  | 3, hl => hl
  | 4, hl => hl
  | 5, hl => hl
  | 6, hl => hl
  | 7, hl => hl
  | 8, hl => hl
  | 9, hl => hl
  | 10, hl => hl
  | 11, hl => hl
  | 12, hl => hl
  | 13, hl => hl
  | 14, hl => hl
  | 15, hl => hl
  | 16, hl => hl
  | 17, hl => hl
  | 18, hl => hl
  | 19, hl => hl
  | 20, hl => hl
  | 21, hl => hl
  | 22, hl => hl
  | 23, hl => hl
  | 24, hl => hl
  | 25, hl => hl
  | 26, hl => hl
  | 27, hl => hl
  | 28, hl => hl
  | _ + 29, hl => hl
theorem ly_n0 {cI : ClassId} {cy : Nat → ClassId} {q : Nat → Nat} {ad : Nat → Nat → Nat} {rl : Nat → Nat × Nat} {L : List Nat} {n : Nat → Nat} {G : Nat → Nat → Int32} {f : Nat → va_E} (hL : ly_ cI cy q ad rl L n G f) (k : Nat) : ly_ cI cy q ad rl L (va_up n 0 k) G f := by
  obtain ⟨h1, h2, h3⟩ := hL
  refine ⟨fun k' i' hl => ?_, h2, h3⟩
  have hl' : lf_ n G i' k' := lf_n0 hl
  obtain ⟨a1, a2, a3⟩ := h1 k' i' hl'
  exact ⟨a1, a2, ce_n0 a3⟩
/-- now is one day later -/
theorem cx_putn0 (hexec : p.tables.exec = Jvm.exec) (hb : c.code = cc) (hts : ∀ w ∈ Ts, w.before args s = true) (hin : ∀ w ∈ u_ws RX7 TX7 14, w ∈ Ts) (hown : s.vm.findClass own = some m.cls) (hK : va_K D vwCl (tt_ cI cy) s) (hC : cp_ D cI cy h0 q A ad rl L n G H) (hS : va_S A H0 H locs) {k : Nat} (hlink : (Cond.fieldLink own index (TX7 8).1 (TX7 8).2.1 (TX7 8).2.2.1).before args s = true) (hdg : decode cc pc = .ok (.putfield index, 3))
    (kk : ∀ (H1 : Heap) (locs1 : List Loc), cp_ D cI cy h0 q A ad rl L (va_up n 0 k) G H1 → va_S A H0 H1 locs1 → W p l e R s m args below meth c H1 locs1 cells slots Q (F0 m (pc + 3) ls rest)) : W p l e R s m args below meth c H locs cells slots Q (F0 m pc ls (.int (nI k) :: .ref h0 :: rest)) := by
  obtain ⟨f, hP, hD, hL⟩ := hC
  refine va_put (D := D) (ci := 6) (C := RX7) (T := TX7) (N := 14) (v := .int (nI k)) (ty := .int) hexec hb hts hin tyX7 tyX7_ok nmX7 hown hK hP hD hS 0 rfl rfl 8 (by decide) hlink (fun _ h9 => h9) rfl (by decide +kernel) rfl rfl (Nat.le_of_ble_eq_true rfl) hdg (fun H1 locs1 hP2 hD2 hS2 => ?_)
  exact kk H1 locs1 ⟨f, hP2, hD2, ly_n0 hL k⟩ hS2
theorem cx_put44 (hexec : p.tables.exec = Jvm.exec) (hb : c.code = cc) (hts : ∀ w ∈ Ts, w.before args s = true) (hin : ∀ w ∈ u_ws RX7 TX7 14, w ∈ Ts) (hown : s.vm.findClass own = some m.cls) (hK : va_K D vwCl (tt_ cI cy) s) (hC : cp_ D cI cy h0 q A ad rl L n G H) (hS : va_S A H0 H locs) {v : Int32} (hlink : (Cond.fieldLink own index (TX7 13).1 (TX7 13).2.1 (TX7 13).2.2.1).before args s = true) (hdg : decode cc pc = .ok (.putfield index, 3))
    (kk : ∀ (H1 : Heap) (locs1 : List Loc), cp_ D cI cy h0 q A ad rl L n (up2 G 44 0 v) H1 → va_S A H0 H1 locs1 → W p l e R s m args below meth c H1 locs1 cells slots Q (F0 m (pc + 3) ls rest)) : W p l e R s m args below meth c H locs cells slots Q (F0 m pc ls (.int v :: .ref h0 :: rest)) := by
  obtain ⟨f, hP, hD, hL⟩ := hC
  refine va_put (D := D) (ci := 6) (C := RX7) (T := TX7) (N := 14) (v := .int v) (ty := .int) hexec hb hts hin tyX7 tyX7_ok nmX7 hown hK hP hD hS 0 rfl rfl 13 (by decide) hlink (fun _ h9 => h9) rfl (by decide +kernel) rfl rfl (Nat.le_of_ble_eq_true rfl) hdg (fun H1 locs1 hP2 hD2 hS2 => ?_)
  have e44 : up2 G 44 0 v 44 0 = v := up2_eq G 44 0 v
  refine kk H1 locs1 ⟨f, by rw [e44]; exact hP2, by rw [e44]; exact hD2, ?_⟩ hS2
  obtain ⟨g1, g2, g3⟩ := hL
  refine ⟨fun k' i' hl => ?_, g2, g3⟩
  have hl' : lf_ n G i' k' := lf_cong (up2_ns G 0 v (by decide)) hl
  obtain ⟨a1, a2, a3⟩ := g1 k' i' hl'
  refine ⟨a1, a2, ce_cong (fun s' x' ho => up2_or G v (fun z => ?_)) hl' a3⟩
  rw [z.1] at ho
  have ho : ((0, 0) : Nat × Nat) = (k', i') := ho
  obtain ⟨z1, -⟩ := Prod.mk.inj ho
  rw [← z1] at hl'
  exact hl'.elim
theorem ro_nI {ad : Nat → Nat → Nat} {k : Nat} (h : k < 2147483648) : ro_ ad (nI k) = some (ad 4 k) := by
  unfold ro_
  rw [if_neg, nI_clamp (by omega)]
  intro z
  have := congrArg Int32.toInt z
  rw [nI_toInt (by omega), show (-1 : Int32).toInt = -1 from rfl] at this
  omega
theorem cr_reps (i k : Nat) (hexec : p.tables.exec = Jvm.exec) (hb : c.code = cc) (hK : va_K D vwCl (tt_ cI cy) s) (hC : cp_ D cI cy h0 q A ad rl L n G H) (hS : va_S A H0 H locs) (hl : i < n 1) (hk : k < n 4) (hn4 : n 4 ≤ 300) (h0' : ¬ G 26 k = 0) (h1' : ¬ G 26 k = 1) {w : Int32} (hw : vp_in w 8) (hdg : decode cc pc = .ok (.aastore, 1))
    (kk : ∀ (H1 : Heap) (locs1 : List Loc), cp_ D cI cy h0 q A ad rl L n (up2 G 32 (8 * i + w.toNatClampNeg) (nI k)) H1 → va_S A H0 H1 locs1 → W p l e R s m args below meth c H1 locs1 cells slots Q (F0 m (pc + 1) ls rest)) : W p l e R s m args below meth c H locs cells slots Q (F0 m pc ls (.ref (ad 4 k) :: .int w :: .ref (ad 8 i) :: rest)) := by
  obtain ⟨f, hP, hD, hL⟩ := hC
  obtain ⟨hm, -, hc⟩ := hL.1 8 i hl
  obtain ⟨g, he, hg⟩ := hc
  obtain ⟨p0, hp⟩ := va_pl_get (X := xo_ h0 q n (G 44 0)) (f := f) hm
  have hp' := hp
  rw [he] at hp'
  obtain ⟨hm2, -, hc2⟩ := hL.1 4 k hk
  obtain ⟨p2, hp2⟩ := va_pl_get (X := xo_ h0 q n (G 44 0)) (f := f) hm2
  rw [show f (ad 4 k) = lq_ ad G k from hc2, lq_2 h0' h1'] at hp2
  refine va_astq (r := (RX5, TX5, 6)) hexec hb hK hP hD hS p0 1 p2 4 hp' rfl hp2 rfl (i := w) hw hdg (fun H1 locs1 hP2 hD2 hS2 => ?_)
  rw [va_pl_set hD hm hp] at hP2 hD2
  refine kk H1 locs1 ⟨_, hP2, hD2, ?_⟩ hS2
  obtain ⟨g1, g2, g3⟩ := hL
  have e26 : up2 G 32 (8 * i + w.toNatClampNeg) (nI k) 26 = G 26 := up2_ns G _ _ (by decide)
  have hw8 := vp_lt hw
  refine ⟨fun k' i' hl2 => ?_, g2, fun i' w' hi hw' => ?_⟩
  · have hl' := lf_cong e26 hl2
    obtain ⟨a1, a2, a3⟩ := g1 k' i' hl'
    refine ⟨a1, a2, ?_⟩
    by_cases hkk : (k', i') = (8, i)
    · obtain ⟨rfl, rfl⟩ := Prod.mk.inj hkk
      rw [va_up_self]
      refine ⟨_, rfl, fun w2 hw2 => ?_⟩
      by_cases ew : w2 = w.toNatClampNeg
      · rw [ew, va_up_self, up2_eq, ro_nI (by omega)]
      · rw [va_up_ne _ _ ew, up2_nk G 32 (nI k) (show 8 * i' + w2 ≠ 8 * i' + w.toNatClampNeg by omega)]
        exact hg w2 hw2
    · have hne : ad k' i' ≠ ad 8 i := fun z => hkk (by rw [← a2, z, (g1 8 i hl).2.1])
      rw [va_up_ne _ _ hne]
      refine ce_cong (fun s' x' ho' => up2_or G (nI k) (fun z => hkk ?_)) hl' a3
      rw [← ho', z.1, z.2]
      show (8, (8 * i + w.toNatClampNeg) / 8) = (8, i)
      rw [show (8 * i + w.toNatClampNeg) / 8 = i by omega]
  · rw [e26]
    by_cases ez : 8 * i' + w' = 8 * i + w.toNatClampNeg
    · rw [ez, up2_eq]
      exact Or.inr ⟨k, hk, rfl, h0', h1'⟩
    · rw [up2_nk G 32 (nI k) ez]
      exact g3 i' w' hi hw'
end CL
abbrev ct_P (D : va_G) (cI : ClassId) (cy : Nat → ClassId) (h0 : Nat) (q : Nat → Nat) (A : Nat → Prop) (ad : Nat → Nat → Nat) (rl : Nat → Nat × Nat) (L : List Nat) (n : Nat → Nat) (G : Nat → Nat → Int32) : State → Prop := fun U => cp_ D cI cy h0 q A ad rl L n G U.heap ∧ va_K D vwCl (tt_ cI cy) U ∧ nw_ U
section CT
variable {s : State} {H : Heap} {As : List Value} {D : va_G} {A : Nat → Prop} {cI : ClassId} {cy : Nat → ClassId} {h0 : Nat} {q : Nat → Nat} {ad : Nat → Nat → Nat} {rl : Nat → Nat × Nat} {L : List Nat} {n : Nat → Nat} {G : Nat → Nat → Int32}
theorem ct_pre (hC : cp_ D cI cy h0 q A ad rl L n G H) (hK : va_K D vwCl (tt_ cI cy) s) (hW0 : nw_ s) : PreV s H RX7 h0 (va_Pc (.ref h0 :: As) (ct_P D cI cy h0 q A ad rl L n G)) As := by
  refine ⟨fun a U g mk z => ⟨z.1, z.2.1, va_K.moved (u := U) (U := U.calling g mk a) (Vm.Alike.refl U.vm) z.2.2.1, nw_call z.2.2.2⟩, ?_, fun U hU hW => ⟨rfl, by rw [hU]; exact hC, va_K.moved hW.alike hK, nw_warm hW hW0⟩⟩
  obtain ⟨f, hP, -, -⟩ := hC
  exact va_recv hK hP (ci := 6) (q := (RX7, TX7, 14)) (q0 := 0) rfl rfl
theorem ct_preO (k i : Nat) {r : vw_C} {ci : Nat} {fs : List Value} (hC : cp_ D cI cy h0 q A ad rl L n G H) (hK : va_K D vwCl (tt_ cI cy) s) (hW0 : nw_ s) (hl : lf_ n G i k) (hce : ∀ e, ce_ cI cy ad n G i e k → e = .inr (ci, fs)) (hcl : vwCl[ci]? = some r) : PreV s H r.1 (ad k i) (va_Pc (.ref (ad k i) :: As) (ct_P D cI cy h0 q A ad rl L n G)) As := by
  refine ⟨fun a U g mk z => ⟨z.1, z.2.1, va_K.moved (u := U) (U := U.calling g mk a) (Vm.Alike.refl U.vm) z.2.2.1, nw_call z.2.2.2⟩, ?_, fun U hU hW => ⟨rfl, by rw [hU]; exact hC, va_K.moved hW.alike hK, nw_warm hW hW0⟩⟩
  obtain ⟨f, hP, -, hL⟩ := hC
  obtain ⟨hm, -, hc⟩ := hL.1 k i hl
  obtain ⟨p0, hp⟩ := va_pl_get (X := xo_ h0 q n (G 44 0)) (f := f) hm
  rw [hce _ hc] at hp
  exact va_recv hK hP hcl hp
end CT
