/-! the class's cells as a pool, each of a kind: 1 Post, 2 Way, 3 Canoe, 4 Order, 5 Debt, 6 Report, 7 Report[8], 8 Post[8], 9 Way[12], 10 Canoe[120], 11 Letter[300], 12 int[8][8], 13 int[6][21], 14 int[6][6], 15 int[6], 16 int[8], 17 int[12], 18 int[21] -/
def kd_ (cI : ClassId) (cy : Nat → ClassId) (t : Nat → Nat) (e : va_E) : Nat → Prop
  | 0 => True
  | 1 => ∃ s p o r : Nat, e = .inr (3, [.ref s, .ref p, .ref o, .ref r]) ∧ t s = 15 ∧ t p = 15 ∧ t o = 17 ∧ t r = 7
  | 2 => ∃ g : Nat → Int32, e = .inr (5, [.int (g 0), .int (g 1), .int (g 2), .int (g 3), .int (g 4), .int (g 5)])
  | 3 => ∃ (g : Nat → Int32) (s w : Nat), e = .inr (0, [.int (g 0), .int (g 1), .int (g 2), .int (g 3), .ref s, .ref w, .int (g 6), .int (g 7), .int (g 8), .int (g 9), .int (g 10)]) ∧ t s = 15 ∧ t w = 15
  | 4 => ∃ g : Nat → Int32, e = .inr (2, [.int (g 0), .int (g 1), .int (g 2), .int (g 3), .int (g 4), .int (g 5)])
  | 5 => ∃ g : Nat → Int32, e = .inr (1, [.int (g 0), .int (g 1), .int (g 2), .int (g 3), .int (g 4), .int (g 5)])
  | 6 => ∃ (g : Nat → Int32) (s : Nat), e = .inr (4, [.int (g 0), .int (g 1), .int (g 2), .int (g 3), .int (g 4), .ref s]) ∧ t s = 15
  | 7 => ∃ g : Nat → Option Nat, e = .inl (cy 7, 8, .inr (.inr (.inr (.inr g)))) ∧ ∀ j b, g j = some b → t b = 6
  | 8 => ∃ g : Nat → Option Nat, e = .inl (cy 8, 8, .inr (.inr (.inr (.inr g)))) ∧ ∀ j b, g j = some b → t b = 1
  | 9 => ∃ g : Nat → Option Nat, e = .inl (cy 9, 12, .inr (.inr (.inr (.inr g)))) ∧ ∀ j b, g j = some b → t b = 2
  | 10 => ∃ g : Nat → Option Nat, e = .inl (cy 10, 120, .inr (.inr (.inr (.inr g)))) ∧ ∀ j b, g j = some b → t b = 3
  | 11 => ∃ g : Nat → Option Nat, e = .inl (cy 11, 300, .inr (.inr (.inr (.inr g)))) ∧ ∀ j b, g j = some b → (t b = 4 ∨ t b = 5 ∨ t b = 6)
  | 12 => ∃ r : Nat → Nat, e = .inl (cy 12, 8, .inr (.inr (.inr (.inr (fun i => if i < 8 then some (r i) else none))))) ∧ ∀ i, i < 8 → t (r i) = 16
  | 13 => ∃ r : Nat → Nat, e = .inl (cy 13, 6, .inr (.inr (.inr (.inr (fun i => if i < 6 then some (r i) else none))))) ∧ ∀ i, i < 6 → t (r i) = 18
  | 14 => ∃ r : Nat → Nat, e = .inl (cy 14, 6, .inr (.inr (.inr (.inr (fun i => if i < 6 then some (r i) else none))))) ∧ ∀ i, i < 6 → t (r i) = 15
  | 15 => ∃ g : Nat → Int32, e = .inl (cI, 6, .inl g)
  | 16 => ∃ g : Nat → Int32, e = .inl (cI, 8, .inl g)
  | 17 => ∃ g : Nat → Int32, e = .inl (cI, 12, .inl g)
  | 18 => ∃ g : Nat → Int32, e = .inl (cI, 21, .inl g)
  | _ => False
/-- the pool L, its kinds t, what its cells hold f: each cell is of its kind -/
def ty_ (cI : ClassId) (cy : Nat → ClassId) (L : List Nat) (t : Nat → Nat) (f : Nat → va_E) : Prop := (∀ a, ¬ t a = 0 → a ∈ L) ∧ ∀ a, kd_ cI cy t (f a) (t a)
theorem at_1 {cI : ClassId} {cy : Nat → ClassId} {L : List Nat} {t : Nat → Nat} {f : Nat → va_E} (X : va_W) {a : Nat} (hT : ty_ cI cy L t f) (ha : t a = 1) : a ∈ L ∧ ∃ (i : Nat) (s p o r : Nat), (X ++ va_pl L f)[i]? = some (a, f a) ∧ (X ++ va_pl L f)[i]? = some (a, .inr (3, [.ref s, .ref p, .ref o, .ref r])) ∧ t s = 15 ∧ t p = 15 ∧ t o = 17 ∧ t r = 7 := by
  have hm := hT.1 a (by rw [ha]; decide)
  obtain ⟨i, hi⟩ := va_pl_get (X := X) (f := f) hm
  have h := hT.2 a
  rw [ha] at h
  obtain ⟨s, p, o, r, he, h0, h1, h2, h3⟩ := h
  exact ⟨hm, i, s, p, o, r, hi, by rw [hi, he], h0, h1, h2, h3⟩
theorem at_2 {cI : ClassId} {cy : Nat → ClassId} {L : List Nat} {t : Nat → Nat} {f : Nat → va_E} (X : va_W) {a : Nat} (hT : ty_ cI cy L t f) (ha : t a = 2) : a ∈ L ∧ ∃ (i : Nat) (g : Nat → Int32), (X ++ va_pl L f)[i]? = some (a, f a) ∧ (X ++ va_pl L f)[i]? = some (a, .inr (5, [.int (g 0), .int (g 1), .int (g 2), .int (g 3), .int (g 4), .int (g 5)])) := by
  have hm := hT.1 a (by rw [ha]; decide)
  obtain ⟨i, hi⟩ := va_pl_get (X := X) (f := f) hm
  have h := hT.2 a
  rw [ha] at h
  obtain ⟨g, he⟩ := h
  exact ⟨hm, i, g, hi, by rw [hi, he]⟩
theorem at_3 {cI : ClassId} {cy : Nat → ClassId} {L : List Nat} {t : Nat → Nat} {f : Nat → va_E} (X : va_W) {a : Nat} (hT : ty_ cI cy L t f) (ha : t a = 3) : a ∈ L ∧ ∃ (i : Nat) (g : Nat → Int32) (s w : Nat), (X ++ va_pl L f)[i]? = some (a, f a) ∧ (X ++ va_pl L f)[i]? = some (a, .inr (0, [.int (g 0), .int (g 1), .int (g 2), .int (g 3), .ref s, .ref w, .int (g 6), .int (g 7), .int (g 8), .int (g 9), .int (g 10)])) ∧ t s = 15 ∧ t w = 15 := by
  have hm := hT.1 a (by rw [ha]; decide)
  obtain ⟨i, hi⟩ := va_pl_get (X := X) (f := f) hm
  have h := hT.2 a
  rw [ha] at h
  obtain ⟨g, s, w, he, h0, h1⟩ := h
  exact ⟨hm, i, g, s, w, hi, by rw [hi, he], h0, h1⟩
theorem at_4 {cI : ClassId} {cy : Nat → ClassId} {L : List Nat} {t : Nat → Nat} {f : Nat → va_E} (X : va_W) {a : Nat} (hT : ty_ cI cy L t f) (ha : t a = 4) : a ∈ L ∧ ∃ (i : Nat) (g : Nat → Int32), (X ++ va_pl L f)[i]? = some (a, f a) ∧ (X ++ va_pl L f)[i]? = some (a, .inr (2, [.int (g 0), .int (g 1), .int (g 2), .int (g 3), .int (g 4), .int (g 5)])) := by
  have hm := hT.1 a (by rw [ha]; decide)
  obtain ⟨i, hi⟩ := va_pl_get (X := X) (f := f) hm
  have h := hT.2 a
  rw [ha] at h
  obtain ⟨g, he⟩ := h
  exact ⟨hm, i, g, hi, by rw [hi, he]⟩
theorem at_5 {cI : ClassId} {cy : Nat → ClassId} {L : List Nat} {t : Nat → Nat} {f : Nat → va_E} (X : va_W) {a : Nat} (hT : ty_ cI cy L t f) (ha : t a = 5) : a ∈ L ∧ ∃ (i : Nat) (g : Nat → Int32), (X ++ va_pl L f)[i]? = some (a, f a) ∧ (X ++ va_pl L f)[i]? = some (a, .inr (1, [.int (g 0), .int (g 1), .int (g 2), .int (g 3), .int (g 4), .int (g 5)])) := by
  have hm := hT.1 a (by rw [ha]; decide)
  obtain ⟨i, hi⟩ := va_pl_get (X := X) (f := f) hm
  have h := hT.2 a
  rw [ha] at h
  obtain ⟨g, he⟩ := h
  exact ⟨hm, i, g, hi, by rw [hi, he]⟩
theorem at_6 {cI : ClassId} {cy : Nat → ClassId} {L : List Nat} {t : Nat → Nat} {f : Nat → va_E} (X : va_W) {a : Nat} (hT : ty_ cI cy L t f) (ha : t a = 6) : a ∈ L ∧ ∃ (i : Nat) (g : Nat → Int32) (s : Nat), (X ++ va_pl L f)[i]? = some (a, f a) ∧ (X ++ va_pl L f)[i]? = some (a, .inr (4, [.int (g 0), .int (g 1), .int (g 2), .int (g 3), .int (g 4), .ref s])) ∧ t s = 15 := by
  have hm := hT.1 a (by rw [ha]; decide)
  obtain ⟨i, hi⟩ := va_pl_get (X := X) (f := f) hm
  have h := hT.2 a
  rw [ha] at h
  obtain ⟨g, s, he, h0⟩ := h
  exact ⟨hm, i, g, s, hi, by rw [hi, he], h0⟩
theorem at_7 {cI : ClassId} {cy : Nat → ClassId} {L : List Nat} {t : Nat → Nat} {f : Nat → va_E} (X : va_W) {a : Nat} (hT : ty_ cI cy L t f) (ha : t a = 7) : a ∈ L ∧ ∃ (i : Nat) (g : Nat → Option Nat), (X ++ va_pl L f)[i]? = some (a, f a) ∧ (X ++ va_pl L f)[i]? = some (a, .inl (cy 7, 8, .inr (.inr (.inr (.inr g))))) ∧ (∀ j b, g j = some b → t b = 6) := by
  have hm := hT.1 a (by rw [ha]; decide)
  obtain ⟨i, hi⟩ := va_pl_get (X := X) (f := f) hm
  have h := hT.2 a
  rw [ha] at h
  obtain ⟨g, he, h0⟩ := h
  exact ⟨hm, i, g, hi, by rw [hi, he], h0⟩
theorem at_8 {cI : ClassId} {cy : Nat → ClassId} {L : List Nat} {t : Nat → Nat} {f : Nat → va_E} (X : va_W) {a : Nat} (hT : ty_ cI cy L t f) (ha : t a = 8) : a ∈ L ∧ ∃ (i : Nat) (g : Nat → Option Nat), (X ++ va_pl L f)[i]? = some (a, f a) ∧ (X ++ va_pl L f)[i]? = some (a, .inl (cy 8, 8, .inr (.inr (.inr (.inr g))))) ∧ (∀ j b, g j = some b → t b = 1) := by
  have hm := hT.1 a (by rw [ha]; decide)
  obtain ⟨i, hi⟩ := va_pl_get (X := X) (f := f) hm
  have h := hT.2 a
  rw [ha] at h
  obtain ⟨g, he, h0⟩ := h
  exact ⟨hm, i, g, hi, by rw [hi, he], h0⟩
theorem at_9 {cI : ClassId} {cy : Nat → ClassId} {L : List Nat} {t : Nat → Nat} {f : Nat → va_E} (X : va_W) {a : Nat} (hT : ty_ cI cy L t f) (ha : t a = 9) : a ∈ L ∧ ∃ (i : Nat) (g : Nat → Option Nat), (X ++ va_pl L f)[i]? = some (a, f a) ∧ (X ++ va_pl L f)[i]? = some (a, .inl (cy 9, 12, .inr (.inr (.inr (.inr g))))) ∧ (∀ j b, g j = some b → t b = 2) := by
  have hm := hT.1 a (by rw [ha]; decide)
  obtain ⟨i, hi⟩ := va_pl_get (X := X) (f := f) hm
  have h := hT.2 a
  rw [ha] at h
  obtain ⟨g, he, h0⟩ := h
  exact ⟨hm, i, g, hi, by rw [hi, he], h0⟩
theorem at_10 {cI : ClassId} {cy : Nat → ClassId} {L : List Nat} {t : Nat → Nat} {f : Nat → va_E} (X : va_W) {a : Nat} (hT : ty_ cI cy L t f) (ha : t a = 10) : a ∈ L ∧ ∃ (i : Nat) (g : Nat → Option Nat), (X ++ va_pl L f)[i]? = some (a, f a) ∧ (X ++ va_pl L f)[i]? = some (a, .inl (cy 10, 120, .inr (.inr (.inr (.inr g))))) ∧ (∀ j b, g j = some b → t b = 3) := by
  have hm := hT.1 a (by rw [ha]; decide)
  obtain ⟨i, hi⟩ := va_pl_get (X := X) (f := f) hm
  have h := hT.2 a
  rw [ha] at h
  obtain ⟨g, he, h0⟩ := h
  exact ⟨hm, i, g, hi, by rw [hi, he], h0⟩
theorem at_11 {cI : ClassId} {cy : Nat → ClassId} {L : List Nat} {t : Nat → Nat} {f : Nat → va_E} (X : va_W) {a : Nat} (hT : ty_ cI cy L t f) (ha : t a = 11) : a ∈ L ∧ ∃ (i : Nat) (g : Nat → Option Nat), (X ++ va_pl L f)[i]? = some (a, f a) ∧ (X ++ va_pl L f)[i]? = some (a, .inl (cy 11, 300, .inr (.inr (.inr (.inr g))))) ∧ (∀ j b, g j = some b → (t b = 4 ∨ t b = 5 ∨ t b = 6)) := by
  have hm := hT.1 a (by rw [ha]; decide)
  obtain ⟨i, hi⟩ := va_pl_get (X := X) (f := f) hm
  have h := hT.2 a
  rw [ha] at h
  obtain ⟨g, he, h0⟩ := h
  exact ⟨hm, i, g, hi, by rw [hi, he], h0⟩
theorem at_12 {cI : ClassId} {cy : Nat → ClassId} {L : List Nat} {t : Nat → Nat} {f : Nat → va_E} (X : va_W) {a : Nat} (hT : ty_ cI cy L t f) (ha : t a = 12) : a ∈ L ∧ ∃ (i : Nat) (r : Nat → Nat), (X ++ va_pl L f)[i]? = some (a, f a) ∧ (X ++ va_pl L f)[i]? = some (a, .inl (cy 12, 8, .inr (.inr (.inr (.inr (fun i => if i < 8 then some (r i) else none)))))) ∧ (∀ i, i < 8 → t (r i) = 16) := by
  have hm := hT.1 a (by rw [ha]; decide)
  obtain ⟨i, hi⟩ := va_pl_get (X := X) (f := f) hm
  have h := hT.2 a
  rw [ha] at h
  obtain ⟨r, he, h0⟩ := h
  exact ⟨hm, i, r, hi, by rw [hi, he], h0⟩
theorem at_13 {cI : ClassId} {cy : Nat → ClassId} {L : List Nat} {t : Nat → Nat} {f : Nat → va_E} (X : va_W) {a : Nat} (hT : ty_ cI cy L t f) (ha : t a = 13) : a ∈ L ∧ ∃ (i : Nat) (r : Nat → Nat), (X ++ va_pl L f)[i]? = some (a, f a) ∧ (X ++ va_pl L f)[i]? = some (a, .inl (cy 13, 6, .inr (.inr (.inr (.inr (fun i => if i < 6 then some (r i) else none)))))) ∧ (∀ i, i < 6 → t (r i) = 18) := by
  have hm := hT.1 a (by rw [ha]; decide)
  obtain ⟨i, hi⟩ := va_pl_get (X := X) (f := f) hm
  have h := hT.2 a
  rw [ha] at h
  obtain ⟨r, he, h0⟩ := h
  exact ⟨hm, i, r, hi, by rw [hi, he], h0⟩
theorem at_14 {cI : ClassId} {cy : Nat → ClassId} {L : List Nat} {t : Nat → Nat} {f : Nat → va_E} (X : va_W) {a : Nat} (hT : ty_ cI cy L t f) (ha : t a = 14) : a ∈ L ∧ ∃ (i : Nat) (r : Nat → Nat), (X ++ va_pl L f)[i]? = some (a, f a) ∧ (X ++ va_pl L f)[i]? = some (a, .inl (cy 14, 6, .inr (.inr (.inr (.inr (fun i => if i < 6 then some (r i) else none)))))) ∧ (∀ i, i < 6 → t (r i) = 15) := by
  have hm := hT.1 a (by rw [ha]; decide)
  obtain ⟨i, hi⟩ := va_pl_get (X := X) (f := f) hm
  have h := hT.2 a
  rw [ha] at h
  obtain ⟨r, he, h0⟩ := h
  exact ⟨hm, i, r, hi, by rw [hi, he], h0⟩
theorem at_15 {cI : ClassId} {cy : Nat → ClassId} {L : List Nat} {t : Nat → Nat} {f : Nat → va_E} (X : va_W) {a : Nat} (hT : ty_ cI cy L t f) (ha : t a = 15) : a ∈ L ∧ ∃ (i : Nat) (g : Nat → Int32), (X ++ va_pl L f)[i]? = some (a, f a) ∧ (X ++ va_pl L f)[i]? = some (a, .inl (cI, 6, .inl g)) := by
  have hm := hT.1 a (by rw [ha]; decide)
  obtain ⟨i, hi⟩ := va_pl_get (X := X) (f := f) hm
  have h := hT.2 a
  rw [ha] at h
  obtain ⟨g, he⟩ := h
  exact ⟨hm, i, g, hi, by rw [hi, he]⟩
theorem at_16 {cI : ClassId} {cy : Nat → ClassId} {L : List Nat} {t : Nat → Nat} {f : Nat → va_E} (X : va_W) {a : Nat} (hT : ty_ cI cy L t f) (ha : t a = 16) : a ∈ L ∧ ∃ (i : Nat) (g : Nat → Int32), (X ++ va_pl L f)[i]? = some (a, f a) ∧ (X ++ va_pl L f)[i]? = some (a, .inl (cI, 8, .inl g)) := by
  have hm := hT.1 a (by rw [ha]; decide)
  obtain ⟨i, hi⟩ := va_pl_get (X := X) (f := f) hm
  have h := hT.2 a
  rw [ha] at h
  obtain ⟨g, he⟩ := h
  exact ⟨hm, i, g, hi, by rw [hi, he]⟩
theorem at_17 {cI : ClassId} {cy : Nat → ClassId} {L : List Nat} {t : Nat → Nat} {f : Nat → va_E} (X : va_W) {a : Nat} (hT : ty_ cI cy L t f) (ha : t a = 17) : a ∈ L ∧ ∃ (i : Nat) (g : Nat → Int32), (X ++ va_pl L f)[i]? = some (a, f a) ∧ (X ++ va_pl L f)[i]? = some (a, .inl (cI, 12, .inl g)) := by
  have hm := hT.1 a (by rw [ha]; decide)
  obtain ⟨i, hi⟩ := va_pl_get (X := X) (f := f) hm
  have h := hT.2 a
  rw [ha] at h
  obtain ⟨g, he⟩ := h
  exact ⟨hm, i, g, hi, by rw [hi, he]⟩
theorem at_18 {cI : ClassId} {cy : Nat → ClassId} {L : List Nat} {t : Nat → Nat} {f : Nat → va_E} (X : va_W) {a : Nat} (hT : ty_ cI cy L t f) (ha : t a = 18) : a ∈ L ∧ ∃ (i : Nat) (g : Nat → Int32), (X ++ va_pl L f)[i]? = some (a, f a) ∧ (X ++ va_pl L f)[i]? = some (a, .inl (cI, 21, .inl g)) := by
  have hm := hT.1 a (by rw [ha]; decide)
  obtain ⟨i, hi⟩ := va_pl_get (X := X) (f := f) hm
  have h := hT.2 a
  rw [ha] at h
  obtain ⟨g, he⟩ := h
  exact ⟨hm, i, g, hi, by rw [hi, he]⟩
theorem kd_m {t t' : Nat → Nat} (m : ∀ x, ¬ t x = 0 → t' x = t x) {x k : Nat} (h : t x = k + 1) : t' x = k + 1 := by rw [m x (by rw [h]; exact Nat.succ_ne_zero k)]; exact h
theorem kd_mono {cI : ClassId} {cy : Nat → ClassId} {t t' : Nat → Nat} {e : va_E} (m : ∀ x, ¬ t x = 0 → t' x = t x) : ∀ {k : Nat}, kd_ cI cy t e k → kd_ cI cy t' e k
  | 0, _ => trivial
  | 1, h => by obtain ⟨s, p, o, r, he, h0, h1, h2, h3⟩ := h; exact ⟨s, p, o, r, he, (kd_m m h0), (kd_m m h1), (kd_m m h2), (kd_m m h3)⟩
  | 2, h => by obtain ⟨g, he⟩ := h; exact ⟨g, he⟩
  | 3, h => by obtain ⟨g, s, w, he, h0, h1⟩ := h; exact ⟨g, s, w, he, (kd_m m h0), (kd_m m h1)⟩
  | 4, h => by obtain ⟨g, he⟩ := h; exact ⟨g, he⟩
  | 5, h => by obtain ⟨g, he⟩ := h; exact ⟨g, he⟩
  | 6, h => by obtain ⟨g, s, he, h0⟩ := h; exact ⟨g, s, he, (kd_m m h0)⟩
  | 7, h => by obtain ⟨g, he, h0⟩ := h; exact ⟨g, he, (fun j b h => kd_m m (h0 j b h))⟩
  | 8, h => by obtain ⟨g, he, h0⟩ := h; exact ⟨g, he, (fun j b h => kd_m m (h0 j b h))⟩
  | 9, h => by obtain ⟨g, he, h0⟩ := h; exact ⟨g, he, (fun j b h => kd_m m (h0 j b h))⟩
  | 10, h => by obtain ⟨g, he, h0⟩ := h; exact ⟨g, he, (fun j b h => kd_m m (h0 j b h))⟩
  | 11, h => by obtain ⟨g, he, h0⟩ := h; exact ⟨g, he, (fun j b h => (h0 j b h).elim (fun z => Or.inl (kd_m m z)) (fun z => Or.inr (z.elim (fun z => Or.inl (kd_m m z)) (fun z => Or.inr (kd_m m z)))))⟩
  | 12, h => by obtain ⟨r, he, h0⟩ := h; exact ⟨r, he, (fun i h => kd_m m (h0 i h))⟩
  | 13, h => by obtain ⟨r, he, h0⟩ := h; exact ⟨r, he, (fun i h => kd_m m (h0 i h))⟩
  | 14, h => by obtain ⟨r, he, h0⟩ := h; exact ⟨r, he, (fun i h => kd_m m (h0 i h))⟩
  | 15, h => by obtain ⟨g, he⟩ := h; exact ⟨g, he⟩
  | 16, h => by obtain ⟨g, he⟩ := h; exact ⟨g, he⟩
  | 17, h => by obtain ⟨g, he⟩ := h; exact ⟨g, he⟩
  | 18, h => by obtain ⟨g, he⟩ := h; exact ⟨g, he⟩
  | _ + 19, h => h.elim
theorem ty_set {cI : ClassId} {cy : Nat → ClassId} {L : List Nat} {t : Nat → Nat} {f : Nat → va_E} (hT : ty_ cI cy L t f) {a : Nat} {e : va_E} {k : Nat} (ha : t a = k) (he : kd_ cI cy t e k) : ty_ cI cy L t (va_up f a e) := ⟨hT.1, fun b => by
  by_cases h : b = a
  · rw [h, va_up_self, ha]; exact he
  · rw [va_up_ne _ _ h]; exact hT.2 b⟩
theorem ty_ext {L : List Nat} {t : Nat → Nat} {cI : ClassId} {cy : Nat → ClassId} {f : Nat → va_E} (hT : ty_ cI cy L t f) {a : Nat} (ha : a ∉ L) (k : Nat) : ∀ x, ¬ t x = 0 → va_up t a k x = t x := fun x hx => va_up_ne _ _ (fun z => ha (by rw [← z]; exact hT.1 x hx))
theorem ty_new {cI : ClassId} {cy : Nat → ClassId} {L : List Nat} {t : Nat → Nat} {f : Nat → va_E} (hT : ty_ cI cy L t f) {a : Nat} (ha : a ∉ L) {e : va_E} {k : Nat} (he : kd_ cI cy (va_up t a k) e k) : ty_ cI cy (L ++ [a]) (va_up t a k) (va_up f a e) := by
  have m := ty_ext hT ha k
  refine ⟨fun x hx => ?_, fun b => ?_⟩
  · by_cases h : x = a
    · rw [h]; exact List.mem_append_right _ (List.mem_singleton.mpr rfl)
    · rw [va_up_ne _ _ h] at hx; exact List.mem_append_left _ (hT.1 x hx)
  · by_cases h : b = a
    · rw [h, va_up_self, va_up_self]; exact he
    · rw [va_up_ne _ _ h, va_up_ne _ _ h]; exact kd_mono m (hT.2 b)
theorem pl_push {X : va_W} {L : List Nat} {f : Nat → va_E} {a : Nat} {e : va_E} (h : a ∉ L) : (X ++ va_pl L f) ++ [(a, e)] = X ++ va_pl (L ++ [a]) (va_up f a e) := by
  rw [List.append_assoc, va_pl_push h]
/-- the object's own cell -/
abbrev ho_ (q : Nat → Nat) (n : Nat → Nat) (dl : Int32) : List Value := [.ref (q 1), .ref (q 2), .ref (q 3), .ref (q 4), .ref (q 5), .ref (q 6), .ref (q 7), .ref (q 8), .int (nI (n 0)), .int (nI (n 1)), .int (nI (n 2)), .int (nI (n 3)), .int (nI (n 4)), .int dl]
abbrev xo_ (h0 : Nat) (q : Nat → Nat) (n : Nat → Nat) (dl : Int32) : va_W := [(h0, .inr (6, ho_ q n dl))]
abbrev tt_ (cI : ClassId) (cy : Nat → ClassId) : List (ClassId × FieldType) := [(cI, .int), (cy 7, .object RX5), (cy 8, .object RX4), (cy 9, .object RX6), (cy 10, .object RX0), (cy 11, .object RX2), (cy 12, .array .int), (cy 13, .array .int), (cy 14, .array .int)]
/-- which kinds the object's arrays are of -/
abbrev qs_ (q t : Nat → Nat) : Prop := t (q 1) = 8 ∧ t (q 2) = 9 ∧ t (q 3) = 10 ∧ t (q 4) = 11 ∧ t (q 5) = 12 ∧ t (q 6) = 13 ∧ t (q 7) = 14 ∧ t (q 8) = 15
abbrev nb_ (n : Nat → Nat) : Prop := n 0 ≤ 3000 ∧ n 1 ≤ 8 ∧ n 2 ≤ 12 ∧ n 3 ≤ 120 ∧ n 4 ≤ 300
/-- an answer of which G holds, and the heap as it was -/
def pg_Q (G : Value → Prop) : Array Value → State → Outcome → State → Prop := fun _ st oc t => ∃ v, oc = .returned (some v) ∧ G v ∧ t.heap = st.heap
abbrev gi_ (G : Int32 → Prop) : Value → Prop := fun v => ∃ r : Int32, v = .int r ∧ G r
abbrev go_ (G : Nat → Prop) : Value → Prop := fun v => ∃ r : Option Nat, v = va_rf r ∧ ∀ b, r = some b → G b
section PG
variable {p : Program} {l : Launch} {e : Env} {R : Room} {s : State} {m : MethodId} {args : Array Value} {below : List Frame} {meth : Method} {c : Code} {H : Heap} {locs : List Loc} {cells slots : Nat} {Q : State → Prop}
theorem pg_call {pc : Nat} {ls : Array Slot} {rest st0 : List Value} {a : Array Value} {G : Value → Prop} (hr : va_Run p l e R s m args below meth c H locs cells slots 0 0 (F0 m pc ls st0) rest (pg_Q G a) pu_F)
    (kk : ∀ v, G v → W p l e R s m args below meth c H locs cells slots Q (F0 m (pc + 3) ls (v :: rest))) : W p l e R s m args below meth c H locs cells slots Q (F0 m pc ls st0) := by
  intro T hT X
  obtain ⟨w, st₀, t, T', L, h0, X', hL, e1, e2, ⟨v, hv, hG, hh⟩, st⟩ := hr T hT X
  cases hv
  have hLn : L = [] := by
    cases L with
    | nil => rfl
    | cons q _ => exact (hL q List.mem_cons_self).elim
  subst hLn
  rw [List.append_nil] at X'
  obtain ⟨t2, a1, b1⟩ := kk v hG T' (by rw [e1, hh, h0]) X'
  exact ⟨t2, st t2 a1, b1⟩
end PG
/-- what the tables say of calls between nest mates, of the letters' kinds, of copies -/
def nw_ (U : State) : Prop := va_Nw (.methodLinkNest RX6 30 yX7_isWithin "FurPosts") U ∧ va_Nw (.methodLinkNest RX3 16 yX7_isWare "FurPosts") U ∧ va_Nw (.methodLinkNest RX1 16 yX7_isHunter "FurPosts") U ∧ va_Nc RX3 RX1 U ∧ va_Nc RX5 RX1 U ∧ va_Nw (.castable "[I" "java/lang/Cloneable") U ∧ va_Nw (.castable RX1 RX2) U ∧ va_Nw (.castable RX3 RX2) U ∧ va_Nw (.castable RX5 RX2) U ∧ va_AO RX5 U ∧ va_Nw (.declares ⟨"FurPosts$Letter", "readAt", "(LFurPosts$Post;)V"⟩) U
theorem nw_w6 {U : State} (h : nw_ U) : va_Nw (.methodLinkNest RX6 30 yX7_isWithin "FurPosts") U := h.1
theorem nw_w3 {U : State} (h : nw_ U) : va_Nw (.methodLinkNest RX3 16 yX7_isWare "FurPosts") U := h.2.1
theorem nw_w1 {U : State} (h : nw_ U) : va_Nw (.methodLinkNest RX1 16 yX7_isHunter "FurPosts") U := h.2.2.1
theorem nw_n3 {U : State} (h : nw_ U) : va_Nc RX3 RX1 U := h.2.2.2.1
theorem nw_n5 {U : State} (h : nw_ U) : va_Nc RX5 RX1 U := h.2.2.2.2.1
theorem nw_cl {U : State} (h : nw_ U) : va_Nw (.castable "[I" "java/lang/Cloneable") U := h.2.2.2.2.2.1
theorem nw_l1 {U : State} (h : nw_ U) : va_Nw (.castable RX1 RX2) U := h.2.2.2.2.2.2.1
theorem nw_l3 {U : State} (h : nw_ U) : va_Nw (.castable RX3 RX2) U := h.2.2.2.2.2.2.2.1
theorem nw_l5 {U : State} (h : nw_ U) : va_Nw (.castable RX5 RX2) U := h.2.2.2.2.2.2.2.2.1
theorem nw_ao {U : State} (h : nw_ U) : va_AO RX5 U := h.2.2.2.2.2.2.2.2.2.1
theorem nw_de {U : State} (h : nw_ U) : va_Nw (.declares ⟨"FurPosts$Letter", "readAt", "(LFurPosts$Post;)V"⟩) U := h.2.2.2.2.2.2.2.2.2.2
theorem nw_warm {s U : State} (hW : s.WarmedH U.vm) (h : nw_ s) : nw_ U := ⟨va_Nw.warmM hW (nw_w6 h), va_Nw.warmM hW (nw_w3 h), va_Nw.warmM hW (nw_w1 h), va_Nc.moved hW.alike (nw_n3 h), va_Nc.moved hW.alike (nw_n5 h), va_Nw.warmC hW (nw_cl h), va_Nw.warmC hW (nw_l1 h), va_Nw.warmC hW (nw_l3 h), va_Nw.warmC hW (nw_l5 h), va_AO.moved hW.alike (nw_ao h), va_Nw.warmD hW (nw_de h)⟩
theorem nw_call {U : State} {g : JFrame} {mk : MethodId} {a : Array Value} (h : nw_ U) : nw_ (U.calling g mk a) := ⟨va_Nw.same (u := U) rfl rfl (nw_w6 h), va_Nw.same (u := U) rfl rfl (nw_w3 h), va_Nw.same (u := U) rfl rfl (nw_w1 h), va_Nc.moved (u := U) (Vm.Alike.refl U.vm) (nw_n3 h), va_Nc.moved (u := U) (Vm.Alike.refl U.vm) (nw_n5 h), va_Nw.same (u := U) rfl rfl (nw_cl h), va_Nw.same (u := U) rfl rfl (nw_l1 h), va_Nw.same (u := U) rfl rfl (nw_l3 h), va_Nw.same (u := U) rfl rfl (nw_l5 h), va_AO.moved (u := U) (Vm.Alike.refl U.vm) (nw_ao h), va_Nw.same (u := U) rfl rfl (nw_de h)⟩
/-- the start of a method of the class in a state of it -/
abbrev pt_P (D : va_G) (cl : List vw_C) (tys : List (ClassId × FieldType)) (ws : va_W) : State → Prop := fun U => va_P D cl ws U.heap ∧ va_K D cl tys U ∧ nw_ U
theorem pt_pre {s : State} {H : Heap} {b : Nat} {As : List Value} {D : va_G} {cl : List vw_C} {tys : List (ClassId × FieldType)} {ws : va_W} {ci q0 : Nat} {q : vw_C} {fs : List Value} (hP : va_P D cl ws H) (hK : va_K D cl tys s) (hW0 : nw_ s) (hc : cl[ci]? = some q) (he : ws[q0]? = some (b, .inr (ci, fs))) : PreV s H q.1 b (va_Pc (.ref b :: As) (pt_P D cl tys ws)) As :=
  ⟨fun a U g mk z => ⟨z.1, z.2.1, va_K.moved (u := U) (U := U.calling g mk a) (Vm.Alike.refl U.vm) z.2.2.1, nw_call z.2.2.2⟩, va_recv hK hP hc he, fun U hU hW => ⟨rfl, by rw [hU]; exact hP, va_K.moved hW.alike hK, nw_warm hW hW0⟩⟩
theorem nI_nn (n : Nat) (h : n < 2 ^ 31) : ¬ nI n < 0 := nI_pos h
section GL
variable {p : Program} {l : Launch} {e : Env} {R : Room} {s : State} {m : MethodId} {args : Array Value} {below : List Frame} {meth : Method} {c : Code} {H : Heap} {locs : List Loc} {cells slots : Nat} {Q : State → Prop}
variable {cc : ByteArray} {pc : Nat} {ls : Array Slot} {rest : List Value} {D : va_G} {A : Nat → Prop} {a : Nat} {tys : List (ClassId × FieldType)} {X : va_W} {H0 : Heap} {cI : ClassId} {cy : Nat → ClassId} {L : List Nat} {t : Nat → Nat} {f : Nat → va_E} {Ts : List Cond} {own : String} {index : Nat}
/-- a field of a letter, whatever letter it is -/
theorem gl_get (k : Nat) (hk : k < 4) (hexec : p.tables.exec = Jvm.exec) (hb : c.code = cc) (hts : ∀ w ∈ Ts, w.before args s = true) (h1 : ∀ w ∈ u_ws RX1 TX1 6, w ∈ Ts) (h3 : ∀ w ∈ u_ws RX3 TX3 6, w ∈ Ts) (h5 : ∀ w ∈ u_ws RX5 TX5 6, w ∈ Ts) (hown : s.vm.findClass own = some m.cls) (hK : va_K D vwCl tys s) (hP : va_P D vwCl (X ++ va_pl L f) H) (hT : ty_ cI cy L t f) (ha : t a = 4 ∨ t a = 5 ∨ t a = 6)
    (hlink : (Cond.fieldLink own index "FurPosts$Letter" (TX3 k).2.1 (TX3 k).2.2.1).before args s = true) (hdg : decode cc pc = .ok (.getfield index, 3)) (kk : ∀ v : Int32, W p l e R s m args below meth c H locs cells slots Q (F0 m (pc + 3) ls (.int v :: rest))) : W p l e R s m args below meth c H locs cells slots Q (F0 m pc ls (.ref a :: rest)) := by
  rcases (show k = 0 ∨ k = 1 ∨ k = 2 ∨ k = 3 by omega) with rfl | rfl | rfl | rfl
  · rcases ha with ha | ha | ha
    · obtain ⟨hm, i, g, hi, he⟩ := at_4 X hT ha
      exact va_get (D := D) (ci := 2) (v := .int (g 0)) (C := RX3) (T := TX3) (N := 6) hexec hb hts h3 hown hK hP i he rfl 0 (by decide) hlink (fun _ h9 => h9) rfl hdg (kk _)
    · obtain ⟨hm, i, g, hi, he⟩ := at_5 X hT ha
      exact va_get (D := D) (ci := 1) (v := .int (g 0)) (C := RX1) (T := TX1) (N := 6) hexec hb hts h1 hown hK hP i he rfl 0 (by decide) hlink (fun _ h9 => h9) rfl hdg (kk _)
    · obtain ⟨hm, i, g, z, hi, he, hz⟩ := at_6 X hT ha
      exact va_get (D := D) (ci := 4) (v := .int (g 0)) (C := RX5) (T := TX5) (N := 6) hexec hb hts h5 hown hK hP i he rfl 0 (by decide) hlink (fun _ h9 => h9) rfl hdg (kk _)
  · rcases ha with ha | ha | ha
    · obtain ⟨hm, i, g, hi, he⟩ := at_4 X hT ha
      exact va_get (D := D) (ci := 2) (v := .int (g 1)) (C := RX3) (T := TX3) (N := 6) hexec hb hts h3 hown hK hP i he rfl 1 (by decide) hlink (fun _ h9 => h9) rfl hdg (kk _)
    · obtain ⟨hm, i, g, hi, he⟩ := at_5 X hT ha
      exact va_get (D := D) (ci := 1) (v := .int (g 1)) (C := RX1) (T := TX1) (N := 6) hexec hb hts h1 hown hK hP i he rfl 1 (by decide) hlink (fun _ h9 => h9) rfl hdg (kk _)
    · obtain ⟨hm, i, g, z, hi, he, hz⟩ := at_6 X hT ha
      exact va_get (D := D) (ci := 4) (v := .int (g 1)) (C := RX5) (T := TX5) (N := 6) hexec hb hts h5 hown hK hP i he rfl 1 (by decide) hlink (fun _ h9 => h9) rfl hdg (kk _)
  · rcases ha with ha | ha | ha
    · obtain ⟨hm, i, g, hi, he⟩ := at_4 X hT ha
      exact va_get (D := D) (ci := 2) (v := .int (g 2)) (C := RX3) (T := TX3) (N := 6) hexec hb hts h3 hown hK hP i he rfl 2 (by decide) hlink (fun _ h9 => h9) rfl hdg (kk _)
    · obtain ⟨hm, i, g, hi, he⟩ := at_5 X hT ha
      exact va_get (D := D) (ci := 1) (v := .int (g 2)) (C := RX1) (T := TX1) (N := 6) hexec hb hts h1 hown hK hP i he rfl 2 (by decide) hlink (fun _ h9 => h9) rfl hdg (kk _)
    · obtain ⟨hm, i, g, z, hi, he, hz⟩ := at_6 X hT ha
      exact va_get (D := D) (ci := 4) (v := .int (g 2)) (C := RX5) (T := TX5) (N := 6) hexec hb hts h5 hown hK hP i he rfl 2 (by decide) hlink (fun _ h9 => h9) rfl hdg (kk _)
  · rcases ha with ha | ha | ha
    · obtain ⟨hm, i, g, hi, he⟩ := at_4 X hT ha
      exact va_get (D := D) (ci := 2) (v := .int (g 3)) (C := RX3) (T := TX3) (N := 6) hexec hb hts h3 hown hK hP i he rfl 3 (by decide) hlink (fun _ h9 => h9) rfl hdg (kk _)
    · obtain ⟨hm, i, g, hi, he⟩ := at_5 X hT ha
      exact va_get (D := D) (ci := 1) (v := .int (g 3)) (C := RX1) (T := TX1) (N := 6) hexec hb hts h1 hown hK hP i he rfl 3 (by decide) hlink (fun _ h9 => h9) rfl hdg (kk _)
    · obtain ⟨hm, i, g, z, hi, he, hz⟩ := at_6 X hT ha
      exact va_get (D := D) (ci := 4) (v := .int (g 3)) (C := RX5) (T := TX5) (N := 6) hexec hb hts h5 hown hK hP i he rfl 3 (by decide) hlink (fun _ h9 => h9) rfl hdg (kk _)

/-- a field of a letter set, whatever letter it is -/
theorem gl_put (k : Nat) (hk : k = 2 ∨ k = 3) (hexec : p.tables.exec = Jvm.exec) (hb : c.code = cc) (hts : ∀ w ∈ Ts, w.before args s = true) (h1 : ∀ w ∈ u_ws RX1 TX1 6, w ∈ Ts) (h3 : ∀ w ∈ u_ws RX3 TX3 6, w ∈ Ts) (h5 : ∀ w ∈ u_ws RX5 TX5 6, w ∈ Ts) (hown : s.vm.findClass own = some m.cls) (hK : va_K D vwCl tys s) (hP : va_P D vwCl (X ++ va_pl L f) H) (hD : va_D A (X ++ va_pl L f)) (hS : va_S A H0 H locs) (hT : ty_ cI cy L t f) (ha : t a = 4 ∨ t a = 5 ∨ t a = 6) {v : Int32}
    (hlink : (Cond.fieldLink own index "FurPosts$Letter" (TX3 k).2.1 (TX3 k).2.2.1).before args s = true) (hdg : decode cc pc = .ok (.putfield index, 3)) (kk : ∀ (f : Nat → va_E) (H1 : Heap) (locs1 : List Loc), va_P D vwCl (X ++ va_pl L f) H1 → va_D A (X ++ va_pl L f) → ty_ cI cy L t f → va_S A H0 H1 locs1 → W p l e R s m args below meth c H1 locs1 cells slots Q (F0 m (pc + 3) ls rest)) : W p l e R s m args below meth c H locs cells slots Q (F0 m pc ls (.int v :: .ref a :: rest)) := by
  rcases hk with rfl | rfl
  · rcases ha with ha | ha | ha
    · obtain ⟨hm, i, g, hi, he⟩ := at_4 X hT ha
      refine va_put (D := D) (ci := 2) (v := .int v) (ty := .int) (C := RX3) (T := TX3) (N := 6) hexec hb hts h3 tyX3 tyX3_ok nmX3 hown hK hP hD hS i he rfl 2 (by decide) hlink (fun _ h9 => h9) rfl (by decide +kernel) rfl rfl (Nat.le_of_ble_eq_true rfl) hdg (fun H1 locs1 hP2 hD2 hS2 => ?_)
      rw [va_pl_set hD hm hi] at hP2 hD2
      exact kk _ H1 locs1 hP2 hD2 (ty_set hT ha ⟨va_up g 2 v, rfl⟩) hS2
    · obtain ⟨hm, i, g, hi, he⟩ := at_5 X hT ha
      refine va_put (D := D) (ci := 1) (v := .int v) (ty := .int) (C := RX1) (T := TX1) (N := 6) hexec hb hts h1 tyX1 tyX1_ok nmX1 hown hK hP hD hS i he rfl 2 (by decide) hlink (fun _ h9 => h9) rfl (by decide +kernel) rfl rfl (Nat.le_of_ble_eq_true rfl) hdg (fun H1 locs1 hP2 hD2 hS2 => ?_)
      rw [va_pl_set hD hm hi] at hP2 hD2
      exact kk _ H1 locs1 hP2 hD2 (ty_set hT ha ⟨va_up g 2 v, rfl⟩) hS2
    · obtain ⟨hm, i, g, z, hi, he, hz⟩ := at_6 X hT ha
      refine va_put (D := D) (ci := 4) (v := .int v) (ty := .int) (C := RX5) (T := TX5) (N := 6) hexec hb hts h5 tyX5 tyX5_ok nmX5 hown hK hP hD hS i he rfl 2 (by decide) hlink (fun _ h9 => h9) rfl (by decide +kernel) rfl rfl (Nat.le_of_ble_eq_true rfl) hdg (fun H1 locs1 hP2 hD2 hS2 => ?_)
      rw [va_pl_set hD hm hi] at hP2 hD2
      exact kk _ H1 locs1 hP2 hD2 (ty_set hT ha ⟨va_up g 2 v, z, rfl, hz⟩) hS2
  · rcases ha with ha | ha | ha
    · obtain ⟨hm, i, g, hi, he⟩ := at_4 X hT ha
      refine va_put (D := D) (ci := 2) (v := .int v) (ty := .int) (C := RX3) (T := TX3) (N := 6) hexec hb hts h3 tyX3 tyX3_ok nmX3 hown hK hP hD hS i he rfl 3 (by decide) hlink (fun _ h9 => h9) rfl (by decide +kernel) rfl rfl (Nat.le_of_ble_eq_true rfl) hdg (fun H1 locs1 hP2 hD2 hS2 => ?_)
      rw [va_pl_set hD hm hi] at hP2 hD2
      exact kk _ H1 locs1 hP2 hD2 (ty_set hT ha ⟨va_up g 3 v, rfl⟩) hS2
    · obtain ⟨hm, i, g, hi, he⟩ := at_5 X hT ha
      refine va_put (D := D) (ci := 1) (v := .int v) (ty := .int) (C := RX1) (T := TX1) (N := 6) hexec hb hts h1 tyX1 tyX1_ok nmX1 hown hK hP hD hS i he rfl 3 (by decide) hlink (fun _ h9 => h9) rfl (by decide +kernel) rfl rfl (Nat.le_of_ble_eq_true rfl) hdg (fun H1 locs1 hP2 hD2 hS2 => ?_)
      rw [va_pl_set hD hm hi] at hP2 hD2
      exact kk _ H1 locs1 hP2 hD2 (ty_set hT ha ⟨va_up g 3 v, rfl⟩) hS2
    · obtain ⟨hm, i, g, z, hi, he, hz⟩ := at_6 X hT ha
      refine va_put (D := D) (ci := 4) (v := .int v) (ty := .int) (C := RX5) (T := TX5) (N := 6) hexec hb hts h5 tyX5 tyX5_ok nmX5 hown hK hP hD hS i he rfl 3 (by decide) hlink (fun _ h9 => h9) rfl (by decide +kernel) rfl rfl (Nat.le_of_ble_eq_true rfl) hdg (fun H1 locs1 hP2 hD2 hS2 => ?_)
      rw [va_pl_set hD hm hi] at hP2 hD2
      exact kk _ H1 locs1 hP2 hD2 (ty_set hT ha ⟨va_up g 3 v, z, rfl, hz⟩) hS2
end GL
