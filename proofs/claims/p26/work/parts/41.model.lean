/-! the reference: its object, its arrays by their slots, what keeps its indices in range -/
abbrev mo_ (q n : Nat → Nat) (dl : Int32) : List Value := [.int (nI (n 0)), .int (nI (n 1)), .ref (q 2), .ref (q 3), .ref (q 4), .int (nI (n 2)), .ref (q 6), .ref (q 7), .ref (q 8), .ref (q 9), .ref (q 10), .ref (q 11), .ref (q 12), .int (nI (n 3)), .ref (q 14), .ref (q 15), .ref (q 16), .ref (q 17), .ref (q 18), .ref (q 19), .ref (q 20), .ref (q 21), .ref (q 22), .ref (q 23), .ref (q 24), .int (nI (n 4)), .ref (q 26), .ref (q 27), .ref (q 28), .ref (q 29), .ref (q 30), .ref (q 31), .ref (q 32), .ref (q 33), .ref (q 34), .int dl, .ref (q 36)]
abbrev mw_ (h0 : Nat) (q n : Nat → Nat) (dl : Int32) (cI cZ : ClassId) (F : Nat → Nat → Int32) : va_W := [(h0, .inr (7, mo_ q n dl)), (q 2, .inl (cI, 48, .inl (F 2))), (q 3, .inl (cI, 48, .inl (F 3))), (q 4, .inl (cI, 96, .inl (F 4))), (q 6, .inl (cI, 12, .inl (F 6))), (q 7, .inl (cI, 12, .inl (F 7))), (q 8, .inl (cI, 12, .inl (F 8))), (q 9, .inl (cI, 12, .inl (F 9))), (q 10, .inl (cI, 12, .inl (F 10))), (q 11, .inl (cI, 12, .inl (F 11))), (q 12, .inl (cI, 6, .inl (F 12))), (q 14, .inl (cI, 120, .inl (F 14))), (q 15, .inl (cI, 120, .inl (F 15))), (q 16, .inl (cI, 120, .inl (F 16))), (q 17, .inl (cI, 120, .inl (F 17))), (q 18, .inl (cI, 120, .inl (F 18))), (q 19, .inl (cI, 120, .inl (F 19))), (q 20, .inl (cI, 120, .inl (F 20))), (q 21, .inl (cI, 120, .inl (F 21))), (q 22, .inl (cI, 720, .inl (F 22))), (q 23, .inl (cI, 720, .inl (F 23))), (q 24, .inl (cZ, 120, .inl (F 24))), (q 26, .inl (cI, 300, .inl (F 26))), (q 27, .inl (cI, 300, .inl (F 27))), (q 28, .inl (cI, 300, .inl (F 28))), (q 29, .inl (cI, 300, .inl (F 29))), (q 30, .inl (cI, 300, .inl (F 30))), (q 31, .inl (cI, 1800, .inl (F 31))), (q 32, .inl (cI, 64, .inl (F 32))), (q 33, .inl (cI, 126, .inl (F 33))), (q 34, .inl (cI, 36, .inl (F 34))), (q 36, .inl (cI, 8, .inl (F 36)))]
abbrev mt_ (cI cZ : ClassId) : List (ClassId × FieldType) := [(cI, .int), (cZ, .boolean)]
/-- a letter's first number, by its kind -/
abbrev lk_ (k o : Int32) : Prop := (k = 0 → vp_in o 6) ∧ (k = 1 → vp_in o 12) ∧ (¬ k = 0 → ¬ k = 1 → vp_in o 8)
abbrev mi_ (n : Nat → Nat) (F : Nat → Nat → Int32) : Prop := (∀ j, vp_in (F 6 j) 8) ∧ (∀ j, vp_in (F 7 j) 8) ∧ (∀ j, vp_in (F 15 j) 8) ∧ (∀ j, vp_in (F 16 j) 12) ∧ (∀ j, vp_in (F 27 j) 8) ∧ (∀ j, F 32 j = -1 ∨ vp_in (F 32 j) 300) ∧ ∀ l, l < n 4 → lk_ (F 26 l) (F 29 l)
theorem up_all {P : Int32 → Prop} {g : Nat → Int32} {i : Nat} {v : Int32} (h : ∀ j, P (g j)) (hv : P v) : ∀ j, P (upd g i v j) := fun j => by
  by_cases e : j = i
  · rw [e, pk_us]; exact hv
  · rw [pk_un e]; exact h j
theorem mi_up6 {n : Nat → Nat} {F : Nat → Nat → Int32} {i : Nat} {v : Int32} (h : mi_ n F) (hv : vp_in v 8) : mi_ n (va_up F 6 (upd (F 6) i v)) := ⟨up_all (P := fun x => vp_in x 8) h.1 hv, h.2⟩
theorem mi_up7 {n : Nat → Nat} {F : Nat → Nat → Int32} {i : Nat} {v : Int32} (h : mi_ n F) (hv : vp_in v 8) : mi_ n (va_up F 7 (upd (F 7) i v)) := ⟨h.1, up_all (P := fun x => vp_in x 8) h.2.1 hv, h.2.2⟩
theorem mi_up15 {n : Nat → Nat} {F : Nat → Nat → Int32} {i : Nat} {v : Int32} (h : mi_ n F) (hv : vp_in v 8) : mi_ n (va_up F 15 (upd (F 15) i v)) := ⟨h.1, h.2.1, up_all (P := fun x => vp_in x 8) h.2.2.1 hv, h.2.2.2⟩
theorem mi_up16 {n : Nat → Nat} {F : Nat → Nat → Int32} {i : Nat} {v : Int32} (h : mi_ n F) (hv : vp_in v 12) : mi_ n (va_up F 16 (upd (F 16) i v)) := ⟨h.1, h.2.1, h.2.2.1, up_all (P := fun x => vp_in x 12) h.2.2.2.1 hv, h.2.2.2.2⟩
theorem mi_up27 {n : Nat → Nat} {F : Nat → Nat → Int32} {i : Nat} {v : Int32} (h : mi_ n F) (hv : vp_in v 8) : mi_ n (va_up F 27 (upd (F 27) i v)) := ⟨h.1, h.2.1, h.2.2.1, h.2.2.2.1, up_all (P := fun x => vp_in x 8) h.2.2.2.2.1 hv, h.2.2.2.2.2⟩
theorem mi_up32 {n : Nat → Nat} {F : Nat → Nat → Int32} {i : Nat} {v : Int32} (h : mi_ n F) (hv : v = -1 ∨ vp_in v 300) : mi_ n (va_up F 32 (upd (F 32) i v)) := ⟨h.1, h.2.1, h.2.2.1, h.2.2.2.1, h.2.2.2.2.1, up_all (P := fun x => x = -1 ∨ vp_in x 300) h.2.2.2.2.2.1 hv, h.2.2.2.2.2.2⟩
theorem mi_up26 {n : Nat → Nat} {F : Nat → Nat → Int32} {i : Nat} {v : Int32} (h : mi_ n F) (hi : n 4 ≤ i) : mi_ n (va_up F 26 (upd (F 26) i v)) := ⟨h.1, h.2.1, h.2.2.1, h.2.2.2.1, h.2.2.2.2.1, h.2.2.2.2.2.1, fun l hl => by
  show lk_ (upd (F 26) i v l) (F 29 l)
  rw [pk_un (by omega)]
  exact h.2.2.2.2.2.2 l hl⟩
theorem mi_up29 {n : Nat → Nat} {F : Nat → Nat → Int32} {i : Nat} {v : Int32} (h : mi_ n F) (hi : n 4 ≤ i) : mi_ n (va_up F 29 (upd (F 29) i v)) := ⟨h.1, h.2.1, h.2.2.1, h.2.2.2.1, h.2.2.2.2.1, h.2.2.2.2.2.1, fun l hl => by
  show lk_ (F 26 l) (upd (F 29) i v l)
  rw [pk_un (by omega)]
  exact h.2.2.2.2.2.2 l hl⟩
theorem vp_lin {x y k : Int32} {a b m N : Nat} (hx : vp_in x a) (hy : vp_in y b) (hk : k = nI m) (h : m * (a - 1) + (b - 1) < N ∧ N < 2147483648 ∧ a < 2147483648 ∧ b < 2147483648) : vp_in (k * x + y) N := by
  obtain ⟨i, hi, rfl⟩ := vp_in_of hx (by omega)
  obtain ⟨j, hj, rfl⟩ := vp_in_of hy (by omega)
  rw [hk, pk_mul, nI_add]
  have h1 : m * i ≤ m * (a - 1) := Nat.mul_le_mul_left m (by omega)
  exact vp_in_nI (by omega) (by omega)
theorem vp_off {y k : Int32} {b m N : Nat} (hy : vp_in y b) (hk : k = nI m) (h : m + (b - 1) < N ∧ N < 2147483648 ∧ b < 2147483648) : vp_in (k + y) N := by
  obtain ⟨j, hj, rfl⟩ := vp_in_of hy (by omega)
  rw [hk, nI_add]
  exact vp_in_nI (by omega) (by omega)
theorem sp_vpn {x : Int32} {k N : Nat} (h : ¬ sp_in x 0 (nI k - 1) = 0) (hk : k ≤ N) (hN : N < 2147483648) : vp_in x N := by
  obtain ⟨h1, h2⟩ := sp_in_1 h
  rw [sp_le, show (0 : Int32).toInt = 0 from rfl] at h1
  cases k with
  | zero =>
    exfalso
    rw [show (nI 0 - 1 : Int32) = -1 from by decide, sp_le, show (-1 : Int32).toInt = -1 from rfl] at h2
    omega
  | succ k =>
    rw [nI_pred, sp_le, nI_toInt (by omega)] at h2
    rw [vp_in_iff]
    omega
theorem vp_le {x : Int32} {a b : Nat} (h : vp_in x a) (hab : a ≤ b) : vp_in x b := by
  rw [vp_in_iff] at h ⊢
  omega
theorem cn_in {c w : Int32} (hc : vp_in c 120) {lo hi : Int32} (hw : ¬ sp_in w lo hi = 0) {k : Nat} (hlo : lo.toInt = k) (hhi : hi.toInt = k + 5) (hk : k ≤ 1000) : vp_in (6 * c + w - lo) 720 := by
  obtain ⟨h1, h2⟩ := sp_in_1 hw
  rw [sp_le] at h1 h2
  obtain ⟨i, hi0, rfl⟩ := vp_in_of hc (by decide)
  obtain ⟨j, hj, rfl⟩ := nI_of (x := w) (fun z => by rw [sp_lt, show (0 : Int32).toInt = 0 from rfl] at z; omega)
  rw [nI_toInt (by omega)] at h1 h2
  have el : lo = nI k := Int32.toInt_inj.mp (by rw [hlo, nI_toInt (by omega)])
  rw [el, show (6 : Int32) = nI 6 from rfl, pk_mul, nI_add, pk_sub (by omega)]
  exact vp_in_nI (by omega) (by decide)
