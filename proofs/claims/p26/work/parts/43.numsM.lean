theorem tn_lin {x y k : Int32} {a b m : Nat} (hx : vp_in x a) (hy : vp_in y b) (hk : k = nI m) (h : m * (a - 1) + (b - 1) < 2147483648 ∧ a < 2147483648 ∧ b < 2147483648) : (k * x + y).toNatClampNeg = m * x.toNatClampNeg + y.toNatClampNeg := by
  obtain ⟨i, hi, rfl⟩ := vp_in_of hx (by omega)
  obtain ⟨j, hj, rfl⟩ := vp_in_of hy (by omega)
  have h1 : m * i ≤ m * (a - 1) := Nat.mul_le_mul_left m (by omega)
  rw [hk, pk_mul, nI_add, nI_clamp (by omega), nI_clamp (by omega), nI_clamp (by omega)]
theorem tn_cn {c w : Int32} (hc : vp_in c 120) {lo hi : Int32} (hw : ¬ sp_in w lo hi = 0) {k : Nat} (hlo : lo.toInt = k) (hhi : hi.toInt = k + 5) (hk : k ≤ 1000) : (6 * c + w - lo).toNatClampNeg = 6 * c.toNatClampNeg + (w - lo).toNatClampNeg := by
  obtain ⟨h1, h2⟩ := sp_in_1 hw
  rw [sp_le] at h1 h2
  obtain ⟨i, hi0, rfl⟩ := vp_in_of hc (by decide)
  obtain ⟨j, hj, rfl⟩ := nI_of (x := w) (fun z => by rw [sp_lt, show (0 : Int32).toInt = 0 from rfl] at z; omega)
  rw [nI_toInt (by omega)] at h1 h2
  have el : lo = nI k := Int32.toInt_inj.mp (by rw [hlo, nI_toInt (by omega)])
  rw [el, show (6 : Int32) = nI 6 from rfl, pk_mul, nI_add, pk_sub (by omega), pk_sub (by omega), nI_clamp (by omega), nI_clamp (by omega), nI_clamp (by omega)]
  omega
theorem sp_tn {x b : Int32} {n : Nat} (h : ¬ sp_in x 0 b = 0) (hb : b.toInt = n) : x.toNatClampNeg ≤ n ∧ x = nI x.toNatClampNeg := by
  obtain ⟨h1, h2⟩ := sp_in_1 h
  obtain ⟨j, hj, rfl⟩ := nI_of2 hb (fun z => by rw [sp_lt] at z; rw [sp_le] at h1; omega) h2
  have hn : n < 2147483648 := by have := b.toInt_lt; omega
  rw [nI_clamp (by omega)]
  exact ⟨hj, rfl⟩
theorem nI_nev {k B : Nat} {b : Int32} (h : ¬ nI k = b) (e : b = nI B) : ¬ k = B := fun z => h (by rw [e, z])
theorem nI_linv {k B : Nat} {b : Int32} (h : ¬ b ≤ nI k) (e : b = nI B) (hk : k < 2147483648 ∧ B < 2147483648) : k < B := by
  rw [e] at h
  exact Nat.lt_of_not_le fun z => h (nI_le z (by omega))
theorem nI_linv2 {k B : Nat} {b : Int32} (h : nI k < b) (e : b = nI B) (hk : k < 2147483648 ∧ B < 2147483648) : k < B := by
  rw [e] at h
  exact (nI_ltI (by omega) (by omega)).mp h
theorem rM_isAway_b {n : Nat → Nat} {F : Nat → Nat → Int32} {a1 : Int32} (hN : nb_ n) (h : ¬ rM_isAway n F a1 = 0) : vp_in a1 120 := by
  by_cases h1 : sp_in a1 0 ((nI (n 3)) - 1) = 0
  · exact absurd (show rM_isAway n F a1 = 0 from if_pos h1) h
  · exact sp_vpn h1 (show n 3 ≤ 120 by omega) (by decide)

theorem rM_isDeal_b {n : Nat → Nat} {F : Nat → Nat → Int32} {a1 a2 a3 a4 : Int32} (hN : nb_ n) (h : ¬ rM_isDeal n F a1 a2 a3 a4 = 0) : vp_in a1 8 ∧ vp_in a2 12 ∧ vp_in a3 6 := by
  by_cases h1 : sp_in a1 0 ((nI (n 1)) - 1) = 0
  · exact absurd (show rM_isDeal n F a1 a2 a3 a4 = 0 from if_pos h1) h
  by_cases h2 : sp_in a2 0 11 = 0
  · exact absurd (show rM_isDeal n F a1 a2 a3 a4 = 0 from (if_neg h1).trans (if_pos h2)) h
  by_cases h3 : sp_in a3 0 5 = 0
  · exact absurd (show rM_isDeal n F a1 a2 a3 a4 = 0 from (if_neg h1).trans ((if_neg h2).trans (if_pos h3))) h
  exact ⟨sp_vpn h1 (show n 1 ≤ 8 by omega) (by decide), sp_vp h2 rfl, sp_vp h3 rfl⟩

theorem rM_canWrite_b {n : Nat → Nat} {F : Nat → Nat → Int32} {a1 a2 : Int32} (hN : nb_ n) (h : ¬ rM_canWrite n F a1 a2 = 0) : vp_in a1 8 ∧ vp_in a2 8 ∧ n 4 < 300 := by
  by_cases h1 : sp_in a1 0 ((nI (n 1)) - 1) = 0
  · exact absurd (show rM_canWrite n F a1 a2 = 0 from if_pos h1) h
  by_cases h2 : sp_in a2 0 ((nI (n 1)) - 1) = 0
  · exact absurd (show rM_canWrite n F a1 a2 = 0 from (if_neg h1).trans (if_pos h2)) h
  refine ⟨sp_vpn h1 (show n 1 ≤ 8 by omega) (by decide), sp_vpn h2 (show n 1 ≤ 8 by omega) (by decide), Nat.lt_of_not_le fun z => h ?_⟩
  unfold rM_canWrite
  rw [if_neg h1, if_neg h2]
  by_cases h3 : a1 = a2
  · rw [if_pos h3]
  · rw [if_neg h3, if_pos (show (300 : Int32) ≤ nI (n 4) from nI_le (a := 300) z (by omega))]
