/-! numbers that stay small and are never below nought: what indent() stands on -/
def pn_ (K : Nat) (x : Int32) : Prop := ∃ v, v ≤ K ∧ x = nI v
theorem pn_mono {K K' : Nat} {x : Int32} (h : pn_ K x) (hK : K ≤ K') : pn_ K' x := by
  obtain ⟨v, hv, e⟩ := h
  exact ⟨v, Nat.le_trans hv hK, e⟩
theorem pn_add {a b : Nat} {x y : Int32} (hx : pn_ a x) (hy : pn_ b y) : pn_ (a + b) (x + y) := by
  obtain ⟨u, hu, rfl⟩ := hx
  obtain ⟨v, hv, rfl⟩ := hy
  exact ⟨u + v, Nat.add_le_add hu hv, nI_add u v⟩
theorem pn_mul {a b : Nat} {x y : Int32} (hx : pn_ a x) (hy : pn_ b y) : pn_ (a * b) (x * y) := by
  obtain ⟨u, hu, rfl⟩ := hx
  obtain ⟨v, hv, rfl⟩ := hy
  exact ⟨u * v, Nat.mul_le_mul hu hv, pk_mul u v⟩
theorem pn_sub {a b : Nat} {x y : Int32} (hx : pn_ a x) (hy : pn_ b y) (ha : a < 2147483648) (hb : b < 2147483648) (h : y ≤ x) : pn_ a (x - y) := by
  obtain ⟨u, hu, rfl⟩ := hx
  obtain ⟨v, hv, rfl⟩ := hy
  have h1 : v ≤ u := (nI_leI (by omega) (by omega)).mp h
  exact ⟨u - v, by omega, pk_sub h1⟩
theorem pn_cut {a b : Nat} {x M : Int32} {m : Nat} (hx : pn_ a x) (ha : a < 2147483648) (hM : M = nI m) (hm : m < 2147483648) (h : x ≤ M) : pn_ m x := by
  obtain ⟨u, hu, rfl⟩ := hx
  rw [hM] at h
  exact ⟨u, (nI_leI (by omega) (by omega)).mp h, rfl⟩
theorem pn_sp {x lo hi : Int32} {a b : Nat} (h : ¬ sp_in x lo hi = 0) (hl : lo.toInt = a) (hh : hi.toInt = b) : pn_ b x := by
  obtain ⟨h1, h2⟩ := sp_in_1 h
  rw [sp_le] at h1
  obtain ⟨j, hj, e⟩ := nI_of2 (x := x) hh (fun z => by rw [sp_lt, show (0 : Int32).toInt = 0 from rfl] at z; omega) h2
  exact ⟨j, hj, e⟩
theorem pn_up {K : Nat} {g : Nat → Int32} {i : Nat} {v : Int32} (h : ∀ x, pn_ K (g x)) (hv : pn_ K v) : ∀ x, pn_ K (upd g i v x) := fun x => by
  by_cases e : x = i
  · rw [e, pk_us]; exact hv
  · rw [pk_un e]; exact h x
theorem pn_ne {K : Nat} {x : Int32} (h : pn_ K x) (hK : K < 2147483648) : ¬ x = -1 := by
  obtain ⟨v, hv, rfl⟩ := h
  intro z
  have := congrArg Int32.toInt z
  rw [nI_toInt (by omega), show (-1 : Int32).toInt = -1 from rfl] at this
  omega
def nm_ (K : Nat) (F : Nat → Nat → Int32) : Prop := (∀ x, pn_ K (F 2 x)) ∧ (∀ x, pn_ 500 (F 12 x)) ∧ (∀ x, pn_ 500 (F 22 x)) ∧ ∀ x, pn_ 1000 (F 33 x)
theorem nm_mono {K K' : Nat} {F : Nat → Nat → Int32} (h : nm_ K F) (hK : K ≤ K') : nm_ K' F := ⟨fun x => pn_mono (h.1 x) hK, h.2⟩
theorem nm_ext {K : Nat} {F F' : Nat → Nat → Int32} (h : nm_ K F) (h2 : F' 2 = F 2) (h12 : F' 12 = F 12) (h22 : F' 22 = F 22) (h33 : F' 33 = F 33) : nm_ K F' := by
  unfold nm_
  rw [h2, h12, h22, h33]
  exact h
theorem nm_o {K : Nat} {F : Nat → Nat → Int32} (h : nm_ K F) (s i : Nat) (v : Int32) (h2 : 2 ≠ s) (h12 : 12 ≠ s) (h22 : 22 ≠ s) (h33 : 33 ≠ s) : nm_ K (up2 F s i v) := nm_ext h (up2_ns F i v h2) (up2_ns F i v h12) (up2_ns F i v h22) (up2_ns F i v h33)
theorem up2_at (F : Nat → Nat → Int32) (s i : Nat) (v : Int32) : up2 F s i v s = upd (F s) i v := by
  unfold up2
  rw [va_up_self]
theorem nm_2 {K : Nat} {F : Nat → Nat → Int32} (h : nm_ K F) (i : Nat) {v : Int32} (hv : pn_ K v) : nm_ K (up2 F 2 i v) := by
  unfold nm_
  rw [up2_at, up2_ns F i v (show 12 ≠ 2 by decide), up2_ns F i v (show 22 ≠ 2 by decide), up2_ns F i v (show 33 ≠ 2 by decide)]
  exact ⟨pn_up h.1 hv, h.2⟩
theorem nm_12 {K : Nat} {F : Nat → Nat → Int32} (h : nm_ K F) (i : Nat) {v : Int32} (hv : pn_ 500 v) : nm_ K (up2 F 12 i v) := by
  unfold nm_
  rw [up2_at, up2_ns F i v (show 2 ≠ 12 by decide), up2_ns F i v (show 22 ≠ 12 by decide), up2_ns F i v (show 33 ≠ 12 by decide)]
  exact ⟨h.1, pn_up h.2.1 hv, h.2.2⟩
theorem nm_22 {K : Nat} {F : Nat → Nat → Int32} (h : nm_ K F) (i : Nat) {v : Int32} (hv : pn_ 500 v) : nm_ K (up2 F 22 i v) := by
  unfold nm_
  rw [up2_at, up2_ns F i v (show 2 ≠ 22 by decide), up2_ns F i v (show 12 ≠ 22 by decide), up2_ns F i v (show 33 ≠ 22 by decide)]
  exact ⟨h.1, h.2.1, pn_up h.2.2.1 hv, h.2.2.2⟩
theorem nm_33 {K : Nat} {F : Nat → Nat → Int32} (h : nm_ K F) (i : Nat) {v : Int32} (hv : pn_ 1000 v) : nm_ K (up2 F 33 i v) := by
  unfold nm_
  rw [up2_at, up2_ns F i v (show 2 ≠ 33 by decide), up2_ns F i v (show 12 ≠ 33 by decide), up2_ns F i v (show 22 ≠ 33 by decide)]
  exact ⟨h.1, h.2.1, h.2.2.1, pn_up h.2.2.2 hv⟩
theorem pn_0 {K : Nat} : pn_ K 0 := ⟨0, Nat.zero_le K, rfl⟩
theorem nm_sums {K : Nat} {n : Nat → Nat} {F : Nat → Nat → Int32} (h : nm_ K F) (a b c : Int32) : nm_ K (rM_sums n F a b c) := nm_o h 34 _ _ (by decide) (by decide) (by decide) (by decide)
abbrev ky_ (n : Nat → Nat) : Nat := 100000 + 360000 * n 0
def nu_ (n : Nat → Nat) (F : Nat → Nat → Int32) : Prop := nm_ (ky_ n) F
theorem ky_lt {n : Nat → Nat} (hN : nb_ n) : ky_ n < 2000000000 := by
  have := hN.1
  unfold ky_
  omega
theorem deal_n {n : Nat → Nat} {F : Nat → Nat → Int32} {a1 a2 a3 a4 : Int32} (h : ¬ rM_isDeal n F a1 a2 a3 a4 = 0) : pn_ 1000 a4 := by
  unfold rM_isDeal at h
  by_cases h1 : sp_in a1 0 ((nI (n 1)) - 1) = 0
  · rw [if_pos h1] at h; exact absurd rfl h
  rw [if_neg h1] at h
  by_cases h2 : sp_in a2 0 11 = 0
  · rw [if_pos h2] at h; exact absurd rfl h
  rw [if_neg h2] at h
  by_cases h3 : sp_in a3 0 5 = 0
  · rw [if_pos h3] at h; exact absurd rfl h
  rw [if_neg h3] at h
  by_cases h4 : sp_in a4 1 1000 = 0
  · rw [if_pos h4] at h; exact absurd rfl h
  exact pn_sp (a := 1) (b := 1000) h4 rfl rfl
theorem v_store {n : Nat → Nat} {F : Nat → Nat → Int32} (h : nu_ n F) (hN : nb_ n) (a1 a2 a3 : Int32) : nu_ n (rM_store n F a1 a2 a3).2 := by
  have hk := ky_lt hN
  unfold rM_store
  by_cases h1 : sp_in a1 0 ((nI (n 1)) - 1) = 0
  · rw [if_pos h1]; exact h
  rw [if_neg h1]
  by_cases h2 : sp_in a2 0 5 = 0
  · rw [if_pos h2]; exact h
  rw [if_neg h2]
  by_cases h3 : sp_in a3 1 10000 = 0
  · rw [if_pos h3]; exact h
  rw [if_neg h3]
  by_cases h4 : (rM_stored n F a1 a2) + a3 ≤ 100000
  · rw [if_pos h4]
    have hs := pn_add (h.1 (6 * a1.toNatClampNeg + a2.toNatClampNeg)) (pn_sp (a := 1) (b := 10000) h3 rfl rfl)
    exact nm_sums (n := n) (nm_2 h _ (pn_mono (pn_cut (b := 0) (m := 100000) hs (by omega) rfl (by decide) h4) (by unfold ky_; omega))) _ _ _
  · rw [if_neg h4]; exact h
theorem v_spoil {n : Nat → Nat} {F : Nat → Nat → Int32} (h : nu_ n F) (hN : nb_ n) (a1 a2 a3 : Int32) : nu_ n (rM_spoil n F a1 a2 a3).2 := by
  unfold rM_spoil
  by_cases h1 : rM_isAway n F a1 = 0
  · rw [if_pos h1]; exact h
  rw [if_neg h1]
  by_cases h2 : sp_in a2 0 5 = 0
  · rw [if_pos h2]; exact h
  rw [if_neg h2]
  by_cases h3 : sp_in a3 1 (F 22 (6 * a1.toNatClampNeg + a2.toNatClampNeg)) = 0
  · rw [if_pos h3]; exact h
  rw [if_neg h3]
  have h22 := h.2.2.1 (6 * a1.toNatClampNeg + a2.toNatClampNeg)
  obtain ⟨v, hv, e⟩ := id h22
  have ha3 : pn_ v a3 := pn_sp (a := 1) (b := v) h3 rfl (by rw [e, nI_toInt (by omega)])
  exact nm_sums (n := n) (nm_22 h _ (pn_sub h22 ha3 (by decide) (by omega) (sp_in_1 h3).2)) _ _ _
theorem v_sell {n : Nat → Nat} {F : Nat → Nat → Int32} (h : nu_ n F) (hN : nb_ n) (a1 a2 a3 a4 : Int32) : nu_ n (rM_sell n F a1 a2 a3 a4).2 := by
  have hk := ky_lt hN
  unfold rM_sell
  by_cases h1 : rM_isDeal n F a1 a2 a3 a4 = 0
  · rw [if_pos h1]; exact h
  rw [if_neg h1]
  by_cases h2 : a4 ≤ rM_stored n F a1 a3
  · rw [if_pos h2]
    by_cases h3 : ((F 4 (12 * a1.toNatClampNeg + a2.toNatClampNeg)) + (a4 * (F 3 (6 * a1.toNatClampNeg + a3.toNatClampNeg)))) ≤ 100000
    · rw [if_pos h3]
      have h4 := nm_o h 4 (12 * a1.toNatClampNeg + a2.toNatClampNeg) ((F 4 (12 * a1.toNatClampNeg + a2.toNatClampNeg)) + (a4 * (F 3 (6 * a1.toNatClampNeg + a3.toNatClampNeg)))) (by decide) (by decide) (by decide) (by decide)
      exact nm_sums (n := n) (nm_2 h4 _ (pn_sub (h.1 _) (deal_n h1) (by omega) (by decide) h2)) _ _ _
    · rw [if_neg h3]; exact h
  · rw [if_neg h2]; exact h
theorem v_buy {n : Nat → Nat} {F : Nat → Nat → Int32} (h : nu_ n F) (hN : nb_ n) (a1 a2 a3 a4 : Int32) : nu_ n (rM_buy n F a1 a2 a3 a4).2 := by
  have hk := ky_lt hN
  unfold rM_buy
  by_cases h1 : rM_isDeal n F a1 a2 a3 a4 = 0
  · rw [if_pos h1]; exact h
  rw [if_neg h1]
  by_cases h2 : (rM_stored n F a1 a3) + a4 ≤ 100000
  · rw [if_pos h2]
    by_cases h3 : (-100000) ≤ ((F 4 (12 * a1.toNatClampNeg + a2.toNatClampNeg)) - (a4 * (F 3 (6 * a1.toNatClampNeg + a3.toNatClampNeg))))
    · rw [if_pos h3]
      have h4 := nm_o h 4 (12 * a1.toNatClampNeg + a2.toNatClampNeg) ((F 4 (12 * a1.toNatClampNeg + a2.toNatClampNeg)) - (a4 * (F 3 (6 * a1.toNatClampNeg + a3.toNatClampNeg)))) (by decide) (by decide) (by decide) (by decide)
      exact nm_sums (n := n) (nm_2 h4 _ (pn_mono (pn_cut (b := 0) (m := 100000) (pn_add (h.1 _) (deal_n h1)) (by omega) rfl (by decide) h2) (by unfold ky_; omega))) _ _ _
    · rw [if_neg h3]; exact h
  · rw [if_neg h2]; exact h
theorem v_give {n : Nat → Nat} {F : Nat → Nat → Int32} (h : nu_ n F) (hN : nb_ n) (a1 a2 a3 a4 : Int32) : nu_ n (rM_give n F a1 a2 a3 a4).2 := by
  have hk := ky_lt hN
  unfold rM_give
  by_cases h1 : rM_isDeal n F a1 a2 a3 a4 = 0
  · rw [if_pos h1]; exact h
  rw [if_neg h1]
  by_cases h2 : a4 ≤ rM_stored n F a1 a3
  · rw [if_pos h2]
    exact nm_sums (n := n) (nm_2 h _ (pn_sub (h.1 _) (deal_n h1) (by omega) (by decide) h2)) _ _ _
  · rw [if_neg h2]; exact h
theorem v_load {n : Nat → Nat} {F : Nat → Nat → Int32} (h : nu_ n F) (hN : nb_ n) (a1 a2 : Int32) : nu_ n (rM_load n F a1 a2).2 := by
  unfold rM_load
  by_cases h1 : sp_in a1 0 5 = 0
  · rw [if_pos h1]; exact h
  rw [if_neg h1]
  by_cases h2 : sp_in a2 0 500 = 0
  · rw [if_pos h2]; exact h
  rw [if_neg h2]
  exact nm_12 h _ (pn_sp (a := 0) (b := 500) h2 rfl rfl)
theorem v_want {n : Nat → Nat} {F : Nat → Nat → Int32} (h : nu_ n F) (hN : nb_ n) (a1 a2 a3 : Int32) : nu_ n (rM_want n F a1 a2 a3).2 := by
  unfold rM_want
  by_cases h1 : sp_in a1 0 5 = 0
  · rw [if_pos h1]; exact h
  rw [if_neg h1]
  by_cases h2 : sp_in a2 0 20 = 0
  · rw [if_pos h2]; exact h
  rw [if_neg h2]
  by_cases h3 : sp_in a3 0 1000 = 0
  · rw [if_pos h3]; exact h
  rw [if_neg h3]
  exact nm_33 h _ (pn_sp (a := 0) (b := 1000) h3 rfl rfl)
theorem v_loseL {K : Nat} {n : Nat → Nat} {a1 : Int32} : ∀ (k j : Nat) (F : Nat → Nat → Int32) (x : Int32), nm_ K F → nm_ K (rM_lose_L14 n a1 k j F x).1
  | 0, _, _, _, h => h
  | k + 1, j, F, x, h => by
    rw [rM_lose_L14]
    exact v_loseL k (j + 1) _ _ (nm_22 (nm_sums h _ _ _) _ pn_0)
theorem v_loseLL {K : Nat} {a1 : Int32} : ∀ (k j : Nat) (F : Nat → Nat → Int32), nm_ K F → nm_ K (rM_lose_L71 a1 k j F)
  | 0, _, _, h => h
  | k + 1, j, F, h => by
    have h28 := nm_o h 28 j 1001 (by decide) (by decide) (by decide) (by decide)
    rw [rM_lose_L71]
    split
    · split
      · exact v_loseLL k (j + 1) _ (nm_o h28 44 _ _ (by decide) (by decide) (by decide) (by decide))
      · exact v_loseLL k (j + 1) _ h28
    · exact v_loseLL k (j + 1) _ h
theorem v_lose {n : Nat → Nat} {F : Nat → Nat → Int32} (h : nu_ n F) (hN : nb_ n) (a1 : Int32) : nu_ n (rM_lose n F a1).2 := by
  unfold rM_lose
  by_cases h1 : rM_isAway n F a1 = 0
  · rw [if_pos h1]; exact h
  rw [if_neg h1]
  exact nm_o (v_loseLL _ _ _ (v_loseL 6 0 F 0 h)) 18 _ _ (by decide) (by decide) (by decide) (by decide)
theorem next_o {n : Nat → Nat} {F : Nat → Nat → Int32} {a1 a2 : Int32} {s : Nat} (hs : ¬ s = 36) : (rM_next n F a1 a2).2 s = F s := by
  unfold rM_next
  split
  · rfl
  · split
    · rfl
    · split
      · rfl
      · show rM_next_L56 n 8 0 (rM_next_L25 a2 8 0 F) s = F s
        rw [L56_o _ _ _ s hs, L25_o _ _ _ s hs]
theorem nm_next {K : Nat} {n : Nat → Nat} {F : Nat → Nat → Int32} (h : nm_ K F) (a1 a2 : Int32) : nm_ K (rM_next n F a1 a2).2 := nm_ext h (next_o (by decide)) (next_o (by decide)) (next_o (by decide)) (next_o (by decide))
theorem v_next {n : Nat → Nat} {F : Nat → Nat → Int32} (h : nu_ n F) (hN : nb_ n) (a1 a2 : Int32) : nu_ n (rM_next n F a1 a2).2 := nm_next h a1 a2
theorem nm_reads {K : Nat} {n : Nat → Nat} {F : Nat → Nat → Int32} (h : nm_ K F) (a1 : Int32) : nm_ K (rM_reads n F a1) := nm_ext h (rd_o (by decide) (by decide) (by decide) (by decide)) (rd_o (by decide) (by decide) (by decide) (by decide)) (rd_o (by decide) (by decide) (by decide) (by decide)) (rd_o (by decide) (by decide) (by decide) (by decide))
theorem nm_comesL {a1 : Int32} : ∀ (k j K : Nat) (F : Nat → Nat → Int32), nm_ K F → nm_ (K + 500 * k) (rM_comes_L19 a1 k j F)
  | 0, _, _, _, h => h
  | k + 1, j, K, F, h => by
    have hm := nm_mono h (Nat.le_add_right K 500)
    have e : K + 500 * (k + 1) = (K + 500) + 500 * k := by omega
    rw [e, rM_comes_L19]
    split
    · exact nm_comesL k (j + 1) _ _ (nm_22 (nm_2 hm _ (pn_add (h.1 _) (h.2.2.1 _))) _ pn_0)
    · have h24 := nm_o h 24 a1.toNatClampNeg 1 (by decide) (by decide) (by decide) (by decide)
      exact nm_comesL k (j + 1) _ _ (nm_22 (nm_2 (nm_mono h24 (Nat.le_add_right K 500)) _ (pn_add (h24.1 _) (h24.2.2.1 _))) _ pn_0)
theorem nm_comesLL {K : Nat} {a1 : Int32} {n : Nat → Nat} : ∀ (k j : Nat) (F : Nat → Nat → Int32), nm_ K F → nm_ K (rM_comes_L94 a1 n k j F)
  | 0, _, _, h => h
  | k + 1, j, F, h => by
    rw [rM_comes_L94]
    split
    · split
      · exact nm_comesLL k (j + 1) _ (nm_reads h _)
      · exact nm_comesLL k (j + 1) _ (nm_o h 28 _ _ (by decide) (by decide) (by decide) (by decide))
    · exact nm_comesLL k (j + 1) _ h
theorem nm_comes {K : Nat} {n : Nat → Nat} {F : Nat → Nat → Int32} (h : nm_ K F) (a1 : Int32) : nm_ (K + 3000) (rM_comes n F a1) := by
  unfold rM_comes
  exact nm_comesLL _ _ _ (nm_comesL 6 0 K _ (nm_o (nm_o h 18 _ _ (by decide) (by decide) (by decide) (by decide)) 20 _ _ (by decide) (by decide) (by decide) (by decide)))
theorem nm_day {n : Nat → Nat} : ∀ (k j K : Nat) (F : Nat → Nat → Int32), nm_ K F → nm_ (K + 3000 * k) (rM_go_L32 n k j F)
  | 0, _, _, _, h => h
  | k + 1, j, K, F, h => by
    have hm := nm_mono h (Nat.le_add_right K 3000)
    have e : K + 3000 * (k + 1) = (K + 3000) + 3000 * k := by omega
    have h17 := nm_o h 17 j (F 17 j - 1) (by decide) (by decide) (by decide) (by decide)
    rw [e, rM_go_L32]
    split
    · split
      · exact nm_day k (j + 1) _ _ hm
      · split
        · exact nm_day k (j + 1) _ _ (nm_comes h17 _)
        · exact nm_day k (j + 1) _ _ (nm_mono h17 (Nat.le_add_right K 3000))
    · exact nm_day k (j + 1) _ _ hm
theorem v_days : ∀ (k j : Nat) (n : Nat → Nat) (F : Nat → Nat → Int32), nb_ n → nu_ n F → nu_ (rM_go_L15 k j n F).2.1 (rM_go_L15 k j n F).2.2
  | 0, _, _, _, _, h => h
  | k + 1, j, n, F, hN, h => by
    rw [rM_go_L15]
    by_cases e : 3000 ≤ nI (n 0)
    · rw [if_pos e]; exact h
    · rw [if_neg e]
      have h0 : n 0 < 3000 := Nat.lt_of_not_le fun z => e (show nI 3000 ≤ nI (n 0) from (nI_leI (by decide) (by have := hN.1; omega)).mpr z)
      refine v_days k (j + 1) _ _ ⟨h0, hN.2⟩ (nm_mono (nm_day (n 3) 0 _ F h) ?_)
      have h3 := hN.2.2.2.1
      show 100000 + 360000 * n 0 + 3000 * n 3 ≤ 100000 + 360000 * (n 0 + 1)
      omega
theorem v_go {n : Nat → Nat} {F : Nat → Nat → Int32} (h : nu_ n F) (hN : nb_ n) (a1 : Int32) : nu_ (rM_go n F a1).2.1 (rM_go n F a1).2.2 := by
  unfold rM_go
  by_cases h1 : sp_in a1 0 400 = 0
  · rw [if_pos h1]; exact h
  rw [if_neg h1]
  exact v_days _ _ n F hN h
theorem nm_writes {K : Nat} {n : Nat → Nat} {F : Nat → Nat → Int32} (h : nm_ K F) (a1 a2 a3 a4 a5 : Int32) : nm_ K (rM_writes n F a1 a2 a3 a4 a5).2.2 :=
  nm_o (nm_o (nm_o (nm_o (nm_o h 26 _ _ (by decide) (by decide) (by decide) (by decide)) 28 _ _ (by decide) (by decide) (by decide) (by decide)) 27 _ _ (by decide) (by decide) (by decide) (by decide)) 29 _ _ (by decide) (by decide) (by decide) (by decide)) 30 _ _ (by decide) (by decide) (by decide) (by decide)
theorem v_order {n : Nat → Nat} {F : Nat → Nat → Int32} (h : nu_ n F) (hN : nb_ n) (a1 a2 a3 a4 : Int32) : nu_ (rM_order n F a1 a2 a3 a4).2.1 (rM_order n F a1 a2 a3 a4).2.2 := by
  unfold rM_order
  by_cases h1 : rM_canWrite n F a1 a2 = 0
  · rw [if_pos h1]; exact h
  rw [if_neg h1]
  by_cases h2 : sp_in a3 0 5 = 0
  · rw [if_pos h2]; exact h
  rw [if_neg h2]
  by_cases h3 : sp_in a4 1 100 = 0
  · rw [if_pos h3]; exact h
  rw [if_neg h3]
  exact nm_writes (K := ky_ n) h _ _ _ _ _
theorem v_debt {n : Nat → Nat} {F : Nat → Nat → Int32} (h : nu_ n F) (hN : nb_ n) (a1 a2 a3 : Int32) : nu_ (rM_debt n F a1 a2 a3).2.1 (rM_debt n F a1 a2 a3).2.2 := by
  unfold rM_debt
  by_cases h1 : rM_canWrite n F a1 a2 = 0
  · rw [if_pos h1]; exact h
  rw [if_neg h1]
  by_cases h2 : sp_in a3 0 11 = 0
  · rw [if_pos h2]; exact h
  rw [if_neg h2]
  by_cases h3 : rM_owes n F a1 a3 = 0
  · rw [if_pos h3]; exact h
  rw [if_neg h3]
  exact nm_o (nm_writes (K := ky_ n) h 1 a1 a2 a3 (rM_owes n F a1 a3)) 4 _ _ (by decide) (by decide) (by decide) (by decide)
theorem nm_repL {K : Nat} {n : Nat → Nat} {F : Nat → Nat → Int32} {a1 a2 : Int32} : ∀ (k j : Nat) (Y : Nat → Nat → Int32), nm_ K Y → nm_ K (rM_report_L27 n F a1 a2 k j Y)
  | 0, _, _, h => h
  | k + 1, j, Y, h => by
    rw [rM_report_L27]
    exact nm_repL k (j + 1) _ (nm_o h 31 _ _ (by decide) (by decide) (by decide) (by decide))
theorem v_report {n : Nat → Nat} {F : Nat → Nat → Int32} (h : nu_ n F) (hN : nb_ n) (a1 a2 : Int32) : nu_ (rM_report n F a1 a2).2.1 (rM_report n F a1 a2).2.2 := by
  unfold rM_report
  by_cases h1 : rM_canWrite n F a1 a2 = 0
  · rw [if_pos h1]; exact h
  rw [if_neg h1]
  exact nm_repL (K := ky_ n) 6 0 _ (nm_writes h 2 a1 a2 a1 (nI (n 0)))
theorem v_post {n : Nat → Nat} {F : Nat → Nat → Int32} (h : nu_ n F) (hN : nb_ n) : nu_ (rM_post n F).2.1 (rM_post n F).2.2 := by
  unfold rM_post
  by_cases h1 : nI (n 1) = 8
  · rw [if_pos h1]; exact h
  rw [if_neg h1]
  exact h
theorem v_way {n : Nat → Nat} {F : Nat → Nat → Int32} (h : nu_ n F) (hN : nb_ n) (a1 a2 a3 a4 : Int32) : nu_ (rM_way n F a1 a2 a3 a4).2.1 (rM_way n F a1 a2 a3 a4).2.2 := by
  by_cases hw : wyM_ n F a1 a2 a3 a4
  · rw [wyM_yes hw]
    exact nm_ext (K := ky_ n) h rfl rfl rfl rfl
  · rw [wyM_no hw]
    exact h
theorem nm_sendL {K : Nat} {n : Nat → Nat} {a1 : Int32} (hK : K < 2147483648) : ∀ (k j : Nat) (F : Nat → Nat → Int32), j + k = 6 → nm_ K F → (∀ w, j ≤ w → w < 6 → F 12 w ≤ F 2 (6 * a1.toNatClampNeg + w)) → nm_ K (rM_send_L223 a1 n k j F)
  | 0, _, _, _, h, _ => h
  | k + 1, j, F, hj, h, hle => by
    rw [rM_send_L223]
    refine nm_sendL hK k (j + 1) _ (by omega) ?_ (fun w hw hw6 => ?_)
    · have h1 := nm_2 h (6 * a1.toNatClampNeg + j) (pn_sub (h.1 (6 * a1.toNatClampNeg + j)) (h.2.1 j) hK (by decide) (hle j (Nat.le_refl _) (by omega)))
      have h2 := nm_22 h1 (6 * n 3 + j) (h1.2.1 j)
      have h3 := nm_o h2 23 (6 * n 3 + j) ((up2 (up2 F 2 (6 * a1.toNatClampNeg + j) ((F 2 (6 * a1.toNatClampNeg + j)) - (F 12 j))) 22 (6 * (n 3) + j) ((up2 F 2 (6 * a1.toNatClampNeg + j) ((F 2 (6 * a1.toNatClampNeg + j)) - (F 12 j))) 12 j)) 12 j) (by decide) (by decide) (by decide) (by decide)
      exact nm_12 h3 j pn_0
    · have e12 : ∀ (X : Nat → Nat → Int32), up2 X 12 j 0 12 w = X 12 w := fun X => up2_nk X 12 0 (show w ≠ j by omega)
      rw [e12]
      show F 12 w ≤ up2 F 2 (6 * a1.toNatClampNeg + j) ((F 2 (6 * a1.toNatClampNeg + j)) - (F 12 j)) 2 (6 * a1.toNatClampNeg + w)
      rw [up2_nk F 2 _ (show 6 * a1.toNatClampNeg + w ≠ 6 * a1.toNatClampNeg + j by omega)]
      exact hle w (by omega) hw6
theorem nm_sendLL {K : Nat} {n : Nat → Nat} {a1 : Int32} : ∀ (k j : Nat) (F : Nat → Nat → Int32), nm_ K F → nm_ K (rM_send_L309 a1 n k j F)
  | 0, _, _, h => h
  | k + 1, j, F, h => by
    have hx := nm_next (n := n) h a1 (F 27 j)
    rw [rM_send_L309]
    split
    · split
      · exact nm_sendLL k (j + 1) _ (nm_o (nm_o hx 28 _ _ (by decide) (by decide) (by decide) (by decide)) 21 _ _ (by decide) (by decide) (by decide) (by decide))
      · exact nm_sendLL k (j + 1) _ hx
    · exact nm_sendLL k (j + 1) _ h
theorem v_sendL {n : Nat → Nat} {a1 a2 : Int32} (hN : nb_ n) : ∀ (k j : Nat) (F : Nat → Nat → Int32) (x : Int32), j + k = 6 → nu_ n F → (∀ w, w < j → F 12 w ≤ F 2 (6 * a1.toNatClampNeg + w)) → nu_ (rM_send_L49 n a2 a1 k j F x).2.1 (rM_send_L49 n a2 a1 k j F x).2.2
  | 0, j, F, x, hj, h, hle => by
    have hk := ky_lt hN
    rw [rM_send_L49]
    by_cases h1 : rM_isOpen n F a2 (nI (n 0)) = 0
    · rw [if_pos h1]; exact h
    rw [if_neg h1]
    by_cases h2 : F 11 a2.toNatClampNeg < x
    · rw [if_pos h2]; exact h
    rw [if_neg h2]
    by_cases h3 : nI (n 3) = 120
    · rw [if_pos h3]; exact h
    rw [if_neg h3]
    by_cases h4 : nI (n 0) = 3000
    · rw [if_pos h4]; exact h
    rw [if_neg h4]
    have h5 := nm_o (nm_o (nm_o (nm_o (nm_o (nm_o (K := ky_ n) h 14 (n 3) a1 (by decide) (by decide) (by decide) (by decide)) 15 (n 3) (if ((up2 F 14 (n 3) a1) 6 (a2.toNatClampNeg)) = a1 then ((up2 F 14 (n 3) a1) 7 (a2.toNatClampNeg)) else ((up2 F 14 (n 3) a1) 6 (a2.toNatClampNeg))) (by decide) (by decide) (by decide) (by decide)) 16 (n 3) a2 (by decide) (by decide) (by decide) (by decide)) 17 (n 3) ((up2 (up2 (up2 F 14 (n 3) a1) 15 (n 3) (if ((up2 F 14 (n 3) a1) 6 (a2.toNatClampNeg)) = a1 then ((up2 F 14 (n 3) a1) 7 (a2.toNatClampNeg)) else ((up2 F 14 (n 3) a1) 6 (a2.toNatClampNeg)))) 16 (n 3) a2) 8 (a2.toNatClampNeg)) (by decide) (by decide) (by decide) (by decide)) 19 (n 3) (nI (n 0)) (by decide) (by decide) (by decide) (by decide)) 20 (n 3) (-1) (by decide) (by decide) (by decide) (by decide)
    exact nm_sendLL (K := ky_ n) _ _ _ (nm_sendL (by omega) 6 0 _ (by omega) h5 (fun w _ hw => hle w (by omega)))
  | k + 1, j, F, x, hj, h, hle => by
    rw [rM_send_L49]
    by_cases e : (F 12 j) ≤ (rM_stored n F a1 (nI j))
    · rw [if_pos e]
      refine v_sendL hN k (j + 1) F _ (by omega) h (fun w hw => ?_)
      by_cases ew : w = j
      · have e2 : F 12 j ≤ F 2 (6 * a1.toNatClampNeg + (nI j).toNatClampNeg) := e
        rw [nI_clamp (by omega)] at e2
        rw [ew]
        exact e2
      · exact hle w (by omega)
    · rw [if_neg e]; exact h
theorem v_send {n : Nat → Nat} {F : Nat → Nat → Int32} (h : nu_ n F) (hN : nb_ n) (a1 a2 : Int32) : nu_ (rM_send n F a1 a2).2.1 (rM_send n F a1 a2).2.2 := by
  unfold rM_send
  have hM : nu_ (rM_send_M44 n a2 a1 F).2.1 (rM_send_M44 n a2 a1 F).2.2 := v_sendL hN 6 0 F 0 (by omega) h (fun w hw => absurd hw (Nat.not_lt_zero w))
  by_cases h1 : sp_in a1 0 ((nI (n 1)) - 1) = 0
  · rw [if_pos h1]; exact h
  rw [if_neg h1]
  by_cases h2 : sp_in a2 0 ((nI (n 2)) - 1) = 0
  · rw [if_pos h2]; exact h
  rw [if_neg h2]
  by_cases h3 : F 6 a2.toNatClampNeg = a1
  · rw [if_pos h3]; exact hM
  rw [if_neg h3]
  by_cases h4 : F 7 a2.toNatClampNeg = a1
  · rw [if_pos h4]; exact hM
  rw [if_neg h4]; exact h
theorem nu_0 : nu_ (fun _ => 0) f0_ := ⟨fun _ => pn_0, fun _ => pn_0, fun _ => pn_0, fun _ => pn_0⟩
/-! the cost of an indent is a number from nought on -/
theorem cost_n {n : Nat → Nat} {F : Nat → Nat → Int32} {K : Nat} (h : nm_ K F) (hK : K < 2147483648) {a1 a2 a3 a4 a5 : Int32} (h3 : pn_ 100 a3) (h4 : pn_ 100 a4) (h5 : pn_ 20 a5) : ∀ (k j M : Nat) (x : Int32), j + k = 21 → pn_ M x → pn_ (M + 102000000 * k) (rM_cost_L130 n F a1 a2 a5 a4 a3 k j x)
  | 0, _, _, _, _, hx => hx
  | k + 1, j, M, x, hj, hx => by
    have hB : pn_ 1020 ((if (rM_stored n F a1 a2) ≤ 1000 then (rM_stored n F a1 a2) else 1000) + a5) := by
      refine pn_add (a := 1000) (b := 20) ?_ h5
      by_cases e : rM_stored n F a1 a2 ≤ 1000
      · rw [if_pos e]
        exact pn_cut (b := 0) (m := 1000) (h.1 _) hK rfl (by decide) e
      · rw [if_neg e]
        exact ⟨1000, Nat.le_refl _, rfl⟩
    have hj' : pn_ 1020 (nI j) := ⟨j, by omega, rfl⟩
    have e : M + 102000000 * (k + 1) = (M + 102000000) + 102000000 * k := by omega
    rw [e]
    show pn_ _ (rM_cost_L130 n F a1 a2 a5 a4 a3 k (j + 1) (x + _))
    refine cost_n h hK h3 h4 h5 k (j + 1) _ _ (by omega) (pn_add hx ?_)
    generalize ((if (rM_stored n F a1 a2) ≤ 1000 then (rM_stored n F a1 a2) else 1000) + a5) = B at hB ⊢
    by_cases c : nI j ≤ B
    · rw [if_pos c]
      exact pn_mul (a := 100000) (b := 1020) (pn_mul (a := 1000) (b := 100) (h.2.2.2 _) h4) (pn_sub hB hj' (by decide) (by decide) c)
    · rw [if_neg c]
      exact pn_mul (a := 100000) (b := 1020) (pn_mul (a := 1000) (b := 100) (h.2.2.2 _) h3) (pn_sub hj' hB (by decide) (by decide) (by rw [sp_le] at c ⊢; omega))
theorem indent_y {n : Nat → Nat} {G F : Nat → Nat → Int32} {a1 a2 a3 a4 : Int32} (hs : ∀ x, sX_cost n G a1 a2 a3 a4 x = rM_cost n F a1 a2 a3 a4 x) (hc : ∀ j, j < 21 → ¬ rM_cost n F a1 a2 a3 a4 (nI j) = -1) : ∀ (k j : Nat) (y x : Int32), j + k = 21 → (¬ x = -1 → y = rM_cost n F a1 a2 a3 a4 x) → sX_indent_L9 n G a1 a2 a3 a4 k j y x = rM_indent_L6 n F a1 a2 a3 a4 k j x
  | 0, _, _, _, _, _ => rfl
  | k + 1, j, y, x, hj, hy => by
    show (if (sX_cost n G a1 a2 a3 a4 (nI j)) = (-1) then (sX_indent_L9 n G a1 a2 a3 a4 k (j + 1) y x) else (if x = (-1) then (sX_indent_L9 n G a1 a2 a3 a4 k (j + 1) (sX_cost n G a1 a2 a3 a4 (nI j)) (nI j)) else (if y ≤ (sX_cost n G a1 a2 a3 a4 (nI j)) then (sX_indent_L9 n G a1 a2 a3 a4 k (j + 1) y x) else (sX_indent_L9 n G a1 a2 a3 a4 k (j + 1) (sX_cost n G a1 a2 a3 a4 (nI j)) (nI j))))) = (if (rM_cost n F a1 a2 a3 a4 (nI j)) = (-1) then (-1) else (if x = (-1) then (rM_indent_L6 n F a1 a2 a3 a4 k (j + 1) (nI j)) else (if (rM_cost n F a1 a2 a3 a4 x) ≤ (rM_cost n F a1 a2 a3 a4 (nI j)) then (rM_indent_L6 n F a1 a2 a3 a4 k (j + 1) x) else (rM_indent_L6 n F a1 a2 a3 a4 k (j + 1) (nI j)))))
    have hn := hc j (by omega)
    rw [hs, if_neg hn, if_neg hn]
    have ih1 := indent_y hs hc k (j + 1) (rM_cost n F a1 a2 a3 a4 (nI j)) (nI j) (by omega) (fun _ => rfl)
    by_cases e : x = -1
    · rw [if_pos e, if_pos e]; exact ih1
    · rw [if_neg e, if_neg e, hy e, ih1]
      rw [indent_y hs hc k (j + 1) _ x (by omega) (fun _ => rfl)]
theorem indent_n {n : Nat → Nat} {G : Nat → Nat → Int32} {a1 a2 a3 a4 : Int32} (hs : ∀ x, sX_cost n G a1 a2 a3 a4 x = -1) : ∀ (k j : Nat) (y x : Int32), sX_indent_L9 n G a1 a2 a3 a4 k j y x = x
  | 0, _, _, _ => rfl
  | k + 1, j, y, x => by
    show (if (sX_cost n G a1 a2 a3 a4 (nI j)) = (-1) then (sX_indent_L9 n G a1 a2 a3 a4 k (j + 1) y x) else _) = x
    rw [if_pos (hs _)]
    exact indent_n hs k (j + 1) y x
theorem e_indent {n : Nat → Nat} {G F : Nat → Nat → Int32} (hR : rel_ n G F) (hN : nb_ n) (hU : nu_ n F) (a1 a2 a3 a4 : Int32) : sX_indent n G a1 a2 a3 a4 = rM_indent n F a1 a2 a3 a4 := by
  have hk := ky_lt hN
  have hs : ∀ x, sX_cost n G a1 a2 a3 a4 x = rM_cost n F a1 a2 a3 a4 x := fun x => e_cost hR.1 a1 a2 a3 a4 x
  have no : (∀ x, rM_cost n F a1 a2 a3 a4 x = -1) → sX_indent n G a1 a2 a3 a4 = rM_indent n F a1 a2 a3 a4 := fun hc => by
    unfold sX_indent rM_indent
    rw [indent_n (fun x => (hs x).trans (hc x))]
    show (-1 : Int32) = (if (rM_cost n F a1 a2 a3 a4 (nI 0)) = (-1) then (-1) else _)
    rw [if_pos (hc _)]
  by_cases h1 : sp_in a1 0 ((nI (n 1)) - 1) = 0
  · exact no (fun x => by unfold rM_cost; rw [if_pos h1])
  by_cases h2 : sp_in a2 0 5 = 0
  · exact no (fun x => by unfold rM_cost; rw [if_neg h1, if_pos h2])
  by_cases h3 : sp_in a3 0 100 = 0
  · exact no (fun x => by unfold rM_cost; rw [if_neg h1, if_neg h2, if_pos h3])
  by_cases h4 : sp_in a4 0 100 = 0
  · exact no (fun x => by unfold rM_cost; rw [if_neg h1, if_neg h2, if_neg h3, if_pos h4])
  by_cases h6 : rM_cost_L55 F a2 21 0 0 = 1000
  · have hc : ∀ j, j < 21 → ¬ rM_cost n F a1 a2 a3 a4 (nI j) = -1 := fun j hj => by
      unfold rM_cost
      by_cases h5 : sp_in (nI j) 0 20 = 0
      · exact absurd h5 (sp_nIn (k := 21) hj (by decide))
      rw [if_neg h1, if_neg h2, if_neg h3, if_neg h4, if_neg h5, if_pos h6]
      exact pn_ne (cost_n hU (by omega) (pn_sp (a := 0) (b := 100) h3 rfl rfl) (pn_sp (a := 0) (b := 100) h4 rfl rfl) (pn_sp (a := 0) (b := 20) h5 rfl rfl) 21 0 0 0 (by omega) pn_0) (by decide)
    unfold sX_indent rM_indent
    exact indent_y hs hc 21 0 (-1) (-1) (by omega) (fun z => absurd rfl z)
  · exact no (fun x => by
      unfold rM_cost
      rw [if_neg h1, if_neg h2, if_neg h3, if_neg h4, if_neg h6, ite_self])
