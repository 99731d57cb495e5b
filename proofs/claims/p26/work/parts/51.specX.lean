/-! the class, exactly (by program, out of one walk of its bytecode) -/
theorem cp_q8 {D : va_G} {cI : ClassId} {cy : Nat → ClassId} {h0 : Nat} {q : Nat → Nat} {A : Nat → Prop} {ad : Nat → Nat → Nat} {rl : Nat → Nat × Nat} {L : List Nat} {n : Nat → Nat} {G : Nat → Nat → Int32} {H : Heap} (hC : cp_ D cI cy h0 q A ad rl L n G H) : q 8 = ad 28 0 := by
  obtain ⟨f, -, -, hL⟩ := hC
  exact hL.2.1 8 (by decide) (by decide)
theorem cp_rv {D : va_G} {cI : ClassId} {cy : Nat → ClassId} {h0 : Nat} {q : Nat → Nat} {A : Nat → Prop} {ad : Nat → Nat → Nat} {rl : Nat → Nat × Nat} {L : List Nat} {n : Nat → Nat} {G : Nat → Nat → Int32} {H : Heap} (hC : cp_ D cI cy h0 q A ad rl L n G H) {i w : Nat} (hi : i < n 1) (hw : w < 8) (hN : nb_ n) (h : ¬ G 32 (8 * i + w) = -1) : (G 32 (8 * i + w)).toNatClampNeg < n 4 ∧ ¬ G 26 (G 32 (8 * i + w)).toNatClampNeg = 0 ∧ ¬ G 26 (G 32 (8 * i + w)).toNatClampNeg = 1 ∧ G 32 (8 * i + w) = nI (G 32 (8 * i + w)).toNatClampNeg := by
  obtain ⟨f, -, -, hL⟩ := hC
  rcases hL.2.2 i w hi hw with h1 | ⟨l, hl, e, k0, k1⟩
  · exact absurd h1 h
  · rw [e, nI_clamp (by omega)]
    exact ⟨hl, k0, k1, rfl⟩
theorem sp_neg {x b : Int32} (h : x < 0) : sp_in x 0 b = 0 := by
  rw [sp_in_0]
  intro z
  rw [sp_lt] at h
  have := z.1
  rw [sp_le] at this
  omega
theorem sp_big {x b : Int32} {B k : Nat} (hk : k ≤ B) (h : b ≤ x) (hB : b = nI B := by rfl) (hb : B < 2147483648 := by decide) : sp_in x 0 ((nI k) - 1) = 0 := by
  rw [sp_in_0]
  intro z
  have z2 := z.2
  rw [hB] at h
  cases k with
  | zero =>
    have z1 := z.1
    rw [show (nI 0 - 1 : Int32) = -1 from by decide, sp_le, show (-1 : Int32).toInt = -1 from rfl] at z2
    rw [sp_le, show (0 : Int32).toInt = 0 from rfl] at z1
    omega
  | succ k =>
    rw [nI_pred, sp_le, nI_toInt (by omega)] at z2
    rw [sp_le, nI_toInt (by omega)] at h
    omega
theorem sp_big7 {x : Int32} (h : 8 ≤ x) : sp_in x 0 7 = 0 := sp_big (k := 8) (B := 8) (Nat.le_refl 8) h
theorem sp_nIn {j k : Nat} (h : j < k) (hk : k < 2147483648) : ¬ sp_in (nI j) 0 ((nI k) - 1) = 0 := by
  rw [sp_in_0]
  intro z
  apply z
  cases k with
  | zero => omega
  | succ k =>
    rw [nI_pred]
    exact ⟨nI_pos' (by omega), nI_le (by omega) (by omega)⟩
theorem at_eq {α : Type} {k B : Nat} {x b : Int32} {a : α} (hk : k ≤ B) (h0 : ¬ x < 0) (h : ¬ b ≤ x) (hB : b = nI B := by rfl) (hb : B < 2147483648 := by decide) : (if x.toNatClampNeg < k then some a else none) = (if sp_in x 0 ((nI k) - 1) = 0 then none else some a) := by
  obtain ⟨j, hj, rfl⟩ := nI_of h0
  rw [nI_clamp (by omega)]
  by_cases e : j < k
  · rw [if_pos e, if_neg (sp_nIn e (by omega))]
  · rw [if_neg e, if_pos]
    rw [sp_in_0]
    intro z
    have z2 := z.2
    cases k with
    | zero =>
      rw [show (nI 0 - 1 : Int32) = -1 from by decide, sp_le, show (-1 : Int32).toInt = -1 from rfl, nI_toInt (by omega)] at z2
      omega
    | succ k =>
      rw [nI_pred, nI_leI (by omega) (by omega)] at z2
      omega
theorem at_rep {α : Type} {x : Int32} {a : Option α} (h0 : ¬ x < 0) (h : ¬ 8 ≤ x) : a = (if sp_in x 0 7 = 0 then none else a) := by
  rw [if_neg]
  rw [sp_in_0]
  intro z
  apply z
  rw [sp_lt] at h0
  rw [sp_le] at h
  rw [sp_le, sp_le]
  rw [show (8 : Int32).toInt = 8 from rfl] at h
  rw [show (0 : Int32).toInt = 0 from rfl] at h0
  rw [show (7 : Int32).toInt = 7 from rfl, show (0 : Int32).toInt = 0 from rfl]
  omega





def sX_areTwoPosts (n : Nat → Nat) (G : Nat → Nat → Int32) (a1 : Int32) (a2 : Int32) : Int32 :=
  (if a1 = a2 then 0 else (if (sp_in a1 0 ((nI (n 1)) - 1)) = 0 then 0 else (if (sp_in a2 0 ((nI (n 1)) - 1)) = 0 then 0 else 1)))

theorem sX_areTwoPosts_b {n : Nat → Nat} {G : Nat → Nat → Int32} {a1 a2 : Int32} (hN : nb_ n) (h : ¬ sX_areTwoPosts n G a1 a2 = 0) : vp_in a1 8 ∧ vp_in a2 8 := by
  by_cases h0 : a1 = a2
  · exact absurd (show sX_areTwoPosts n G a1 a2 = 0 from if_pos h0) h
  by_cases h1 : sp_in a1 0 ((nI (n 1)) - 1) = 0
  · exact absurd (show sX_areTwoPosts n G a1 a2 = 0 from (if_neg h0).trans (if_pos h1)) h
  by_cases h2 : sp_in a2 0 ((nI (n 1)) - 1) = 0
  · exact absurd (show sX_areTwoPosts n G a1 a2 = 0 from (if_neg h0).trans ((if_neg h1).trans (if_pos h2))) h
  exact ⟨sp_vpn h1 (show n 1 ≤ 8 by omega) (by decide), sp_vpn h2 (show n 1 ≤ 8 by omega) (by decide)⟩

def sX_canWrite (n : Nat → Nat) (G : Nat → Nat → Int32) (a1 : Int32) (a2 : Int32) : Int32 :=
  (if (sX_areTwoPosts n G a1 a2) = 0 then 0 else (if 300 ≤ (nI (n 4)) then 0 else 1))

def sX_isTrade (a1 : Int32) (a2 : Int32) (a3 : Int32) : Int32 :=
  (if (sp_in a1 0 11) = 0 then 0 else (if (sp_in a2 0 5) = 0 then 0 else (if (sp_in a3 1 1000) = 0 then 0 else 1)))

theorem sX_isTrade_b {a1 a2 a3 : Int32} (h : ¬ sX_isTrade a1 a2 a3 = 0) : vp_in a1 12 ∧ vp_in a2 6 := by
  by_cases h1 : sp_in a1 0 11 = 0
  · exact absurd (show sX_isTrade a1 a2 a3 = 0 from if_pos h1) h
  by_cases h2 : sp_in a2 0 5 = 0
  · exact absurd (show sX_isTrade a1 a2 a3 = 0 from (if_neg h1).trans (if_pos h2)) h
  exact ⟨sp_vp h1 rfl, sp_vp h2 rfl⟩

def sX_Way_startsAt (n : Nat → Nat) (G : Nat → Nat → Int32) (i0 : Nat) (a1 : Int32) : Int32 :=
  (if a1 = (G 6 i0) then 1 else (if a1 = (G 7 i0) then 1 else 0))

def sX_Way_otherEnd (n : Nat → Nat) (G : Nat → Nat → Int32) (i0 : Nat) (a1 : Int32) : Int32 :=
  (if a1 = (G 6 i0) then (G 7 i0) else (G 6 i0))

def sX_Way_isOpenOn (n : Nat → Nat) (G : Nat → Nat → Int32) (i0 : Nat) (a1 : Int32) : Int32 :=
  (sp_in (a1 - a1 / 365 * 365) (G 9 i0) (G 10 i0))

def sX_Canoe_isBetween (n : Nat → Nat) (G : Nat → Nat → Int32) (i0 : Nat) (a1 : Int32) (a2 : Int32) : Int32 :=
  (if (G 14 i0) = a1 then (if (G 15 i0) = a2 then 1 else (if (G 14 i0) = a2 then (if (G 15 i0) = a1 then 1 else 0) else 0)) else (if (G 14 i0) = a2 then (if (G 15 i0) = a1 then 1 else 0) else 0))

def sX_Canoe_partsBooks (n : Nat → Nat) (G : Nat → Nat → Int32) (i0 : Nat) : Int32 :=
  (if (G 18 i0) = 2 then 1 else (if (G 18 i0) = 1 then (if (G 24 i0) = 0 then 0 else 1) else 0))

def sX_Post_owedByAll_L4 (G : Nat → Nat → Int32) (i0 : Nat) : Nat → Nat → Int32 → Int32
  | 0, _, xL4_1 => xL4_1
  | k + 1, jL4, xL4_1 => (sX_Post_owedByAll_L4 G i0 k (jL4 + 1) (xL4_1 + (G 4 (12 * i0 + jL4))))
def sX_Post_owedByAll (n : Nat → Nat) (G : Nat → Nat → Int32) (i0 : Nat) : Int32 :=
  (sX_Post_owedByAll_L4 G i0 12 0 0)

def sX_next_L26 (G : Nat → Nat → Int32) (a1 : Int32) (a2 : Int32) : Nat → Nat → Int32
  | 0, _ => (-1)
  | k + 1, jL26 => (if (G 43 (8 * a1.toNatClampNeg + jL26)) = 1 then (if (G 43 (8 * jL26 + a2.toNatClampNeg)) = ((G 43 (8 * a1.toNatClampNeg + a2.toNatClampNeg)) - 1) then (nI jL26) else (sX_next_L26 G a1 a2 k (jL26 + 1))) else (sX_next_L26 G a1 a2 k (jL26 + 1)))
def sX_next (n : Nat → Nat) (G : Nat → Nat → Int32) (a1 : Int32) (a2 : Int32) : Int32 :=
  (if (sX_areTwoPosts n G a1 a2) = 0 then (-1) else (if (G 43 (8 * a1.toNatClampNeg + a2.toNatClampNeg)) < 100 then (sX_next_L26 G a1 a2 8 0) else (-1)))

def sX_canLoad_L5 (G : Nat → Nat → Int32) (i2 : Nat) (i1 : Nat) : Nat → Nat → Int32 → Int32
  | 0, _, xL5_3 => (if (G 11 i2) < xL5_3 then 0 else 1)
  | k + 1, jL5, xL5_3 => (if (G 12 (jL5)) ≤ (G 2 (6 * i1 + jL5)) then (sX_canLoad_L5 G i2 i1 k (jL5 + 1) (xL5_3 + (G 12 (jL5)))) else 0)
def sX_canLoad (n : Nat → Nat) (G : Nat → Nat → Int32) (i1 : Nat) (i2 : Nat) : Int32 :=
  (sX_canLoad_L5 G i2 i1 6 0 0)

def sX_areWantsRight_L4 (G : Nat → Nat → Int32) (a1 : Int32) : Nat → Nat → Int32 → Int32
  | 0, _, xL4_2 => xL4_2
  | k + 1, jL4, xL4_2 => (sX_areWantsRight_L4 G a1 k (jL4 + 1) (xL4_2 + (G 33 (21 * a1.toNatClampNeg + jL4))))
def sX_areWantsRight (n : Nat → Nat) (G : Nat → Nat → Int32) (a1 : Int32) : Int32 :=
  (if (sX_areWantsRight_L4 G a1 21 0 0) = 1000 then 1 else 0)

def sX_countBag_L4 (G : Nat → Nat → Int32) (a1 : Int32) : Nat → Nat → Int32 → Int32
  | 0, _, xL4_2 => xL4_2
  | k + 1, jL4, xL4_2 => (if (G 41 jL4) = a1 then (sX_countBag_L4 G a1 k (jL4 + 1) (xL4_2 + 1)) else (sX_countBag_L4 G a1 k (jL4 + 1) xL4_2))
def sX_countBag (n : Nat → Nat) (G : Nat → Nat → Int32) (a1 : Int32) : Int32 :=
  (sX_countBag_L4 G a1 (n 4) 0 0)

def sX_countOfAll (n : Nat → Nat) (G : Nat → Nat → Int32) (a1 : Int32) : Int32 :=
  (if a1 = 0 then (nI (n 0)) else (if a1 = 1 then (nI (n 1)) else (if a1 = 2 then (nI (n 2)) else (if a1 = 3 then (nI (n 3)) else (if a1 = 4 then (nI (n 4)) else (if a1 = 5 then (G 44 0) else (-1)))))))

def sX_owes (n : Nat → Nat) (G : Nat → Nat → Int32) (a1 : Int32) (a2 : Int32) : Int32 :=
  (if (sp_in a1 0 ((nI (n 1)) - 1)) = 0 then 0 else (if (sp_in a2 0 11) = 0 then 0 else (G 4 (12 * a1.toNatClampNeg + a2.toNatClampNeg))))

def sX_price (n : Nat → Nat) (G : Nat → Nat → Int32) (a1 : Int32) (a2 : Int32) : Int32 :=
  (if (sp_in a1 0 ((nI (n 1)) - 1)) = 0 then (-1) else (if (sp_in a2 0 5) = 0 then (-1) else (G 3 (6 * a1.toNatClampNeg + a2.toNatClampNeg))))

def sX_known (n : Nat → Nat) (G : Nat → Nat → Int32) (a1 : Int32) (a2 : Int32) (a3 : Int32) : Int32 :=
  (if (sp_in a1 0 ((nI (n 1)) - 1)) = 0 then (-1) else (if (sp_in a3 0 5) = 0 then (-1) else (if a1 = a2 then (G 2 (6 * a1.toNatClampNeg + a3.toNatClampNeg)) else (if (sp_in a2 0 7) = 0 then (-1) else (if (G 32 (8 * a1.toNatClampNeg + a2.toNatClampNeg)) = -1 then (-1) else (G 31 (6 * ((G 32 (8 * a1.toNatClampNeg + a2.toNatClampNeg)).toNatClampNeg) + a3.toNatClampNeg)))))))

def sX_knownDay (n : Nat → Nat) (G : Nat → Nat → Int32) (a1 : Int32) (a2 : Int32) : Int32 :=
  (if (sp_in a1 0 ((nI (n 1)) - 1)) = 0 then (-1) else (if a1 = a2 then (nI (n 0)) else (if (sp_in a2 0 7) = 0 then (-1) else (if (G 32 (8 * a1.toNatClampNeg + a2.toNatClampNeg)) = -1 then (-1) else (G 30 ((G 32 (8 * a1.toNatClampNeg + a2.toNatClampNeg)).toNatClampNeg))))))

def sX_cost_L85 (G : Nat → Nat → Int32) (a1 : Int32) (a2 : Int32) (a5 : Int32) (a4 : Int32) (a3 : Int32) : Nat → Nat → Int32 → Int32
  | 0, _, xL85_8 => xL85_8
  | k + 1, jL85, xL85_8 => (if (nI jL85) ≤ ((if 1000 < (G 2 (6 * a1.toNatClampNeg + a2.toNatClampNeg)) then 1000 else (G 2 (6 * a1.toNatClampNeg + a2.toNatClampNeg))) + a5) then (sX_cost_L85 G a1 a2 a5 a4 a3 k (jL85 + 1) (xL85_8 + ((G 33 (21 * a2.toNatClampNeg + jL85)) * (a4 * (((if 1000 < (G 2 (6 * a1.toNatClampNeg + a2.toNatClampNeg)) then 1000 else (G 2 (6 * a1.toNatClampNeg + a2.toNatClampNeg))) + a5) - (nI jL85)))))) else (sX_cost_L85 G a1 a2 a5 a4 a3 k (jL85 + 1) (xL85_8 + ((G 33 (21 * a2.toNatClampNeg + jL85)) * (a3 * ((nI jL85) - ((if 1000 < (G 2 (6 * a1.toNatClampNeg + a2.toNatClampNeg)) then 1000 else (G 2 (6 * a1.toNatClampNeg + a2.toNatClampNeg))) + a5)))))))
def sX_cost (n : Nat → Nat) (G : Nat → Nat → Int32) (a1 : Int32) (a2 : Int32) (a3 : Int32) (a4 : Int32) (a5 : Int32) : Int32 :=
  (if (sp_in a1 0 ((nI (n 1)) - 1)) = 0 then (-1) else (if (sp_in a2 0 5) = 0 then (-1) else (if (sX_areWantsRight n G a2) = 0 then (-1) else (if (sp_in a5 0 20) = 0 then (-1) else (if (sp_in a3 0 100) = 0 then (-1) else (if (sp_in a4 0 100) = 0 then (-1) else (sX_cost_L85 G a1 a2 a5 a4 a3 21 0 0)))))))

def sX_indent_L9 (n : Nat → Nat) (G : Nat → Nat → Int32) (a1 : Int32) (a2 : Int32) (a3 : Int32) (a4 : Int32) : Nat → Nat → Int32 → Int32 → Int32
  | 0, _, xL9_6, xL9_5 => xL9_5
  | k + 1, jL9, xL9_6, xL9_5 => (if (sX_cost n G a1 a2 a3 a4 (nI jL9)) = (-1) then (sX_indent_L9 n G a1 a2 a3 a4 k (jL9 + 1) xL9_6 xL9_5) else (if xL9_5 = (-1) then (sX_indent_L9 n G a1 a2 a3 a4 k (jL9 + 1) (sX_cost n G a1 a2 a3 a4 (nI jL9)) (nI jL9)) else (if xL9_6 ≤ (sX_cost n G a1 a2 a3 a4 (nI jL9)) then (sX_indent_L9 n G a1 a2 a3 a4 k (jL9 + 1) xL9_6 xL9_5) else (sX_indent_L9 n G a1 a2 a3 a4 k (jL9 + 1) (sX_cost n G a1 a2 a3 a4 (nI jL9)) (nI jL9)))))
def sX_indent (n : Nat → Nat) (G : Nat → Nat → Int32) (a1 : Int32) (a2 : Int32) (a3 : Int32) (a4 : Int32) : Int32 :=
  (sX_indent_L9 n G a1 a2 a3 a4 21 0 (-1) (-1))

def sX_quarrel_L13 (n : Nat → Nat) (G : Nat → Nat → Int32) (a1 : Int32) (a2 : Int32) : Nat → Nat → Int32
  | 0, _ => (-1)
  | k + 1, jL13 => (if (sX_Canoe_isBetween n G jL13 a1 a2) = 0 then (sX_quarrel_L13 n G a1 a2 k (jL13 + 1)) else (if (sX_Canoe_partsBooks n G jL13) = 0 then (sX_quarrel_L13 n G a1 a2 k (jL13 + 1)) else (nI jL13)))
def sX_quarrel (n : Nat → Nat) (G : Nat → Nat → Int32) (a1 : Int32) (a2 : Int32) : Int32 :=
  (if (sX_areTwoPosts n G a1 a2) = 0 then (-1) else (sX_quarrel_L13 n G a1 a2 (n 3) 0))

def sX_canoe (n : Nat → Nat) (G : Nat → Nat → Int32) (a1 : Int32) (a2 : Int32) : Int32 :=
  (if (sp_in a1 0 ((nI (n 3)) - 1)) = 0 then (-1) else (if (sp_in (a2 - 10) 0 5) = 0 then (if (sp_in (a2 - 20) 0 5) = 0 then (if a2 = 0 then (G 14 a1.toNatClampNeg) else (if a2 = 1 then (G 15 a1.toNatClampNeg) else (if a2 = 2 then (G 16 a1.toNatClampNeg) else (if a2 = 3 then (G 17 a1.toNatClampNeg) else (if a2 = 4 then (G 18 a1.toNatClampNeg) else (if a2 = 5 then (G 19 a1.toNatClampNeg) else (if a2 = 6 then (G 20 a1.toNatClampNeg) else (if a2 = 7 then (G 21 a1.toNatClampNeg) else (-1))))))))) else (G 23 (6 * a1.toNatClampNeg + (a2 - 20).toNatClampNeg))) else (G 22 (6 * a1.toNatClampNeg + (a2 - 10).toNatClampNeg))))

def sX_told (n : Nat → Nat) (G : Nat → Nat → Int32) (a1 : Int32) (a2 : Int32) : Int32 :=
  (if (sp_in a1 0 ((nI (n 1)) - 1)) = 0 then (-1) else (if (sp_in a2 0 5) = 0 then (if a2 = 6 then (sX_countBag n G a1) else (if a2 = 7 then (sX_Post_owedByAll n G a1.toNatClampNeg) else (-1))) else (G 2 (6 * a1.toNatClampNeg + a2.toNatClampNeg))))

def sX_count (n : Nat → Nat) (G : Nat → Nat → Int32) (a1 : Int32) (a2 : Int32) : Int32 :=
  (if a1 = (-1) then (sX_countOfAll n G a2) else (if (sp_in a1 0 5) = 0 then (-1) else (if (sp_in a2 0 5) = 0 then (-1) else (G 34 (6 * a2.toNatClampNeg + a1.toNatClampNeg)))))

def sX_store (n : Nat → Nat) (G : Nat → Nat → Int32) (a1 : Int32) (a2 : Int32) (a3 : Int32) : Int32 × (Nat → Nat → Int32) :=
  (if (sp_in a1 0 ((nI (n 1)) - 1)) = 0 then ((-1), G) else (if (sp_in a2 0 5) = 0 then ((-1), G) else (if (sp_in a3 1 10000) = 0 then ((-1), G) else (if ((G 2 (6 * a1.toNatClampNeg + a2.toNatClampNeg)) + a3) ≤ 100000 then (((up2 (up2 G 2 (6 * a1.toNatClampNeg + a2.toNatClampNeg) ((G 2 (6 * a1.toNatClampNeg + a2.toNatClampNeg)) + a3)) 34 (6 * 0 + a2.toNatClampNeg) (((up2 G 2 (6 * a1.toNatClampNeg + a2.toNatClampNeg) ((G 2 (6 * a1.toNatClampNeg + a2.toNatClampNeg)) + a3)) 34 (6 * 0 + a2.toNatClampNeg)) + a3)) 2 (6 * a1.toNatClampNeg + a2.toNatClampNeg)), (up2 (up2 G 2 (6 * a1.toNatClampNeg + a2.toNatClampNeg) ((G 2 (6 * a1.toNatClampNeg + a2.toNatClampNeg)) + a3)) 34 (6 * 0 + a2.toNatClampNeg) (((up2 G 2 (6 * a1.toNatClampNeg + a2.toNatClampNeg) ((G 2 (6 * a1.toNatClampNeg + a2.toNatClampNeg)) + a3)) 34 (6 * 0 + a2.toNatClampNeg)) + a3))) else ((-1), G)))))

def sX_sell (n : Nat → Nat) (G : Nat → Nat → Int32) (a1 : Int32) (a2 : Int32) (a3 : Int32) (a4 : Int32) : Int32 × (Nat → Nat → Int32) :=
  (if (sp_in a1 0 ((nI (n 1)) - 1)) = 0 then ((-1), G) else (if (sX_isTrade a2 a3 a4) = 0 then ((-1), G) else (if a4 ≤ (G 2 (6 * a1.toNatClampNeg + a3.toNatClampNeg)) then (if ((G 4 (12 * a1.toNatClampNeg + a2.toNatClampNeg)) + ((G 3 (6 * a1.toNatClampNeg + a3.toNatClampNeg)) * a4)) ≤ 100000 then (((G 4 (12 * a1.toNatClampNeg + a2.toNatClampNeg)) + ((G 3 (6 * a1.toNatClampNeg + a3.toNatClampNeg)) * a4)), (up2 (up2 (up2 G 2 (6 * a1.toNatClampNeg + a3.toNatClampNeg) ((G 2 (6 * a1.toNatClampNeg + a3.toNatClampNeg)) - a4)) 4 (12 * a1.toNatClampNeg + a2.toNatClampNeg) ((G 4 (12 * a1.toNatClampNeg + a2.toNatClampNeg)) + ((G 3 (6 * a1.toNatClampNeg + a3.toNatClampNeg)) * a4))) 34 (6 * 1 + a3.toNatClampNeg) (((up2 (up2 G 2 (6 * a1.toNatClampNeg + a3.toNatClampNeg) ((G 2 (6 * a1.toNatClampNeg + a3.toNatClampNeg)) - a4)) 4 (12 * a1.toNatClampNeg + a2.toNatClampNeg) ((G 4 (12 * a1.toNatClampNeg + a2.toNatClampNeg)) + ((G 3 (6 * a1.toNatClampNeg + a3.toNatClampNeg)) * a4))) 34 (6 * 1 + a3.toNatClampNeg)) + a4))) else ((-1), G)) else ((-1), G))))

def sX_buy (n : Nat → Nat) (G : Nat → Nat → Int32) (a1 : Int32) (a2 : Int32) (a3 : Int32) (a4 : Int32) : Int32 × (Nat → Nat → Int32) :=
  (if (sp_in a1 0 ((nI (n 1)) - 1)) = 0 then ((-1), G) else (if (sX_isTrade a2 a3 a4) = 0 then ((-1), G) else (if ((G 2 (6 * a1.toNatClampNeg + a3.toNatClampNeg)) + a4) ≤ 100000 then (if (-100000) ≤ ((G 4 (12 * a1.toNatClampNeg + a2.toNatClampNeg)) - ((G 3 (6 * a1.toNatClampNeg + a3.toNatClampNeg)) * a4)) then (((G 4 (12 * a1.toNatClampNeg + a2.toNatClampNeg)) - ((G 3 (6 * a1.toNatClampNeg + a3.toNatClampNeg)) * a4)), (up2 (up2 (up2 G 2 (6 * a1.toNatClampNeg + a3.toNatClampNeg) ((G 2 (6 * a1.toNatClampNeg + a3.toNatClampNeg)) + a4)) 4 (12 * a1.toNatClampNeg + a2.toNatClampNeg) ((G 4 (12 * a1.toNatClampNeg + a2.toNatClampNeg)) - ((G 3 (6 * a1.toNatClampNeg + a3.toNatClampNeg)) * a4))) 34 (6 * 2 + a3.toNatClampNeg) (((up2 (up2 G 2 (6 * a1.toNatClampNeg + a3.toNatClampNeg) ((G 2 (6 * a1.toNatClampNeg + a3.toNatClampNeg)) + a4)) 4 (12 * a1.toNatClampNeg + a2.toNatClampNeg) ((G 4 (12 * a1.toNatClampNeg + a2.toNatClampNeg)) - ((G 3 (6 * a1.toNatClampNeg + a3.toNatClampNeg)) * a4))) 34 (6 * 2 + a3.toNatClampNeg)) + a4))) else ((-1), G)) else ((-1), G))))

def sX_give (n : Nat → Nat) (G : Nat → Nat → Int32) (a1 : Int32) (a2 : Int32) (a3 : Int32) (a4 : Int32) : Int32 × (Nat → Nat → Int32) :=
  (if (sp_in a1 0 ((nI (n 1)) - 1)) = 0 then ((-1), G) else (if (sX_isTrade a2 a3 a4) = 0 then ((-1), G) else (if a4 ≤ (G 2 (6 * a1.toNatClampNeg + a3.toNatClampNeg)) then (((up2 (up2 G 2 (6 * a1.toNatClampNeg + a3.toNatClampNeg) ((G 2 (6 * a1.toNatClampNeg + a3.toNatClampNeg)) - a4)) 34 (6 * 3 + a3.toNatClampNeg) (((up2 G 2 (6 * a1.toNatClampNeg + a3.toNatClampNeg) ((G 2 (6 * a1.toNatClampNeg + a3.toNatClampNeg)) - a4)) 34 (6 * 3 + a3.toNatClampNeg)) + a4)) 2 (6 * a1.toNatClampNeg + a3.toNatClampNeg)), (up2 (up2 G 2 (6 * a1.toNatClampNeg + a3.toNatClampNeg) ((G 2 (6 * a1.toNatClampNeg + a3.toNatClampNeg)) - a4)) 34 (6 * 3 + a3.toNatClampNeg) (((up2 G 2 (6 * a1.toNatClampNeg + a3.toNatClampNeg) ((G 2 (6 * a1.toNatClampNeg + a3.toNatClampNeg)) - a4)) 34 (6 * 3 + a3.toNatClampNeg)) + a4))) else ((-1), G))))

def sX_spoil (n : Nat → Nat) (G : Nat → Nat → Int32) (a1 : Int32) (a2 : Int32) (a3 : Int32) : Int32 × (Nat → Nat → Int32) :=
  (if (sp_in a1 0 ((nI (n 3)) - 1)) = 0 then (0, G) else (if (G 18 a1.toNatClampNeg) = 0 then (if (sp_in a2 0 5) = 0 then (0, G) else (if (sp_in a3 1 (G 22 (6 * a1.toNatClampNeg + a2.toNatClampNeg))) = 0 then (0, G) else (1, (up2 (up2 (up2 G 22 (6 * a1.toNatClampNeg + a2.toNatClampNeg) ((G 22 (6 * a1.toNatClampNeg + a2.toNatClampNeg)) - a3)) 24 a1.toNatClampNeg 1) 34 (6 * 5 + a2.toNatClampNeg) (((up2 (up2 G 22 (6 * a1.toNatClampNeg + a2.toNatClampNeg) ((G 22 (6 * a1.toNatClampNeg + a2.toNatClampNeg)) - a3)) 24 a1.toNatClampNeg 1) 34 (6 * 5 + a2.toNatClampNeg)) + a3))))) else (0, G)))

def sX_load (n : Nat → Nat) (G : Nat → Nat → Int32) (a1 : Int32) (a2 : Int32) : Int32 × (Nat → Nat → Int32) :=
  (if (sp_in a1 0 5) = 0 then (0, G) else (if (sp_in a2 0 500) = 0 then (0, G) else (1, (up2 G 12 (a1.toNatClampNeg) a2))))

def sX_want (n : Nat → Nat) (G : Nat → Nat → Int32) (a1 : Int32) (a2 : Int32) (a3 : Int32) : Int32 × (Nat → Nat → Int32) :=
  (if (sp_in a1 0 5) = 0 then (0, G) else (if (sp_in a2 0 20) = 0 then (0, G) else (if (sp_in a3 0 1000) = 0 then (0, G) else (1, (up2 G 33 (21 * a1.toNatClampNeg + a2.toNatClampNeg) a3)))))

def sX_shortenDistances_L11 (jL2 : Nat) (a2 : Int32) (a1 : Int32) : Nat → Nat → (Nat → Nat → Int32) → (Nat → Nat → Int32)
  | 0, _, GL11 => GL11
  | k + 1, jL11, GL11 => (sX_shortenDistances_L11 jL2 a2 a1 k (jL11 + 1) (up2 GL11 43 (8 * jL2 + jL11) (if (if (((GL11 43 (8 * jL2 + a2.toNatClampNeg)) + 1) + (GL11 43 (8 * a1.toNatClampNeg + jL11))) < (((GL11 43 (8 * jL2 + a1.toNatClampNeg)) + 1) + (GL11 43 (8 * a2.toNatClampNeg + jL11))) then (((GL11 43 (8 * jL2 + a2.toNatClampNeg)) + 1) + (GL11 43 (8 * a1.toNatClampNeg + jL11))) else (((GL11 43 (8 * jL2 + a1.toNatClampNeg)) + 1) + (GL11 43 (8 * a2.toNatClampNeg + jL11)))) < (GL11 43 (8 * jL2 + jL11)) then (if (((GL11 43 (8 * jL2 + a2.toNatClampNeg)) + 1) + (GL11 43 (8 * a1.toNatClampNeg + jL11))) < (((GL11 43 (8 * jL2 + a1.toNatClampNeg)) + 1) + (GL11 43 (8 * a2.toNatClampNeg + jL11))) then (((GL11 43 (8 * jL2 + a2.toNatClampNeg)) + 1) + (GL11 43 (8 * a1.toNatClampNeg + jL11))) else (((GL11 43 (8 * jL2 + a1.toNatClampNeg)) + 1) + (GL11 43 (8 * a2.toNatClampNeg + jL11)))) else (GL11 43 (8 * jL2 + jL11)))))
def sX_shortenDistances_L2 (a2 : Int32) (a1 : Int32) : Nat → Nat → (Nat → Nat → Int32) → (Nat → Nat → Int32)
  | 0, _, GL2 => GL2
  | k + 1, jL2, GL2 => (sX_shortenDistances_L2 a2 a1 k (jL2 + 1) (sX_shortenDistances_L11 jL2 a2 a1 8 0 GL2))
def sX_shortenDistances (n : Nat → Nat) (G : Nat → Nat → Int32) (a1 : Int32) (a2 : Int32) : (Nat → Nat → Int32) :=
  (sX_shortenDistances_L2 a2 a1 8 0 G)

def sX_landCanoe_L15 (i2 : Nat) (i1 : Nat) : Nat → Nat → (Nat → Nat → Int32) → (Nat → Nat → Int32)
  | 0, _, GL15 => GL15
  | k + 1, jL15, GL15 => (sX_landCanoe_L15 i2 i1 k (jL15 + 1) (up2 (up2 GL15 2 (6 * i2 + jL15) ((GL15 2 (6 * i2 + jL15)) + (GL15 22 (6 * i1 + jL15)))) 22 (6 * i1 + jL15) 0))
def sX_landCanoe (n : Nat → Nat) (G : Nat → Nat → Int32) (i1 : Nat) (i2 : Nat) : (Nat → Nat → Int32) :=
  (sX_landCanoe_L15 i2 i1 6 0 (up2 (up2 G 18 i1 1) 20 i1 (nI (n 0))))

def sX_Order_readAt (n : Nat → Nat) (G : Nat → Nat → Int32) (i0 : Nat) (i1 : Nat) : (Nat → Nat → Int32) :=
  (if (sp_in (G 29 i0) 0 5) = 0 then G else (up2 G 3 (6 * i1 + (G 29 i0).toNatClampNeg) (G 30 i0)))

def sX_Debt_readAt (n : Nat → Nat) (G : Nat → Nat → Int32) (i0 : Nat) (i1 : Nat) : (Nat → Nat → Int32) :=
  (if (sp_in (G 29 i0) 0 11) = 0 then G else (up2 G 4 (12 * i1 + (G 29 i0).toNatClampNeg) ((G 4 (12 * i1 + (G 29 i0).toNatClampNeg)) + (G 30 i0))))

def sX_Report_readAt (n : Nat → Nat) (G : Nat → Nat → Int32) (i0 : Nat) (i1 : Nat) : (Nat → Nat → Int32) :=
  (if (sp_in (G 40 i0) 0 7) = 0 then (if (G 40 i0) < 0 then G else (if 8 ≤ (G 40 i0) then G else (up2 G 32 (8 * i1 + (G 40 i0).toNatClampNeg) (nI i0)))) else (if (G 32 (8 * i1 + (G 40 i0).toNatClampNeg)) = -1 then (if (G 40 i0) < 0 then G else (if 8 ≤ (G 40 i0) then G else (up2 G 32 (8 * i1 + (G 40 i0).toNatClampNeg) (nI i0)))) else (if (G 40 i0) < 0 then G else (if 8 ≤ (G 40 i0) then G else (if (G 30 i0) < (G 30 ((G 32 (8 * i1 + (G 40 i0).toNatClampNeg)).toNatClampNeg)) then G else (up2 G 32 (8 * i1 + (G 40 i0).toNatClampNeg) (nI i0)))))))

def sX_loseLetters_L2 (a1 : Int32) : Nat → Nat → (Nat → Nat → Int32) → (Nat → Nat → Int32)
  | 0, _, GL2 => GL2
  | k + 1, jL2, GL2 => (if (GL2 42 jL2) = a1 then (if ((up2 GL2 42 jL2 (-1)) 26 jL2) = 1 then (sX_loseLetters_L2 a1 k (jL2 + 1) (up2 (up2 GL2 42 jL2 (-1)) 44 0 (((up2 GL2 42 jL2 (-1)) 44 0) + 1))) else (sX_loseLetters_L2 a1 k (jL2 + 1) (up2 GL2 42 jL2 (-1)))) else (sX_loseLetters_L2 a1 k (jL2 + 1) GL2))
def sX_loseLetters (n : Nat → Nat) (G : Nat → Nat → Int32) (a1 : Int32) : (Nat → Nat → Int32) :=
  (sX_loseLetters_L2 a1 (n 4) 0 G)

def sX_takeLetters_L5 (i2 : Nat) (n : Nat → Nat) (a1 : Int32) : Nat → Nat → (Nat → Nat → Int32) → Int32 → (Nat → Nat → Int32) × Int32
  | 0, _, GL5, xL5_3 => (GL5, xL5_3)
  | k + 1, jL5, GL5, xL5_3 => (if (GL5 41 jL5) = (GL5 14 i2) then (if (sX_next n GL5 (GL5 14 i2) (GL5 27 jL5)) = (GL5 15 i2) then (sX_takeLetters_L5 i2 n a1 k (jL5 + 1) (up2 (up2 GL5 41 jL5 (-1)) 42 jL5 a1) (xL5_3 + 1)) else (sX_takeLetters_L5 i2 n a1 k (jL5 + 1) GL5 xL5_3)) else (sX_takeLetters_L5 i2 n a1 k (jL5 + 1) GL5 xL5_3))
def sX_takeLetters (n : Nat → Nat) (G : Nat → Nat → Int32) (a1 : Int32) (i2 : Nat) : Int32 × (Nat → Nat → Int32) :=
  ((sX_takeLetters_L5 i2 n a1 (n 4) 0 G 0).2, (sX_takeLetters_L5 i2 n a1 (n 4) 0 G 0).1)

def sX_landLetters_L3 (a1 : Int32) (a2 : Int32) (n : Nat → Nat) (i3 : Nat) : Nat → Nat → (Nat → Nat → Int32) → (Nat → Nat → Int32)
  | 0, _, GL3 => GL3
  | k + 1, jL3, GL3 => (if (GL3 42 jL3) = a1 then (if ((up2 GL3 42 jL3 (-1)) 27 jL3) = a2 then (if ((up2 GL3 42 jL3 (-1)) 26 jL3) = 0 then (sX_landLetters_L3 a1 a2 n i3 k (jL3 + 1) (sX_Order_readAt n (up2 GL3 42 jL3 (-1)) jL3 i3)) else (if ((up2 GL3 42 jL3 (-1)) 26 jL3) = 1 then (sX_landLetters_L3 a1 a2 n i3 k (jL3 + 1) (sX_Debt_readAt n (up2 GL3 42 jL3 (-1)) jL3 i3)) else (sX_landLetters_L3 a1 a2 n i3 k (jL3 + 1) (sX_Report_readAt n (up2 GL3 42 jL3 (-1)) jL3 i3)))) else (sX_landLetters_L3 a1 a2 n i3 k (jL3 + 1) (up2 (up2 GL3 42 jL3 (-1)) 41 jL3 a2))) else (sX_landLetters_L3 a1 a2 n i3 k (jL3 + 1) GL3))
def sX_landLetters (n : Nat → Nat) (G : Nat → Nat → Int32) (a1 : Int32) (a2 : Int32) (i3 : Nat) : (Nat → Nat → Int32) :=
  (sX_landLetters_L3 a1 a2 n i3 (n 4) 0 G)

def sX_moveCanoe (n : Nat → Nat) (G : Nat → Nat → Int32) (a1 : Int32) : (Nat → Nat → Int32) :=
  (if (sp_in a1 0 ((nI (n 3)) - 1)) = 0 then G else (if (G 18 a1.toNatClampNeg) = 0 then (if (sp_in (G 16 a1.toNatClampNeg) 0 ((nI (n 2)) - 1)) = 0 then (if (sp_in (G 15 a1.toNatClampNeg) 0 ((nI (n 1)) - 1)) = 0 then G else G) else (if (sp_in (G 15 a1.toNatClampNeg) 0 ((nI (n 1)) - 1)) = 0 then G else (if (sX_Way_isOpenOn n G (G 16 a1.toNatClampNeg).toNatClampNeg (nI (n 0))) = 0 then G else (if ((up2 G 17 a1.toNatClampNeg ((G 17 a1.toNatClampNeg) - 1)) 17 a1.toNatClampNeg) = 0 then (sX_landLetters n (sX_landCanoe n (up2 G 17 a1.toNatClampNeg ((G 17 a1.toNatClampNeg) - 1)) a1.toNatClampNeg (G 15 a1.toNatClampNeg).toNatClampNeg) a1 ((sX_landCanoe n (up2 G 17 a1.toNatClampNeg ((G 17 a1.toNatClampNeg) - 1)) a1.toNatClampNeg (G 15 a1.toNatClampNeg).toNatClampNeg) 15 a1.toNatClampNeg) (G 15 a1.toNatClampNeg).toNatClampNeg) else (up2 G 17 a1.toNatClampNeg ((G 17 a1.toNatClampNeg) - 1)))))) else G))

def sX_lose_L34 (a1 : Int32) : Nat → Nat → (Nat → Nat → Int32) → Int32 → (Nat → Nat → Int32) × Int32
  | 0, _, GL34, xL34_3 => (GL34, xL34_3)
  | k + 1, jL34, GL34, xL34_3 => (sX_lose_L34 a1 k (jL34 + 1) (up2 (up2 GL34 34 (6 * 4 + jL34) ((GL34 34 (6 * 4 + jL34)) + (GL34 22 (6 * a1.toNatClampNeg + jL34)))) 22 (6 * a1.toNatClampNeg + jL34) 0) (xL34_3 + (GL34 22 (6 * a1.toNatClampNeg + jL34))))
def sX_lose (n : Nat → Nat) (G : Nat → Nat → Int32) (a1 : Int32) : Int32 × (Nat → Nat → Int32) :=
  (if (sp_in a1 0 ((nI (n 3)) - 1)) = 0 then ((-1), G) else (if (G 18 a1.toNatClampNeg) = 0 then ((sX_lose_L34 a1 6 0 (up2 (up2 G 18 a1.toNatClampNeg 2) 17 a1.toNatClampNeg 0) 0).2, (sX_loseLetters n (sX_lose_L34 a1 6 0 (up2 (up2 G 18 a1.toNatClampNeg 2) 17 a1.toNatClampNeg 0) 0).1 a1)) else ((-1), G)))

def sX_go_L32 (nL15 : Nat → Nat) : Nat → Nat → (Nat → Nat → Int32) → (Nat → Nat → Int32)
  | 0, _, GL32 => GL32
  | k + 1, jL32, GL32 => (sX_go_L32 nL15 k (jL32 + 1) (sX_moveCanoe nL15 GL32 (nI jL32)))
def sX_go_L15  : Nat → Nat → (Nat → Nat) → (Nat → Nat → Int32) → Int32 × (Nat → Nat) × (Nat → Nat → Int32)
  | 0, _, nL15, GL15 => ((nI (nL15 0)), nL15, GL15)
  | k + 1, jL15, nL15, GL15 => (if 3000 ≤ (nI (nL15 0)) then ((nI (nL15 0)), nL15, GL15) else (sX_go_L15  k (jL15 + 1) (va_up nL15 0 ((nL15 0) + 1)) (sX_go_L32 nL15 (nL15 3) 0 GL15)))
def sX_go (n : Nat → Nat) (G : Nat → Nat → Int32) (a1 : Int32) : Int32 × (Nat → Nat) × (Nat → Nat → Int32) :=
  (if (sp_in a1 0 400) = 0 then ((-1), n, G) else (sX_go_L15  a1.toNatClampNeg 0 n G))

