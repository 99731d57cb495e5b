/-! lose(): a canoe, its wares and its letters -/
theorem rel_22 {n : Nat → Nat} {G F : Nat → Nat → Int32} (h : rel_ n G F) {c w : Nat} (hc : c < n 3) (hw : w < 6) (h18 : ¬ F 18 c = 0) (v : Int32) : rel_ n (up2 G 22 (6 * c + w) v) (up2 F 22 (6 * c + w) v) := by
  obtain ⟨a1, a2, a3, a4, a5, a6, b⟩ := h
  refine ⟨rq_up a1 22 _ v, a2, fun d hd => ?_, a4, a5, a6, b⟩
  obtain ⟨d1, d2⟩ := a3 d hd
  refine ⟨fun z => ?_, d2⟩
  have z : F 18 d = 0 := z
  have e : ¬ d = c := fun y => h18 (by rw [← y]; exact z)
  obtain ⟨f1, f2, f3⟩ := d1 z
  refine ⟨f1, ⟨fun y x hx => ?_, fun y => f2.mpr (fun x hx => ?_)⟩, fun x hx => ?_⟩
  · rw [up2_nk F 22 v (show 6 * d + x ≠ 6 * c + w by omega)]
    exact f2.mp y x hx
  · have := y x hx
    rw [up2_nk F 22 v (show 6 * d + x ≠ 6 * c + w by omega)] at this
    exact this
  · rw [up2_nk F 22 v (show 6 * d + x ≠ 6 * c + w by omega)]
    exact f3 x hx
theorem rel_lost {n : Nat → Nat} {G F : Nat → Nat → Int32} (h : rel_ n G F) {c : Nat} (hc : c < n 3) : rel_ n (up2 (up2 G 18 c 2) 17 c 0) (up2 F 18 c 2) := by
  obtain ⟨a1, a2, a3, a4, a5, a6, b1, b2, b3, b4, b5, b6, b7⟩ := h
  refine ⟨rq_l (rq_up a1 18 c 2) c 0 rfl, fun d hd => ?_, fun d hd => ?_, a4, a5, a6, b1, fun d hd => ⟨(b2 d hd).1, ?_⟩, b3, b4, fun d hd => ?_, b6, b7⟩
  · show (upd (F 18) c 2 d = 0 → upd (G 17) c 0 d = F 17 d) ∧ (¬ upd (F 18) c 2 d = 0 → upd (G 17) c 0 d = 0)
    by_cases e : d = c
    · rw [e, pk_us, pk_us]
      exact ⟨fun z => absurd z (by decide), fun _ => rfl⟩
    · rw [pk_un e, pk_un e]
      exact a2 d hd
  · show (upd (F 18) c 2 d = 0 → _) ∧ (upd (F 18) c 2 d = 1 → _)
    by_cases e : d = c
    · rw [e, pk_us]
      exact ⟨fun z => absurd z (by decide), fun z => absurd z (by decide)⟩
    · rw [pk_un e]
      exact a3 d hd
  · show upd (F 18) c 2 d = 0 ∨ upd (F 18) c 2 d = 1 ∨ upd (F 18) c 2 d = 2
    by_cases e : d = c
    · rw [e, pk_us]
      exact Or.inr (Or.inr rfl)
    · rw [pk_un e]
      exact (b2 d hd).2
  · show upd (F 18) c 2 d = 0 ∧ _
    rw [pk_un (by omega)]
    exact b5 d hd
theorem s_loseL {n : Nat → Nat} {c : Nat} (hc : c < 1000) : ∀ (k j : Nat) (G F : Nat → Nat → Int32) (x : Int32), j + k = 6 → c < n 3 → rel_ n G F → ¬ F 18 c = 0 → rel_ n (sX_lose_L34 (nI c) k j G x).1 (rM_lose_L14 n (nI c) k j F x).1 ∧ (sX_lose_L34 (nI c) k j G x).2 = (rM_lose_L14 n (nI c) k j F x).2
  | 0, _, G, F, x, _, _, h, _ => ⟨h, rfl⟩
  | k + 1, j, G, F, x, hj, h3, h, h18 => by
    rw [sX_lose_L34, rM_lose_L14]
    unfold rM_sums
    rw [tn4, nI_clamp (by omega), nI_clamp (by omega), h.1 22 rfl, h.1 34 rfl]
    exact s_loseL hc k (j + 1) _ _ _ (by omega) h3 (rel_22 (rel_34 h _ _) h3 (by omega) h18 0) h18
/-- who carries a letter, by either's books -/
theorem bg_c {n : Nat → Nat} {f b c : Int32} (h : bg_ n f b c) (hN : nb_ n) {k : Nat} (hk : k < n 3) : c = nI k ↔ f = 2000 + nI k := by
  have e2 : (2000 : Int32) + nI k = nI (2000 + k) := nI_add 2000 k
  rw [e2]
  rcases h with ⟨p, hp, ef, -, ec⟩ | ⟨ef, -, ec⟩ | ⟨m, hm, ef, -, ec⟩
  · rw [ef, ec]
    exact ⟨fun z => absurd z.symm (nI_n1 (by omega)), fun z => absurd z (nI_ne (by omega) (by omega) (by omega))⟩
  · rw [ec]
    refine ⟨fun z => absurd z.symm (nI_n1 (by omega)), fun z => ?_⟩
    rcases ef with ef | ef
    · rw [ef] at z
      exact absurd z (nI_ne (a := 1000) (by omega) (by decide) (by omega))
    · rw [ef] at z
      exact absurd z (nI_ne (a := 1001) (by omega) (by decide) (by omega))
  · rw [ef, ec, nI_eq (by omega) (by omega), nI_eq (by omega) (by omega)]
    omega
theorem bg_b {n : Nat → Nat} {f b c : Int32} (h : bg_ n f b c) (hN : nb_ n) {k : Nat} (hk : k < n 3) (e : c = nI k) : b = -1 := by
  rcases h with ⟨p, hp, -, -, ec⟩ | ⟨-, eb, -⟩ | ⟨m, hm, -, eb, -⟩
  · rw [ec] at e
    exact absurd e.symm (nI_n1 (by omega))
  · exact eb
  · exact eb
/-- a letter leaves the canoe that carries it -/
theorem rel_off {n : Nat → Nat} {G F : Nat → Nat → Int32} (h : rel_ n G F) {l : Nat} (hl : l < n 4) {v : Int32} (hv : v = 1000 ∨ v = 1001) (eb : G 41 l = -1) : rel_ n (up2 G 42 l (-1)) (up2 F 28 l v) := by
  obtain ⟨a1, a2, a3, a4, a5, a6, b⟩ := h
  refine ⟨rq_r (rq_l a1 l (-1) rfl) l v rfl, a2, a3, fun x hx => ?_, a5, a6, b⟩
  show bg_ n (upd (F 28) l v x) (G 41 x) (upd (G 42) l (-1) x)
  by_cases e : x = l
  · rw [e, pk_us, pk_us]
    exact Or.inr (Or.inl ⟨hv, eb, rfl⟩)
  · rw [pk_un e, pk_un e]
    exact a4 x hx
theorem s_loseLL {n : Nat → Nat} (hN : nb_ n) {c : Nat} (hc : c < n 3) : ∀ (k j : Nat) (G F : Nat → Nat → Int32), j + k = n 4 → rel_ n G F → rel_ n (sX_loseLetters_L2 (nI c) k j G) (rM_lose_L71 (nI c) k j F)
  | 0, _, G, F, _, h => h
  | k + 1, j, G, F, hj, h => by
    rw [sX_loseLetters_L2, rM_lose_L71]
    have hb := h.2.2.2.1 j (by omega)
    have e26 : G 26 j = F 26 j := by rw [h.1 26 rfl]
    by_cases c1 : G 42 j = nI c
    · rw [if_pos c1, if_pos ((bg_c hb hN hc).mp c1)]
      have h2 := rel_off h (l := j) (by omega) (v := 1001) (Or.inr rfl) (bg_b hb hN hc c1)
      by_cases c2 : F 26 j = 1
      · rw [if_pos (show up2 G 42 j (-1) 26 j = 1 from e26.trans c2), if_pos (show up2 F 28 j 1001 26 j = 1 from c2)]
        exact s_loseLL hN hc k (j + 1) _ _ (by omega) ⟨rq_r (rq_l h2.1 0 _ rfl) 0 _ rfl, h2.2⟩
      · rw [if_neg (show ¬ up2 G 42 j (-1) 26 j = 1 from fun z => c2 (e26.symm.trans z)), if_neg (show ¬ up2 F 28 j 1001 26 j = 1 from c2)]
        exact s_loseLL hN hc k (j + 1) _ _ (by omega) h2
    · rw [if_neg c1, if_neg (fun z => c1 ((bg_c hb hN hc).mpr z))]
      exact s_loseLL hN hc k (j + 1) _ _ (by omega) h
/-- the reference sets the state last: that is no matter -/
theorem L14_cm {n : Nat → Nat} {a1 : Int32} {c : Nat} {v : Int32} : ∀ (k j : Nat) (F : Nat → Nat → Int32) (x : Int32), rM_lose_L14 n a1 k j (up2 F 18 c v) x = (up2 (rM_lose_L14 n a1 k j F x).1 18 c v, (rM_lose_L14 n a1 k j F x).2)
  | 0, _, _, _ => rfl
  | k + 1, j, F, x => by
    rw [rM_lose_L14, rM_lose_L14]
    unfold rM_sums
    have e : up2 (up2 (up2 F 18 c v) 34 (6 * (4 : Int32).toNatClampNeg + (nI j).toNatClampNeg) (up2 F 18 c v 34 (6 * (4 : Int32).toNatClampNeg + (nI j).toNatClampNeg) + up2 F 18 c v 22 (6 * a1.toNatClampNeg + j))) 22 (6 * a1.toNatClampNeg + j) 0 = up2 (up2 (up2 F 34 (6 * (4 : Int32).toNatClampNeg + (nI j).toNatClampNeg) (F 34 (6 * (4 : Int32).toNatClampNeg + (nI j).toNatClampNeg) + F 22 (6 * a1.toNatClampNeg + j))) 22 (6 * a1.toNatClampNeg + j) 0) 18 c v := by
      show up2 (up2 (up2 F 18 c v) 34 _ (F 34 _ + F 22 _)) 22 _ 0 = _
      rw [up2_cm F (s := 18) (t := 34) (by decide), up2_cm _ (s := 18) (t := 22) (by decide)]
    rw [e, L14_cm k (j + 1)]
    rfl
theorem L71_cm {a1 : Int32} {c : Nat} {v : Int32} : ∀ (k j : Nat) (F : Nat → Nat → Int32), rM_lose_L71 a1 k j (up2 F 18 c v) = up2 (rM_lose_L71 a1 k j F) 18 c v
  | 0, _, _ => rfl
  | k + 1, j, F => by
    rw [rM_lose_L71, rM_lose_L71]
    by_cases c1 : F 28 j = 2000 + a1
    · rw [if_pos c1, if_pos (show up2 F 18 c v 28 j = 2000 + a1 from c1)]
      by_cases c2 : F 26 j = 1
      · rw [if_pos (show up2 F 28 j 1001 26 j = 1 from c2), if_pos (show up2 (up2 F 18 c v) 28 j 1001 26 j = 1 from c2)]
        have e : up2 (up2 (up2 F 18 c v) 28 j 1001) 44 0 (up2 (up2 F 18 c v) 28 j 1001 44 0 + up2 (up2 F 18 c v) 28 j 1001 30 j) = up2 (up2 (up2 F 28 j 1001) 44 0 (up2 F 28 j 1001 44 0 + up2 F 28 j 1001 30 j)) 18 c v := by
          show up2 (up2 (up2 F 18 c v) 28 j 1001) 44 0 (F 44 0 + F 30 j) = up2 (up2 (up2 F 28 j 1001) 44 0 (F 44 0 + F 30 j)) 18 c v
          rw [up2_cm F (s := 18) (t := 28) (by decide), up2_cm _ (s := 18) (t := 44) (by decide)]
        rw [e, L71_cm k (j + 1)]
      · rw [if_neg (show ¬ up2 F 28 j 1001 26 j = 1 from c2), if_neg (show ¬ up2 (up2 F 18 c v) 28 j 1001 26 j = 1 from c2), up2_cm F (s := 18) (t := 28) (by decide), L71_cm k (j + 1)]
    · rw [if_neg c1, if_neg (show ¬ up2 F 18 c v 28 j = 2000 + a1 from c1), L71_cm k (j + 1)]
theorem s_lose {n : Nat → Nat} {G F : Nat → Nat → Int32} (h : rel_ n G F) (hN : nb_ n) (a1 : Int32) : (sX_lose n G a1).1 = (rM_lose n F a1).1 ∧ rel_ n (sX_lose n G a1).2 (rM_lose n F a1).2 := by
  have e18 := h.1 18 rfl
  unfold sX_lose rM_lose rM_isAway
  rw [e18]
  by_cases h1 : sp_in a1 0 ((nI (n 3)) - 1) = 0
  · rw [if_pos h1, if_pos h1, if_pos rfl]; exact ⟨rfl, h⟩
  rw [if_neg h1, if_neg h1]
  by_cases h2 : F 18 a1.toNatClampNeg = 0
  · rw [if_pos h2, if_pos h2, if_neg (show ¬ (1 : Int32) = 0 by decide)]
    obtain ⟨l1, e1⟩ := sp_live2 h1 (by omega)
    generalize a1.toNatClampNeg = c at *
    subst e1
    have hr := rel_lost h l1
    have h18 : ¬ up2 F 18 c 2 18 c = 0 := by rw [up2_eq]; decide
    obtain ⟨p1, p2⟩ := s_loseL (n := n) (c := c) (by omega) 6 0 _ _ 0 rfl l1 hr h18
    rw [L14_cm] at p1 p2
    refine ⟨p2, ?_⟩
    have p3 := s_loseLL hN l1 (n 4) 0 _ _ (by omega) p1
    rw [L71_cm] at p3
    exact p3
  · rw [if_neg h2, if_neg h2, if_pos rfl]; exact ⟨rfl, h⟩
