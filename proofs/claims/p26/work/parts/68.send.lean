/-! send() -/
/-- what the reference does once all is allowed -/
def sT_ (n : Nat → Nat) (F : Nat → Nat → Int32) (a1 a2 : Int32) : Nat → Nat → Int32 := up2 (up2 (up2 (up2 (up2 (up2 F 14 (n 3) a1) 15 (n 3) (if F 6 a2.toNatClampNeg = a1 then F 7 a2.toNatClampNeg else F 6 a2.toNatClampNeg)) 16 (n 3) a2) 17 (n 3) (F 8 a2.toNatClampNeg)) 19 (n 3) (nI (n 0))) 20 (n 3) (-1)
def sU_ (n : Nat → Nat) (F : Nat → Nat → Int32) (a1 a2 : Int32) : Int32 × (Nat → Nat) × (Nat → Nat → Int32) := if rM_isOpen n F a2 (nI (n 0)) = 0 then ((-1), n, F) else (if nI (n 3) = 120 then ((-1), n, F) else (if nI (n 0) = 3000 then ((-1), n, F) else (nI (n 3), va_up n 3 (n 3 + 1), rM_send_L309 a1 n (n 4) 0 (rM_send_L223 a1 n 6 0 (sT_ n F a1 a2)))))
theorem sendL {n : Nat → Nat} {G F : Nat → Nat → Int32} (hq : rq_ G F) (a1 a2 : Int32) : ∀ (k j : Nat) (x : Int32), j + k = 6 → (sX_canLoad_L5 G a2.toNatClampNeg a1.toNatClampNeg k j x = 0 → rM_send_L49 n a2 a1 k j F x = ((-1), n, F)) ∧ (¬ sX_canLoad_L5 G a2.toNatClampNeg a1.toNatClampNeg k j x = 0 → rM_send_L49 n a2 a1 k j F x = sU_ n F a1 a2)
  | 0, j, x, _ => by
    rw [sX_canLoad_L5, rM_send_L49, hq 11 rfl]
    unfold sU_
    by_cases c1 : rM_isOpen n F a2 (nI (n 0)) = 0
    · rw [if_pos c1, if_pos c1]; exact ⟨fun _ => rfl, fun _ => rfl⟩
    rw [if_neg c1, if_neg c1]
    by_cases c2 : F 11 a2.toNatClampNeg < x
    · rw [if_pos c2, if_pos c2]; exact ⟨fun _ => rfl, fun z => absurd rfl z⟩
    · rw [if_neg c2, if_neg c2]
      exact ⟨fun z => absurd z (by decide), fun _ => rfl⟩
  | k + 1, j, x, hj => by
    rw [sX_canLoad_L5, rM_send_L49]
    have e : rM_stored n F a1 (nI j) = F 2 (6 * a1.toNatClampNeg + j) := by
      unfold rM_stored
      rw [nI_clamp (by omega)]
    rw [e, hq 12 rfl, hq 2 rfl]
    by_cases c : F 12 j ≤ F 2 (6 * a1.toNatClampNeg + j)
    · rw [if_pos c, if_pos c]
      have ih := sendL (n := n) hq a1 a2 k (j + 1) (x + F 12 j) (by omega)
      exact ih
    · rw [if_neg c, if_neg c]
      exact ⟨fun _ => rfl, fun z => absurd rfl z⟩
/-- the wares of the new canoe, in the reference's order -/
def cz_ (c : Nat) : Nat → Nat → (Nat → Nat → Int32) → (Nat → Nat → Int32)
  | 0, _, Y => Y
  | k + 1, j, Y => cz_ c k (j + 1) (up2 (up2 Y 22 (6 * c + j) (Y 12 j)) 23 (6 * c + j) (Y 12 j))
theorem cz_o {c : Nat} : ∀ (k j : Nat) (Y : Nat → Nat → Int32) (s : Nat), ¬ s = 22 → ¬ s = 23 → cz_ c k j Y s = Y s
  | 0, _, _, _, _, _ => rfl
  | k + 1, j, Y, s, h1, h2 => by rw [cz_, cz_o k (j + 1) _ s h1 h2, up2_ns _ _ _ h2, up2_ns _ _ _ h1]
theorem cz_2 {c p : Nat} {v : Int32} : ∀ (k j : Nat) (Y : Nat → Nat → Int32), cz_ c k j (up2 Y 2 p v) = up2 (cz_ c k j Y) 2 p v
  | 0, _, _ => rfl
  | k + 1, j, Y => by
    rw [cz_, cz_, ← cz_2 k (j + 1)]
    show cz_ c k (j + 1) (up2 (up2 (up2 Y 2 p v) 22 _ (Y 12 j)) 23 _ (Y 12 j)) = _
    rw [up2_cm Y (s := 2) (t := 22) (by decide), up2_cm _ (s := 2) (t := 23) (by decide)]
theorem cz_12 {c p : Nat} {v : Int32} : ∀ (k j : Nat) (Y : Nat → Nat → Int32), p < j → cz_ c k j (up2 Y 12 p v) = up2 (cz_ c k j Y) 12 p v
  | 0, _, _, _ => rfl
  | k + 1, j, Y, h => by
    rw [cz_, cz_, ← cz_12 k (j + 1) _ (by omega), up2_nk Y 12 v (show j ≠ p by omega), up2_cm Y (s := 12) (t := 22) (by decide), up2_cm _ (s := 12) (t := 23) (by decide)]
theorem cz_in {c : Nat} : ∀ (k j : Nat) (Y : Nat → Nat → Int32) (w : Nat), j ≤ w → w < j + k → cz_ c k j Y 22 (6 * c + w) = Y 12 w ∧ cz_ c k j Y 23 (6 * c + w) = Y 12 w
  | 0, j, _, w, h1, h2 => absurd h2 (by omega)
  | k + 1, j, Y, w, h1, h2 => by
    rw [cz_]
    by_cases e : w = j
    · have out : ∀ (k i : Nat) (Z : Nat → Nat → Int32), w < i → cz_ c k i Z 22 (6 * c + w) = Z 22 (6 * c + w) ∧ cz_ c k i Z 23 (6 * c + w) = Z 23 (6 * c + w) := by
        intro k
        induction k with
        | zero => intro i Z _; exact ⟨rfl, rfl⟩
        | succ k ih =>
          intro i Z hi
          rw [cz_]
          obtain ⟨q1, q2⟩ := ih (i + 1) (up2 (up2 Z 22 (6 * c + i) (Z 12 i)) 23 (6 * c + i) (Z 12 i)) (by omega)
          rw [q1, q2]
          refine ⟨?_, ?_⟩
          · show up2 Z 22 (6 * c + i) _ 22 (6 * c + w) = _
            rw [up2_nk Z 22 _ (by omega)]
          · rw [up2_nk _ 23 _ (show 6 * c + w ≠ 6 * c + i by omega)]
            rfl
      obtain ⟨q1, q2⟩ := out k (j + 1) (up2 (up2 Y 22 (6 * c + j) (Y 12 j)) 23 (6 * c + j) (Y 12 j)) (by omega)
      rw [q1, q2, e]
      refine ⟨?_, ?_⟩
      · show up2 Y 22 (6 * c + j) (Y 12 j) 22 (6 * c + j) = Y 12 j
        rw [up2_eq]
      · rw [up2_eq]
    · exact cz_in k (j + 1) _ w (by omega) (by omega)
theorem cz_out {c : Nat} : ∀ (k j : Nat) (Y : Nat → Nat → Int32) (x : Nat), j + k ≤ 6 → ¬ x / 6 = c → cz_ c k j Y 22 x = Y 22 x ∧ cz_ c k j Y 23 x = Y 23 x
  | 0, _, _, _, _, _ => ⟨rfl, rfl⟩
  | k + 1, j, Y, x, hj, h => by
    rw [cz_]
    obtain ⟨q1, q2⟩ := cz_out k (j + 1) (up2 (up2 Y 22 (6 * c + j) (Y 12 j)) 23 (6 * c + j) (Y 12 j)) x (by omega) h
    rw [q1, q2]
    refine ⟨?_, ?_⟩
    · show up2 Y 22 (6 * c + j) _ 22 x = _
      rw [up2_nk Y 22 _ (by omega)]
    · rw [up2_nk _ 23 _ (show x ≠ 6 * c + j by omega)]
      rfl
theorem L223_s {n : Nat → Nat} {a1 : Int32} : ∀ (k j : Nat) (Y : Nat → Nat → Int32), rM_send_L223 a1 n k j Y = sX_send_L140 a1 k j (cz_ (n 3) k j Y)
  | 0, _, _ => rfl
  | k + 1, j, Y => by
    rw [rM_send_L223, L223_s k (j + 1), sX_send_L140]
    congr 1
    rw [cz_o (k + 1) j Y 2 (by decide) (by decide), cz_o (k + 1) j Y 12 (by decide) (by decide), cz_, ← cz_2, ← cz_12 k (j + 1) _ (by omega)]
    congr 1
    show up2 (up2 (up2 (up2 Y 2 _ (Y 2 _ - Y 12 j)) 22 _ (Y 12 j)) 23 _ (Y 12 j)) 12 j 0 = up2 (up2 (up2 (up2 Y 22 _ (Y 12 j)) 23 _ (Y 12 j)) 2 _ (Y 2 _ - Y 12 j)) 12 j 0
    rw [up2_cm Y (s := 2) (t := 22) (by decide), up2_cm _ (s := 2) (t := 23) (by decide)]
theorem s_unload {n : Nat → Nat} {i : Nat} (hi : i < n 1) : ∀ (k j : Nat) (G F : Nat → Nat → Int32) (a1 : Int32), a1.toNatClampNeg = i → j + k = 6 → rel_ n G F → rel_ n (sX_send_L140 a1 k j G) (sX_send_L140 a1 k j F)
  | 0, _, _, _, _, _, _, h => h
  | k + 1, j, G, F, a1, ha, hj, h => by
    rw [sX_send_L140, sX_send_L140, ha, h.1 2 rfl, h.1 12 rfl]
    exact s_unload hi k (j + 1) _ _ a1 ha (by omega) (rel_12 (rel_2 h hi (show j < 6 by omega) _) j 0)
theorem rel_canoe {n : Nat → Nat} {G F : Nat → Nat → Int32} (h : rel_ n G F) (hN : nb_ n) {fr to wy : Nat} (hf : fr < n 1) (ht : to < n 1) (hft : ¬ fr = to) (hw : wy < n 2) (dy dt : Int32) : rel_ (va_up n 3 (n 3 + 1)) (nc_ G (n 3) (nI fr) (nI to) (nI wy) dy dt (fun w => G 12 w)) (cz_ (n 3) 6 0 (up2 (up2 (up2 (up2 (up2 (up2 F 14 (n 3) (nI fr)) 15 (n 3) (nI to)) 16 (n 3) (nI wy)) 17 (n 3) dy) 19 (n 3) dt) 20 (n 3) (-1))) := by
  obtain ⟨a1, a2, a3, a4, a5, a6, b1, b2, b3, b4, b5, b6, b7⟩ := h
  obtain ⟨c18, c21, c24⟩ := b5 (n 3) (Nat.le_refl _)
  generalize hY : up2 (up2 (up2 (up2 (up2 (up2 F 14 (n 3) (nI fr)) 15 (n 3) (nI to)) 16 (n 3) (nI wy)) 17 (n 3) dy) 19 (n 3) dt) 20 (n 3) (-1) = Y
  have yo : ∀ s, ¬ s = 14 → ¬ s = 15 → ¬ s = 16 → ¬ s = 17 → ¬ s = 19 → ¬ s = 20 → Y s = F s := fun s s1 s2 s3 s4 s5 s6 => by
    rw [← hY, up2_ns _ _ _ s6, up2_ns _ _ _ s5, up2_ns _ _ _ s4, up2_ns _ _ _ s3, up2_ns _ _ _ s2, up2_ns _ _ _ s1]
  have y12 : Y 12 = F 12 := yo 12 (by decide) (by decide) (by decide) (by decide) (by decide) (by decide)
  have y22 : Y 22 = F 22 := yo 22 (by decide) (by decide) (by decide) (by decide) (by decide) (by decide)
  have y23 : Y 23 = F 23 := yo 23 (by decide) (by decide) (by decide) (by decide) (by decide) (by decide)
  have y18 : Y 18 = F 18 := yo 18 (by decide) (by decide) (by decide) (by decide) (by decide) (by decide)
  have y24 : Y 24 = F 24 := yo 24 (by decide) (by decide) (by decide) (by decide) (by decide) (by decide)
  have y21 : Y 21 = F 21 := yo 21 (by decide) (by decide) (by decide) (by decide) (by decide) (by decide)
  have y14 : Y 14 = upd (F 14) (n 3) (nI fr) := by rw [← hY]; rfl
  have y15 : Y 15 = upd (F 15) (n 3) (nI to) := by rw [← hY]; rfl
  have y16 : Y 16 = upd (F 16) (n 3) (nI wy) := by rw [← hY]; rfl
  have y17 : Y 17 = upd (F 17) (n 3) dy := by rw [← hY]; rfl
  have y19 : Y 19 = upd (F 19) (n 3) dt := by rw [← hY]; rfl
  have y20 : Y 20 = upd (F 20) (n 3) (-1) := by rw [← hY]; rfl
  have zo : ∀ s, ¬ s = 22 → ¬ s = 23 → cz_ (n 3) 6 0 Y s = Y s := fun s s1 s2 => cz_o 6 0 Y s s1 s2
  have zi := fun w (hw : w < 6) => cz_in (c := n 3) 6 0 Y w (Nat.zero_le _) (by omega)
  have zu := fun x (hx : ¬ x / 6 = n 3) => cz_out (c := n 3) 6 0 Y x (by omega) hx
  generalize cz_ (n 3) 6 0 Y = Z at zo zi zu ⊢
  have go : ∀ s x, ¬ ow_ x s = (9, n 3) → ¬ ow_ x s = (10, n 3) → ¬ ow_ x s = (3, n 3) → nc_ G (n 3) (nI fr) (nI to) (nI wy) dy dt (fun w => G 12 w) s x = G s x := fun s x q1 q2 q3 => nc_o q1 q2 q3
  have g22 := fun w (hw : w < 6) => nc_22 (G := G) (k := n 3) (fr := nI fr) (to := nI to) (wy := nI wy) (dy := dy) (dt := dt) (g := fun w => G 12 w) hw
  have g23 := fun w (hw : w < 6) => nc_23 (G := G) (k := n 3) (fr := nI fr) (to := nI to) (wy := nI wy) (dy := dy) (dt := dt) (g := fun w => G 12 w) hw
  have g14 := nc_14 G (n 3) (nI fr) (nI to) (nI wy) dy dt (fun w => G 12 w)
  have g15 := nc_15 G (n 3) (nI fr) (nI to) (nI wy) dy dt (fun w => G 12 w)
  have g16 := nc_16 G (n 3) (nI fr) (nI to) (nI wy) dy dt (fun w => G 12 w)
  have g17 := nc_17 G (n 3) (nI fr) (nI to) (nI wy) dy dt (fun w => G 12 w)
  have g18 := nc_18 G (n 3) (nI fr) (nI to) (nI wy) dy dt (fun w => G 12 w)
  have g19 := nc_19 G (n 3) (nI fr) (nI to) (nI wy) dy dt (fun w => G 12 w)
  have g20 := nc_20 G (n 3) (nI fr) (nI to) (nI wy) dy dt (fun w => G 12 w)
  have g21 := nc_21 G (n 3) (nI fr) (nI to) (nI wy) dy dt (fun w => G 12 w)
  have g24 := nc_24 G (n 3) (nI fr) (nI to) (nI wy) dy dt (fun w => G 12 w)
  generalize nc_ G (n 3) (nI fr) (nI to) (nI wy) dy dt (fun w => G 12 w) = G' at go g22 g23 g14 g15 g16 g17 g18 g19 g20 g21 g24 ⊢
  -- a place of a canoe's own
  have own : ∀ s, (∀ x, ow_ x s = (3, x)) → ∀ x, ¬ x = n 3 → G' s x = G s x := fun s hs x hx => go s x (by rw [hs]; exact fun z => absurd (congrArg Prod.fst z) (show ¬ (3 : Nat) = 9 by decide)) (by rw [hs]; exact fun z => absurd (congrArg Prod.fst z) (show ¬ (3 : Nat) = 10 by decide)) (by rw [hs]; exact fun z => hx (congrArg Prod.snd z))
  have oth : ∀ s, (∀ x, ¬ (ow_ x s).1 = 9) → (∀ x, ¬ (ow_ x s).1 = 10) → (∀ x, ¬ (ow_ x s).1 = 3) → G' s = G s := fun s q1 q2 q3 => funext fun x => go s x (fun z => q1 x (by rw [z])) (fun z => q2 x (by rw [z])) (fun z => q3 x (by rw [z]))
  have O : ∀ s k, (∀ x, (ow_ x s).1 = k) → ¬ k = 9 → ¬ k = 10 → ¬ k = 3 → G' s = G s := fun s k hk q1 q2 q3 => oth s (fun x => by rw [hk]; exact q1) (fun x => by rw [hk]; exact q2) (fun x => by rw [hk]; exact q3)
  have sv : ∀ s (v : Int32), (∀ x, ow_ x s = (3, x)) → G' s (n 3) = v → G s = F s → G' s = upd (F s) (n 3) v := fun s v hs hv e => funext fun x => by
    by_cases ex : x = n 3
    · rw [ex, pk_us]; exact hv
    · rw [pk_un ex, own s hs x ex, e]
  have uz : ∀ s, F s (n 3) = 0 → upd (F s) (n 3) 0 = F s := fun s e => funext fun x => by
    by_cases ex : x = n 3
    · rw [ex, pk_us]; exact e.symm
    · rw [pk_un ex]
  have w22 : G' 22 = Z 22 := funext fun x => by
    by_cases ex : x / 6 = n 3
    · rw [show x = 6 * n 3 + x % 6 by omega, g22 _ (by omega), (zi _ (by omega)).1, y12, a1 12 rfl]
    · rw [(zu x ex).1, y22, ← a1 22 rfl]
      exact go 22 x (fun z => absurd (congrArg Prod.fst z) (show ¬ (10 : Nat) = 9 by decide)) (fun z => ex (congrArg Prod.snd z)) (fun z => absurd (congrArg Prod.fst z) (show ¬ (10 : Nat) = 3 by decide))
  have w23 : G' 23 = Z 23 := funext fun x => by
    by_cases ex : x / 6 = n 3
    · rw [show x = 6 * n 3 + x % 6 by omega, g23 _ (by omega), (zi _ (by omega)).2, y12, a1 12 rfl]
    · rw [(zu x ex).2, y23, ← a1 23 rfl]
      exact go 23 x (fun z => ex (congrArg Prod.snd z)) (fun z => absurd (congrArg Prod.fst z) (show ¬ (9 : Nat) = 10 by decide)) (fun z => absurd (congrArg Prod.fst z) (show ¬ (9 : Nat) = 3 by decide))
  have z18 : Z 18 = F 18 := (zo 18 (by decide) (by decide)).trans y18
  have z24 : Z 24 = F 24 := (zo 24 (by decide) (by decide)).trans y24
  have z17 : Z 17 = upd (F 17) (n 3) dy := (zo 17 (by decide) (by decide)).trans y17
  have z14 : Z 14 = upd (F 14) (n 3) (nI fr) := (zo 14 (by decide) (by decide)).trans y14
  have z15 : Z 15 = upd (F 15) (n 3) (nI to) := (zo 15 (by decide) (by decide)).trans y15
  have z16 : Z 16 = upd (F 16) (n 3) (nI wy) := (zo 16 (by decide) (by decide)).trans y16
  have z21 : Z 21 = F 21 := (zo 21 (by decide) (by decide)).trans y21
  have zf : ∀ s, ¬ s = 14 → ¬ s = 15 → ¬ s = 16 → ¬ s = 17 → ¬ s = 19 → ¬ s = 20 → ¬ s = 22 → ¬ s = 23 → Z s = F s := fun s s1 s2 s3 s4 s5 s6 s7 s8 => (zo s s7 s8).trans (yo s s1 s2 s3 s4 s5 s6)
  have f2 : Z 2 = F 2 := zf 2 (by decide) (by decide) (by decide) (by decide) (by decide) (by decide) (by decide) (by decide)
  have f3 : Z 3 = F 3 := zf 3 (by decide) (by decide) (by decide) (by decide) (by decide) (by decide) (by decide) (by decide)
  have f4 : Z 4 = F 4 := zf 4 (by decide) (by decide) (by decide) (by decide) (by decide) (by decide) (by decide) (by decide)
  have f6 : Z 6 = F 6 := zf 6 (by decide) (by decide) (by decide) (by decide) (by decide) (by decide) (by decide) (by decide)
  have f7 : Z 7 = F 7 := zf 7 (by decide) (by decide) (by decide) (by decide) (by decide) (by decide) (by decide) (by decide)
  have f26 : Z 26 = F 26 := zf 26 (by decide) (by decide) (by decide) (by decide) (by decide) (by decide) (by decide) (by decide)
  have f27 : Z 27 = F 27 := zf 27 (by decide) (by decide) (by decide) (by decide) (by decide) (by decide) (by decide) (by decide)
  have f28 : Z 28 = F 28 := zf 28 (by decide) (by decide) (by decide) (by decide) (by decide) (by decide) (by decide) (by decide)
  have f29 : Z 29 = F 29 := zf 29 (by decide) (by decide) (by decide) (by decide) (by decide) (by decide) (by decide) (by decide)
  have f32 : Z 32 = F 32 := zf 32 (by decide) (by decide) (by decide) (by decide) (by decide) (by decide) (by decide) (by decide)
  have e40 : G' 40 = G 40 := O 40 4 (fun _ => rfl) (by decide) (by decide) (by decide)
  have e41 : G' 41 = G 41 := O 41 4 (fun _ => rfl) (by decide) (by decide) (by decide)
  have e42 : G' 42 = G 42 := O 42 4 (fun _ => rfl) (by decide) (by decide) (by decide)
  have e43 : G' 43 = G 43 := O 43 12 (fun _ => rfl) (by decide) (by decide) (by decide)
  have w18 : G' 18 = F 18 := (sv 18 0 (fun _ => rfl) g18 (a1 18 rfl)).trans (uz 18 c18)
  have w21 : G' 21 = F 21 := (sv 21 0 (fun _ => rfl) g21 (a1 21 rfl)).trans (uz 21 c21)
  refine ⟨?_, fun d hd => ?_, fun d hd => ?_, fun l hl => ?_, fun l hl => ?_, ?_, fun w hw2 => ?_, fun d hd => ?_, fun l hl => ?_, fun i hi => ?_, fun d hd => ?_, fun i j hi hj h8 => ?_, fun i w hi hw2 => ?_⟩
  · intro s hs
    have hmem : s = 2 ∨ s = 3 ∨ s = 4 ∨ s = 6 ∨ s = 7 ∨ s = 8 ∨ s = 9 ∨ s = 10 ∨ s = 11 ∨ s = 12 ∨ s = 14 ∨ s = 15 ∨ s = 16 ∨ s = 18 ∨ s = 19 ∨ s = 20 ∨ s = 21 ∨ s = 22 ∨ s = 23 ∨ s = 26 ∨ s = 27 ∨ s = 29 ∨ s = 30 ∨ s = 31 ∨ s = 32 ∨ s = 33 ∨ s = 34 := by
      have : s ∈ [2, 3, 4, 6, 7, 8, 9, 10, 11, 12, 14, 15, 16, 18, 19, 20, 21, 22, 23, 26, 27, 29, 30, 31, 32, 33, 34] := List.contains_iff_mem.mp hs
      simpa using this
    have plain : ∀ t k, (∀ x, (ow_ x t).1 = k) → ¬ k = 9 → ¬ k = 10 → ¬ k = 3 → sh_ t = true → ¬ t = 14 → ¬ t = 15 → ¬ t = 16 → ¬ t = 17 → ¬ t = 19 → ¬ t = 20 → ¬ t = 22 → ¬ t = 23 → G' t = Z t := fun t k q0 q1 q2 q3 q4 s1 s2 s3 s4 s5 s6 s7 s8 => (O t k q0 q1 q2 q3).trans ((a1 t q4).trans (zf t s1 s2 s3 s4 s5 s6 s7 s8).symm)
    rcases hmem with rfl | rfl | rfl | rfl | rfl | rfl | rfl | rfl | rfl | rfl | rfl | rfl | rfl | rfl | rfl | rfl | rfl | rfl | rfl | rfl | rfl | rfl | rfl | rfl | rfl | rfl | rfl
    · exact plain 2 5 (fun _ => rfl) (by decide) (by decide) (by decide) rfl (by decide) (by decide) (by decide) (by decide) (by decide) (by decide) (by decide) (by decide)
    · exact plain 3 6 (fun _ => rfl) (by decide) (by decide) (by decide) rfl (by decide) (by decide) (by decide) (by decide) (by decide) (by decide) (by decide) (by decide)
    · exact plain 4 7 (fun _ => rfl) (by decide) (by decide) (by decide) rfl (by decide) (by decide) (by decide) (by decide) (by decide) (by decide) (by decide) (by decide)
    · exact plain 6 2 (fun _ => rfl) (by decide) (by decide) (by decide) rfl (by decide) (by decide) (by decide) (by decide) (by decide) (by decide) (by decide) (by decide)
    · exact plain 7 2 (fun _ => rfl) (by decide) (by decide) (by decide) rfl (by decide) (by decide) (by decide) (by decide) (by decide) (by decide) (by decide) (by decide)
    · exact plain 8 2 (fun _ => rfl) (by decide) (by decide) (by decide) rfl (by decide) (by decide) (by decide) (by decide) (by decide) (by decide) (by decide) (by decide)
    · exact plain 9 2 (fun _ => rfl) (by decide) (by decide) (by decide) rfl (by decide) (by decide) (by decide) (by decide) (by decide) (by decide) (by decide) (by decide)
    · exact plain 10 2 (fun _ => rfl) (by decide) (by decide) (by decide) rfl (by decide) (by decide) (by decide) (by decide) (by decide) (by decide) (by decide) (by decide)
    · exact plain 11 2 (fun _ => rfl) (by decide) (by decide) (by decide) rfl (by decide) (by decide) (by decide) (by decide) (by decide) (by decide) (by decide) (by decide)
    · exact plain 12 28 (fun _ => rfl) (by decide) (by decide) (by decide) rfl (by decide) (by decide) (by decide) (by decide) (by decide) (by decide) (by decide) (by decide)
    · rw [z14]; exact sv 14 _ (fun _ => rfl) g14 (a1 14 rfl)
    · rw [z15]; exact sv 15 _ (fun _ => rfl) g15 (a1 15 rfl)
    · rw [z16]; exact sv 16 _ (fun _ => rfl) g16 (a1 16 rfl)
    · rw [z18]; exact w18
    · rw [zo 19 (by decide) (by decide), y19]; exact sv 19 _ (fun _ => rfl) g19 (a1 19 rfl)
    · rw [zo 20 (by decide) (by decide), y20]; exact sv 20 _ (fun _ => rfl) g20 (a1 20 rfl)
    · rw [z21]; exact w21
    · exact w22
    · exact w23
    · exact plain 26 4 (fun _ => rfl) (by decide) (by decide) (by decide) rfl (by decide) (by decide) (by decide) (by decide) (by decide) (by decide) (by decide) (by decide)
    · exact plain 27 4 (fun _ => rfl) (by decide) (by decide) (by decide) rfl (by decide) (by decide) (by decide) (by decide) (by decide) (by decide) (by decide) (by decide)
    · exact plain 29 4 (fun _ => rfl) (by decide) (by decide) (by decide) rfl (by decide) (by decide) (by decide) (by decide) (by decide) (by decide) (by decide) (by decide)
    · exact plain 30 4 (fun _ => rfl) (by decide) (by decide) (by decide) rfl (by decide) (by decide) (by decide) (by decide) (by decide) (by decide) (by decide) (by decide)
    · exact plain 31 11 (fun _ => rfl) (by decide) (by decide) (by decide) rfl (by decide) (by decide) (by decide) (by decide) (by decide) (by decide) (by decide) (by decide)
    · exact plain 32 8 (fun _ => rfl) (by decide) (by decide) (by decide) rfl (by decide) (by decide) (by decide) (by decide) (by decide) (by decide) (by decide) (by decide)
    · exact plain 33 13 (fun _ => rfl) (by decide) (by decide) (by decide) rfl (by decide) (by decide) (by decide) (by decide) (by decide) (by decide) (by decide) (by decide)
    · exact plain 34 14 (fun _ => rfl) (by decide) (by decide) (by decide) rfl (by decide) (by decide) (by decide) (by decide) (by decide) (by decide) (by decide) (by decide)
  · have hd : d < n 3 + 1 := hd
    rw [z18, z17]
    by_cases e : d = n 3
    · rw [e, pk_us, c18, g17]
      exact ⟨fun _ => rfl, fun z => absurd rfl z⟩
    · rw [pk_un e, own 17 (fun _ => rfl) d e]
      exact a2 d (by omega)
  · have hd : d < n 3 + 1 := hd
    rw [z18, z24]
    by_cases e : d = n 3
    · rw [e, c18, c24, g24]
      refine ⟨fun _ => ⟨rfl, ⟨fun _ w hw2 => ?_, fun _ => rfl⟩, fun w hw2 => ?_⟩, fun z => absurd z (by decide)⟩
      · rw [(zi w hw2).1, (zi w hw2).2]
      · rw [(zi w hw2).1, (zi w hw2).2, sp_le]
        omega
    · rw [own 24 (fun _ => rfl) d e]
      have zz : ∀ w, w < 6 → Z 22 (6 * d + w) = F 22 (6 * d + w) ∧ Z 23 (6 * d + w) = F 23 (6 * d + w) := fun w hw2 => by
        have hx : ¬ (6 * d + w) / 6 = n 3 := by omega
        rw [(zu _ hx).1, (zu _ hx).2, y22, y23]
        exact ⟨rfl, rfl⟩
      obtain ⟨d1, d2⟩ := a3 d (by omega)
      refine ⟨fun z => ?_, d2⟩
      obtain ⟨p1, p2, p3⟩ := d1 z
      refine ⟨p1, ⟨fun y w hw2 => ?_, fun y => p2.mpr (fun w hw2 => ?_)⟩, fun w hw2 => ?_⟩
      · rw [(zz w hw2).1, (zz w hw2).2]; exact p2.mp y w hw2
      · have := y w hw2
        rw [(zz w hw2).1, (zz w hw2).2] at this
        exact this
      · rw [(zz w hw2).1, (zz w hw2).2]; exact p3 w hw2
  · rw [f28, e41, e42]
    rcases a4 l hl with r | r | ⟨k, hk, r⟩
    · exact Or.inl r
    · exact Or.inr (Or.inl r)
    · exact Or.inr (Or.inr ⟨k, Nat.lt_succ_of_lt hk, r⟩)
  · rw [f26, f29, e40]; exact a5 l hl
  · obtain ⟨D, hG, hD⟩ := a6
    refine ⟨D, fun i j hi hj => by rw [e43]; exact hG i j hi hj, ?_⟩
    have ej : jo_ (va_up n 3 (n 3 + 1)) Z = jo_ n F := by
      funext a b
      unfold jo_
      rw [f6, f7]
      rfl
    unfold de_
    rw [ej]
    exact hD
  · rw [f6, f7]; exact b1 w hw2
  · have hd : d < n 3 + 1 := hd
    rw [z14, z15, z16, z18]
    by_cases e : d = n 3
    · rw [e, pk_us, pk_us, pk_us]
      exact ⟨⟨fr, to, wy, hf, ht, hft, hw, rfl, rfl, rfl⟩, Or.inl c18⟩
    · rw [pk_un e, pk_un e, pk_un e]
      exact b2 d (by omega)
  · rw [f26, f27, f29]; exact b3 l hl
  · rw [f2, f3, f4, f32]; exact b4 i hi
  · rw [z18, z21, z24]; exact b5 d (Nat.le_trans (Nat.le_succ _) hd)
  · rw [f32]; exact b6 i j hi hj h8
  · rw [f32, f26]; exact b7 i w hi hw2
/-- a letter is taken -/
theorem rel_take {n : Nat → Nat} {G F : Nat → Nat → Int32} (h : rel_ n G F) {l c : Nat} (hc : c < n 3) : rel_ n (up2 (up2 G 41 l (-1)) 42 l (nI c)) (up2 F 28 l (2000 + nI c)) := by
  obtain ⟨a1, a2, a3, a4, a5, a6, b⟩ := h
  refine ⟨rq_r (rq_l (rq_l a1 l (-1) rfl) l (nI c) rfl) l _ rfl, a2, a3, fun x hx => ?_, a5, a6, b⟩
  show bg_ n (upd (F 28) l (2000 + nI c) x) (upd (G 41) l (-1) x) (upd (G 42) l (nI c) x)
  by_cases e : x = l
  · rw [e, pk_us, pk_us, pk_us]
    exact Or.inr (Or.inr ⟨c, hc, nI_add 2000 c, rfl, rfl⟩)
  · rw [pk_un e, pk_un e, pk_un e]
    exact a4 x hx
theorem bg_p {n : Nat → Nat} {f b c : Int32} (h : bg_ n f b c) (hN : n 1 ≤ 8 ∧ n 3 ≤ 1000) {k : Nat} (hk : k < n 1) : b = nI k ↔ f = nI k := by
  rcases h with ⟨p, hp, ef, eb, -⟩ | ⟨ef, eb, -⟩ | ⟨m, hm, ef, eb, -⟩
  · rw [ef, eb]
  · rw [eb]
    refine ⟨fun z => absurd z.symm (nI_n1 (by omega)), fun z => ?_⟩
    rcases ef with ef | ef
    · rw [ef] at z
      exact absurd z (nI_ne (a := 1000) (by omega) (by decide) (by omega))
    · rw [ef] at z
      exact absurd z (nI_ne (a := 1001) (by omega) (by decide) (by omega))
  · rw [ef, eb]
    exact ⟨fun z => absurd z.symm (nI_n1 (by omega)), fun z => absurd z (nI_ne (by omega) (by omega) (by omega))⟩
theorem s_take {n : Nat → Nat} (hN : nb_ n) {i t : Nat} (hi : i < n 1) (h3 : n 3 < 120) : ∀ (k j : Nat) (G F : Nat → Nat → Int32) (x : Int32), j + k = n 4 → rel_ (va_up n 3 (n 3 + 1)) G (up2 F 21 (n 3) 0) → F 21 (n 3) = x → F 14 (n 3) = nI i → F 15 (n 3) = nI t → rel_ (va_up n 3 (n 3 + 1)) (sX_takeLetters_L5 (n 3) (va_up n 3 (n 3 + 1)) (nI (n 3)) k j G x).1 (up2 (rM_send_L309 (nI i) n k j F) 21 (n 3) 0) ∧ rM_send_L309 (nI i) n k j F 21 (n 3) = (sX_takeLetters_L5 (n 3) (va_up n 3 (n 3 + 1)) (nI (n 3)) k j G x).2
  | 0, _, G, F, x, _, h, e, _, _ => ⟨h, e⟩
  | k + 1, j, G, F, x, hj, h, e21, e14, e15 => by
    rw [sX_takeLetters_L5, rM_send_L309]
    have g14 : G 14 (n 3) = nI i := (congrFun (h.1 14 rfl) _).trans e14
    have g15 : G 15 (n 3) = nI t := (congrFun (h.1 15 rfl) _).trans e15
    have g27 : G 27 j = F 27 j := congrFun (h.1 27 rfl) j
    have hb : bg_ (va_up n 3 (n 3 + 1)) (F 28 j) (G 41 j) (G 42 j) := h.2.2.2.1 j (show j < n 4 by omega)
    rw [g14, g15, g27]
    have eb : G 41 j = nI i ↔ F 28 j = nI i := bg_p hb ⟨hN.2.1, by show n 3 + 1 ≤ 1000; omega⟩ hi
    by_cases c1 : F 28 j = nI i
    · rw [if_pos (eb.mpr c1), if_pos c1]
      have hdx : dx_ n G F := h.2.2.2.2.2.1
      have hw : ivw_ n F := h.2.2.2.2.2.2.1
      obtain ⟨p1, p2⟩ := e_next0 hdx hw hN (nI i) (F 27 j)
      have p1' : sX_next (va_up n 3 (n 3 + 1)) G (nI i) (F 27 j) = (rM_next n F (nI i) (F 27 j)).1 := p1
      rw [p1']
      generalize (rM_next n F (nI i) (F 27 j)).1 = r
      generalize (rM_next n F (nI i) (F 27 j)).2 = Fn at p2 ⊢
      have q15 : Fn 15 (n 3) = nI t := by rw [p2 15 (by decide)]; exact e15
      have q14 : Fn 14 (n 3) = nI i := by rw [p2 14 (by decide)]; exact e14
      have q21 : Fn 21 (n 3) = x := by rw [p2 21 (by decide)]; exact e21
      have hn : rel_ (va_up n 3 (n 3 + 1)) G (up2 Fn 21 (n 3) 0) := rel_ext h (fun s hs => by
        by_cases e : s = 21
        · rw [e]
          unfold up2
          rw [va_up_self, va_up_self, p2 21 (by decide)]
        · rw [up2_ns _ _ _ e, up2_ns _ _ _ e]; exact p2 s hs)
      rw [q15]
      by_cases c2 : r = nI t
      · rw [if_pos c2, if_pos c2]
        have e28 : up2 Fn 28 j (2000 + nI (n 3)) 21 (n 3) = x := q21
        rw [e28]
        refine s_take hN hi h3 k (j + 1) _ _ (x + 1) (by omega) ?_ (up2_eq _ _ _ _) q14 q15
        have := rel_take (l := j) (c := n 3) hn (show n 3 < n 3 + 1 by omega)
        have ec : up2 (up2 (up2 Fn 28 j (2000 + nI (n 3))) 21 (n 3) (x + 1)) 21 (n 3) 0 = up2 (up2 Fn 21 (n 3) 0) 28 j (2000 + nI (n 3)) := by
          rw [up2_cm Fn (s := 21) (t := 28) (by decide)]
          funext s y
          by_cases es : s = 21 ∧ y = n 3
          · rw [es.1, es.2, up2_eq, up2_eq]
          · rw [up2_or _ _ es, up2_or _ _ es, up2_or _ _ es]
        rw [ec]
        exact this
      · rw [if_neg c2, if_neg c2]
        exact s_take hN hi h3 k (j + 1) _ _ x (by omega) hn q21 q14 q15
    · rw [if_neg (fun z => c1 (eb.mp z)), if_neg c1]
      exact s_take hN hi h3 k (j + 1) _ _ x (by omega) h e21 e14 e15
theorem rel_21 {n : Nat → Nat} {G F : Nat → Nat → Int32} (h : rel_ n G F) {c : Nat} (hc : c < n 3) (v : Int32) : rel_ n (up2 G 21 c v) (up2 F 21 c v) := by
  obtain ⟨a1, a2, a3, a4, a5, a6, b1, b2, b3, b4, b5, b6, b7⟩ := h
  refine ⟨rq_up a1 21 c v, a2, a3, a4, a5, a6, b1, b2, b3, b4, fun d hd => ?_, b6, b7⟩
  show F 18 d = 0 ∧ upd (F 21) c v d = 0 ∧ F 24 d = 0
  rw [pk_un (by omega)]
  exact b5 d hd
/-! who may send -/
theorem L140_o {a1 : Int32} : ∀ (k j : Nat) (Y : Nat → Nat → Int32) (s : Nat), ¬ s = 2 → ¬ s = 12 → sX_send_L140 a1 k j Y s = Y s
  | 0, _, _, _, _, _ => rfl
  | k + 1, j, Y, s, h1, h2 => by rw [sX_send_L140, L140_o k (j + 1) _ s h1 h2, up2_ns _ _ _ h2, up2_ns _ _ _ h1]
theorem s_send {n : Nat → Nat} {G F : Nat → Nat → Int32} (h : rel_ n G F) (hN : nb_ n) (a1 a2 : Int32) : (sX_send n G a1 a2).1 = (rM_send n F a1 a2).1 ∧ (sX_send n G a1 a2).2.1 = (rM_send n F a1 a2).2.1 ∧ rel_ (sX_send n G a1 a2).2.1 (sX_send n G a1 a2).2.2 (rM_send n F a1 a2).2.2 := by
  unfold sX_send rM_send rM_send_M44
  by_cases h1 : sp_in a1 0 ((nI (n 1)) - 1) = 0
  · rw [if_pos h1, if_pos h1]
    simp only [ite_self]
    exact ⟨trivial, trivial, h⟩
  rw [if_neg h1, if_neg h1]
  by_cases h2 : sp_in a2 0 ((nI (n 2)) - 1) = 0
  · rw [if_pos h2, if_pos h2]; exact ⟨rfl, rfl, h⟩
  rw [if_neg h2, if_neg h2]
  obtain ⟨l1, e1⟩ := sp_live2 h1 (by omega)
  obtain ⟨l2, e2⟩ := sp_live2 h2 (by omega)
  have hst : sX_Way_startsAt n G a2.toNatClampNeg a1 = if F 6 a2.toNatClampNeg = a1 ∨ F 7 a2.toNatClampNeg = a1 then 1 else 0 := by
    unfold sX_Way_startsAt
    rw [h.1 6 rfl, h.1 7 rfl]
    by_cases c1 : a1 = F 6 a2.toNatClampNeg
    · rw [if_pos c1, if_pos (Or.inl c1.symm)]
    rw [if_neg c1]
    by_cases c2 : a1 = F 7 a2.toNatClampNeg
    · rw [if_pos c2, if_pos (Or.inr c2.symm)]
    · rw [if_neg c2, if_neg (fun z => z.elim (fun z => c1 z.symm) (fun z => c2 z.symm))]
  rw [hst]
  by_cases c : F 6 a2.toNatClampNeg = a1 ∨ F 7 a2.toNatClampNeg = a1
  · rw [if_pos c, if_neg (show ¬ (1 : Int32) = 0 by decide)]
    have hm : (if F 6 a2.toNatClampNeg = a1 then rM_send_L49 n a2 a1 6 0 F 0 else if F 7 a2.toNatClampNeg = a1 then rM_send_L49 n a2 a1 6 0 F 0 else ((-1), n, F)) = rM_send_L49 n a2 a1 6 0 F 0 := by
      by_cases c1 : F 6 a2.toNatClampNeg = a1
      · rw [if_pos c1]
      · rw [if_neg c1, if_pos (c.resolve_left c1)]
    rw [hm]
    have eo : sX_Way_isOpenOn n G a2.toNatClampNeg (nI (n 0)) = rM_isOpen n F a2 (nI (n 0)) := by
      unfold sX_Way_isOpenOn rM_isOpen
      rw [h.1 9 rfl, h.1 10 rfl]
    rw [eo]
    obtain ⟨s1, s2⟩ := sendL (n := n) h.1 a1 a2 6 0 0 rfl
    unfold sX_canLoad
    by_cases c5 : sX_canLoad_L5 G a2.toNatClampNeg a1.toNatClampNeg 6 0 0 = 0
    · rw [s1 c5, if_pos c5]
      simp only [ite_self]
      exact ⟨trivial, trivial, h⟩
    rw [s2 c5, if_neg c5]
    unfold sU_
    by_cases c6 : rM_isOpen n F a2 (nI (n 0)) = 0
    · rw [if_pos c6, if_pos c6]; exact ⟨rfl, rfl, h⟩
    rw [if_neg c6, if_neg c6]
    have h120 : 120 ≤ nI (n 3) ↔ nI (n 3) = 120 := by
      have z1 : (120 : Int32) ≤ nI (n 3) ↔ 120 ≤ n 3 := nI_leI (a := 120) (by decide) (by omega)
      have z2 : nI (n 3) = 120 ↔ n 3 = 120 := nI_eq (b := 120) (by omega) (by decide)
      rw [z1, z2]
      omega
    have h3000 : nI (n 0) < 3000 ↔ ¬ nI (n 0) = 3000 := nI_lt8 (B := 3000) (by decide) hN.1
    by_cases c7 : nI (n 3) = 120
    · rw [if_pos c7, if_pos (h120.mpr c7)]; exact ⟨rfl, rfl, h⟩
    rw [if_neg c7, if_neg (fun z => c7 (h120.mp z))]
    by_cases c8 : nI (n 0) = 3000
    · rw [if_pos c8, if_neg (fun z => h3000.mp z c8)]; exact ⟨rfl, rfl, h⟩
    rw [if_neg c8, if_pos (h3000.mpr c8)]
    have hn3 : n 3 < 120 := by
      have : ¬ n 3 = 120 := fun z => c7 (by rw [z]; rfl)
      omega
    refine ⟨rfl, rfl, ?_⟩
    obtain ⟨x, y, hx, hy, hxy, e6, e7⟩ := h.2.2.2.2.2.2.1 a2.toNatClampNeg l2
    obtain ⟨t, ht, hat, et⟩ : ∃ t, t < n 1 ∧ ¬ a1.toNatClampNeg = t ∧ (if F 6 a2.toNatClampNeg = a1 then F 7 a2.toNatClampNeg else F 6 a2.toNatClampNeg) = nI t := by
      by_cases c1 : F 6 a2.toNatClampNeg = a1
      · rw [if_pos c1]
        refine ⟨y, hy, fun z => ?_, e7⟩
        rw [e6, e1, z] at c1
        exact hxy ((nI_eq (by omega) (by omega)).mp c1)
      · rw [if_neg c1]
        have c2 := c.resolve_left c1
        refine ⟨x, hx, fun z => ?_, e6⟩
        rw [e7, e1, z] at c2
        exact hxy ((nI_eq (by omega) (by omega)).mp c2).symm
    have eoe : sX_Way_otherEnd n G a2.toNatClampNeg a1 = nI t := by
      unfold sX_Way_otherEnd
      rw [h.1 6 rfl, h.1 7 rfl, ← et]
      by_cases c1 : F 6 a2.toNatClampNeg = a1
      · rw [if_pos c1, if_pos c1.symm]
      · rw [if_neg c1, if_neg (fun z => c1 z.symm)]
    rw [eoe, h.1 8 rfl]
    have hT : sT_ n F a1 a2 = up2 (up2 (up2 (up2 (up2 (up2 F 14 (n 3) a1) 15 (n 3) (nI t)) 16 (n 3) a2) 17 (n 3) (F 8 a2.toNatClampNeg)) 19 (n 3) (nI (n 0))) 20 (n 3) (-1) := by
      unfold sT_
      rw [et]
    rw [hT]
    have hr := rel_canoe h hN l1 ht hat l2 (F 8 a2.toNatClampNeg) (nI (n 0))
    rw [← e1, ← e2] at hr
    rw [L223_s]
    have hu := s_unload (n := va_up n 3 (n 3 + 1)) (i := a1.toNatClampNeg) l1 6 0 _ _ a1 rfl rfl hr
    generalize nc_ G (n 3) a1 (nI t) a2 (F 8 a2.toNatClampNeg) (nI (n 0)) (fun w => G 12 w) = G1 at hu ⊢
    have z14 : sX_send_L140 a1 6 0 (cz_ (n 3) 6 0 (up2 (up2 (up2 (up2 (up2 (up2 F 14 (n 3) a1) 15 (n 3) (nI t)) 16 (n 3) a2) 17 (n 3) (F 8 a2.toNatClampNeg)) 19 (n 3) (nI (n 0))) 20 (n 3) (-1))) 14 (n 3) = a1 := by
      rw [L140_o _ _ _ 14 (by decide) (by decide), cz_o _ _ _ 14 (by decide) (by decide)]
      exact up2_eq F 14 (n 3) a1
    have z15 : sX_send_L140 a1 6 0 (cz_ (n 3) 6 0 (up2 (up2 (up2 (up2 (up2 (up2 F 14 (n 3) a1) 15 (n 3) (nI t)) 16 (n 3) a2) 17 (n 3) (F 8 a2.toNatClampNeg)) 19 (n 3) (nI (n 0))) 20 (n 3) (-1))) 15 (n 3) = nI t := by
      rw [L140_o _ _ _ 15 (by decide) (by decide), cz_o _ _ _ 15 (by decide) (by decide)]
      exact up2_eq F 15 (n 3) (nI t)
    have z21 : sX_send_L140 a1 6 0 (cz_ (n 3) 6 0 (up2 (up2 (up2 (up2 (up2 (up2 F 14 (n 3) a1) 15 (n 3) (nI t)) 16 (n 3) a2) 17 (n 3) (F 8 a2.toNatClampNeg)) 19 (n 3) (nI (n 0))) 20 (n 3) (-1))) 21 (n 3) = 0 := by
      rw [L140_o _ _ _ 21 (by decide) (by decide), cz_o _ _ _ 21 (by decide) (by decide)]
      exact (h.2.2.2.2.2.2.2.2.2.2.1 (n 3) (Nat.le_refl _)).2.1
    generalize sX_send_L140 a1 6 0 (cz_ (n 3) 6 0 (up2 (up2 (up2 (up2 (up2 (up2 F 14 (n 3) a1) 15 (n 3) (nI t)) 16 (n 3) a2) 17 (n 3) (F 8 a2.toNatClampNeg)) 19 (n 3) (nI (n 0))) 20 (n 3) (-1))) = F2 at hu z14 z15 z21 ⊢
    have id21 : ∀ (X : Nat → Nat → Int32) (v w : Int32), X 21 (n 3) = v → up2 (up2 X 21 (n 3) w) 21 (n 3) v = X := fun X v w hv => by
      funext s y
      by_cases es : s = 21 ∧ y = n 3
      · rw [es.1, es.2, up2_eq]; exact hv.symm
      · rw [up2_or _ _ es, up2_or _ _ es]
    have hu0 : rel_ (va_up n 3 (n 3 + 1)) (sX_send_L140 a1 6 0 G1) (up2 F2 21 (n 3) 0) := by
      have : up2 F2 21 (n 3) 0 = F2 := by
        have := id21 F2 0 0 z21
        funext s y
        by_cases es : s = 21 ∧ y = n 3
        · rw [es.1, es.2, up2_eq]; exact z21.symm
        · rw [up2_or _ _ es]
      rw [this]
      exact hu
    rw [e1] at z14
    obtain ⟨p1, p2⟩ := s_take hN l1 hn3 (n 4) 0 _ F2 0 (by omega) hu0 z21 z14 z15
    rw [← e1] at p1 p2
    have fin := rel_21 p1 (show n 3 < n 3 + 1 by omega) (rM_send_L309 a1 n (n 4) 0 F2 21 (n 3))
    rw [id21 _ _ 0 rfl, p2] at fin
    exact fin
  · rw [if_neg c, if_pos rfl, if_neg (fun z => c (Or.inl z)), if_neg (fun z => c (Or.inr z))]
    exact ⟨rfl, rfl, h⟩
