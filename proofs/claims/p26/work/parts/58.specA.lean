/-- a canoe that is sent -/
def nc_ (G : Nat → Nat → Int32) (k : Nat) (fr to wy dy dt : Int32) (g : Nat → Int32) : Nat → Nat → Int32 := c6_ (c6_ (up2 (up2 (up2 (up2 (up2 (up2 (up2 (up2 (up2 G 14 k fr) 15 k to) 16 k wy) 17 k dy) 18 k 0) 19 k dt) 20 k (-1)) 21 k 0) 24 k 0) 22 (6 * k) g) 23 (6 * k) g
theorem nc_o {G : Nat → Nat → Int32} {k : Nat} {fr to wy dy dt : Int32} {g : Nat → Int32} {s x : Nat} (h9 : ¬ ow_ x s = (9, k)) (h10 : ¬ ow_ x s = (10, k)) (h3 : ¬ ow_ x s = (3, k)) : nc_ G k fr to wy dy dt g s x = G s x :=
  (c6_o (fun z => h9 (by rw [z.1]; show (9, x / 6) = (9, k); rw [show x / 6 = k by omega]))).trans ((c6_o (fun z => h10 (by rw [z.1]; show (10, x / 6) = (10, k); rw [show x / 6 = k by omega]))).trans ((up2_ow h3 rfl).trans ((up2_ow h3 rfl).trans ((up2_ow h3 rfl).trans ((up2_ow h3 rfl).trans ((up2_ow h3 rfl).trans ((up2_ow h3 rfl).trans ((up2_ow h3 rfl).trans ((up2_ow h3 rfl).trans (up2_ow h3 rfl))))))))))
theorem nc_23 {G : Nat → Nat → Int32} {k : Nat} {fr to wy dy dt : Int32} {g : Nat → Int32} {w : Nat} (hw : w < 6) : nc_ G k fr to wy dy dt g 23 (6 * k + w) = g w := c6_i hw
theorem nc_22 {G : Nat → Nat → Int32} {k : Nat} {fr to wy dy dt : Int32} {g : Nat → Int32} {w : Nat} (hw : w < 6) : nc_ G k fr to wy dy dt g 22 (6 * k + w) = g w := (c6_o (fun z => absurd z.1 (by decide))).trans (c6_i hw)
theorem nc_14 (G : Nat → Nat → Int32) (k : Nat) (fr to wy dy dt : Int32) (g : Nat → Int32) : nc_ G k fr to wy dy dt g 14 k = fr := (c6_o (fun z => absurd z.1 (by decide))).trans ((c6_o (fun z => absurd z.1 (by decide))).trans (show upd (G 14) k fr k = fr from pk_us))
theorem nc_15 (G : Nat → Nat → Int32) (k : Nat) (fr to wy dy dt : Int32) (g : Nat → Int32) : nc_ G k fr to wy dy dt g 15 k = to := (c6_o (fun z => absurd z.1 (by decide))).trans ((c6_o (fun z => absurd z.1 (by decide))).trans (show upd (G 15) k to k = to from pk_us))
theorem nc_16 (G : Nat → Nat → Int32) (k : Nat) (fr to wy dy dt : Int32) (g : Nat → Int32) : nc_ G k fr to wy dy dt g 16 k = wy := (c6_o (fun z => absurd z.1 (by decide))).trans ((c6_o (fun z => absurd z.1 (by decide))).trans (show upd (G 16) k wy k = wy from pk_us))
theorem nc_19 (G : Nat → Nat → Int32) (k : Nat) (fr to wy dy dt : Int32) (g : Nat → Int32) : nc_ G k fr to wy dy dt g 19 k = dt := (c6_o (fun z => absurd z.1 (by decide))).trans ((c6_o (fun z => absurd z.1 (by decide))).trans (show upd (G 19) k dt k = dt from pk_us))
theorem nc_21 (G : Nat → Nat → Int32) (k : Nat) (fr to wy dy dt : Int32) (g : Nat → Int32) : nc_ G k fr to wy dy dt g 21 k = 0 := (c6_o (fun z => absurd z.1 (by decide))).trans ((c6_o (fun z => absurd z.1 (by decide))).trans (show upd (G 21) k 0 k = 0 from pk_us))
theorem nc_17 (G : Nat → Nat → Int32) (k : Nat) (fr to wy dy dt : Int32) (g : Nat → Int32) : nc_ G k fr to wy dy dt g 17 k = dy := (c6_o (fun z => absurd z.1 (by decide))).trans ((c6_o (fun z => absurd z.1 (by decide))).trans (show upd (G 17) k dy k = dy from pk_us))
theorem nc_20 (G : Nat → Nat → Int32) (k : Nat) (fr to wy dy dt : Int32) (g : Nat → Int32) : nc_ G k fr to wy dy dt g 20 k = (-1) := (c6_o (fun z => absurd z.1 (by decide))).trans ((c6_o (fun z => absurd z.1 (by decide))).trans (show upd (G 20) k (-1) k = (-1) from pk_us))
theorem nc_18 (G : Nat → Nat → Int32) (k : Nat) (fr to wy dy dt : Int32) (g : Nat → Int32) : nc_ G k fr to wy dy dt g 18 k = 0 := (c6_o (fun z => absurd z.1 (by decide))).trans ((c6_o (fun z => absurd z.1 (by decide))).trans (show upd (G 18) k 0 k = 0 from pk_us))
theorem nc_24 (G : Nat → Nat → Int32) (k : Nat) (fr to wy dy dt : Int32) (g : Nat → Int32) : nc_ G k fr to wy dy dt g 24 k = 0 := (c6_o (fun z => absurd z.1 (by decide))).trans ((c6_o (fun z => absurd z.1 (by decide))).trans (show upd (G 24) k 0 k = 0 from pk_us))
/-- what is not yet there is as new -/
def fr_ (n : Nat → Nat) (G : Nat → Nat → Int32) : Prop := ∀ i, n 1 ≤ i → (∀ x, x < 6 → G 2 (6 * i + x) = 0) ∧ (∀ x, x < 6 → G 3 (6 * i + x) = 1) ∧ (∀ x, x < 12 → G 4 (12 * i + x) = 0) ∧ ∀ x, x < 8 → G 32 (8 * i + x) = -1
theorem sX_canWrite_b {n : Nat → Nat} {G : Nat → Nat → Int32} {a1 a2 : Int32} (hN : nb_ n) (h : ¬ sX_canWrite n G a1 a2 = 0) : n 4 < 300 := by
  by_cases h1 : sX_areTwoPosts n G a1 a2 = 0
  · exact absurd (show sX_canWrite n G a1 a2 = 0 from if_pos h1) h
  · refine Nat.lt_of_not_le fun z => h ?_
    exact (if_neg h1).trans (if_pos (nI_le (a := 300) z (by omega)))
def sX_way (n : Nat → Nat) (G : Nat → Nat → Int32) (a1 : Int32) (a2 : Int32) (a3 : Int32) (a4 : Int32) : Int32 × (Nat → Nat) × (Nat → Nat → Int32) :=
  (if (sX_areTwoPosts n G a1 a2) = 0 then ((-1), n, G) else (if (G 43 (8 * a1.toNatClampNeg + a2.toNatClampNeg)) = 1 then ((-1), n, G) else (if (nI (n 2)) < 12 then (if a3 < 0 then ((-1), n, G) else (if (sp_in a4 1 500) = 0 then ((-1), n, G) else (if (sp_in (a3 / 1000000) 1 40) = 0 then ((-1), n, G) else (if (a3 - a3 / 1000 * 1000) < ((a3 / 1000) - (a3 / 1000) / 1000 * 1000) then ((-1), n, G) else (if (a3 - a3 / 1000 * 1000) < 365 then (((nI ((va_up n 2 (n 2 + 1)) 2)) - 1), (va_up n 2 (n 2 + 1)), (sX_shortenDistances (va_up n 2 (n 2 + 1)) (up2 (up2 (up2 (up2 (up2 (up2 G 6 (n 2) a1) 7 (n 2) a2) 8 (n 2) (a3 / 1000000)) 9 (n 2) ((a3 / 1000) - (a3 / 1000) / 1000 * 1000)) 10 (n 2) (a3 - a3 / 1000 * 1000)) 11 (n 2) a4) a1 a2)) else ((-1), n, G)))))) else ((-1), n, G))))

def sX_order (n : Nat → Nat) (G : Nat → Nat → Int32) (a1 : Int32) (a2 : Int32) (a3 : Int32) (a4 : Int32) : Int32 × (Nat → Nat) × (Nat → Nat → Int32) :=
  (if (sX_canWrite n G a1 a2) = 0 then ((-1), n, G) else (if (sp_in a3 0 5) = 0 then ((-1), n, G) else (if (sp_in a4 1 100) = 0 then ((-1), n, G) else ((nI (n 4)), (va_up n 4 (n 4 + 1)), (nl_ G (n 4) 0 a1 a2 a3 a4)))))

def sX_debt (n : Nat → Nat) (G : Nat → Nat → Int32) (a1 : Int32) (a2 : Int32) (a3 : Int32) : Int32 × (Nat → Nat) × (Nat → Nat → Int32) :=
  (if (sp_in a1 0 ((nI (n 1)) - 1)) = 0 then ((-1), n, G) else (if (sX_canWrite n G a1 a2) = 0 then ((-1), n, G) else (if (sp_in a3 0 11) = 0 then ((-1), n, G) else (if (G 4 (12 * a1.toNatClampNeg + a3.toNatClampNeg)) = 0 then ((-1), n, G) else ((G 4 (12 * a1.toNatClampNeg + a3.toNatClampNeg)), (va_up n 4 (n 4 + 1)), (nl_ (up2 G 4 (12 * a1.toNatClampNeg + a3.toNatClampNeg) 0) (n 4) 1 a1 a2 a3 (G 4 (12 * a1.toNatClampNeg + a3.toNatClampNeg))))))))

def sX_report (n : Nat → Nat) (G : Nat → Nat → Int32) (a1 : Int32) (a2 : Int32) : Int32 × (Nat → Nat) × (Nat → Nat → Int32) :=
  (if (sp_in a1 0 ((nI (n 1)) - 1)) = 0 then ((-1), n, G) else (if (sX_canWrite n G a1 a2) = 0 then ((-1), n, G) else ((nI (n 4)), (va_up n 4 (n 4 + 1)), (c6_ (nl_ G (n 4) 2 a1 a2 a1 (nI (n 0))) 31 (6 * n 4) (fun w => G 2 (6 * a1.toNatClampNeg + w))))))

def sX_post (n : Nat → Nat) (G : Nat → Nat → Int32) : Int32 × (Nat → Nat) × (Nat → Nat → Int32) :=
  (if (nI (n 1)) < 8 then (((nI ((va_up n 1 (n 1 + 1)) 1)) - 1), (va_up n 1 (n 1 + 1)), (G)) else ((-1), n, G))

def sX_send_L140 (a1 : Int32) : Nat → Nat → (Nat → Nat → Int32) → (Nat → Nat → Int32)
  | 0, _, GL140 => GL140
  | k + 1, jL140, GL140 => (sX_send_L140 a1 k (jL140 + 1) (up2 (up2 GL140 2 (6 * a1.toNatClampNeg + jL140) ((GL140 2 (6 * a1.toNatClampNeg + jL140)) - (GL140 12 (jL140)))) 12 (jL140) 0))
def sX_send (n : Nat → Nat) (G : Nat → Nat → Int32) (a1 : Int32) (a2 : Int32) : Int32 × (Nat → Nat) × (Nat → Nat → Int32) :=
  (if (sp_in a1 0 ((nI (n 1)) - 1)) = 0 then (if (sp_in a2 0 ((nI (n 2)) - 1)) = 0 then ((-1), n, G) else ((-1), n, G)) else (if (sp_in a2 0 ((nI (n 2)) - 1)) = 0 then ((-1), n, G) else (if (sX_Way_startsAt n G a2.toNatClampNeg a1) = 0 then ((-1), n, G) else (if (sX_Way_isOpenOn n G a2.toNatClampNeg (nI (n 0))) = 0 then ((-1), n, G) else (if (sX_canLoad n G a1.toNatClampNeg a2.toNatClampNeg) = 0 then ((-1), n, G) else (if 120 ≤ (nI (n 3)) then ((-1), n, G) else (if (nI (n 0)) < 3000 then ((nI (n 3)), (va_up n 3 (n 3 + 1)), (up2 (sX_takeLetters (va_up n 3 (n 3 + 1)) (sX_send_L140 a1 6 0 (nc_ G (n 3) a1 (sX_Way_otherEnd n G a2.toNatClampNeg a1) a2 (G 8 a2.toNatClampNeg) (nI (n 0)) (fun w => G 12 w))) (nI (n 3)) (n 3)).2 21 (n 3) (sX_takeLetters (va_up n 3 (n 3 + 1)) (sX_send_L140 a1 6 0 (nc_ G (n 3) a1 (sX_Way_otherEnd n G a2.toNatClampNeg a1) a2 (G 8 a2.toNatClampNeg) (nI (n 0)) (fun w => G 12 w))) (nI (n 3)) (n 3)).1)) else ((-1), n, G))))))))

