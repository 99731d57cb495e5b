/-! the reference, exactly: what each method answers and leaves (by program, out of one walk of its bytecode) -/
def up2 (F : Nat → Nat → Int32) (s k : Nat) (v : Int32) : Nat → Nat → Int32 := va_up F s (upd (F s) k v)

def rM_isPost (n : Nat → Nat) (F : Nat → Nat → Int32) (a1 : Int32) : Int32 :=
  (sp_in a1 0 ((nI (n 1)) - 1))

def rM_isCanoe (n : Nat → Nat) (F : Nat → Nat → Int32) (a1 : Int32) : Int32 :=
  (sp_in a1 0 ((nI (n 3)) - 1))

def rM_between_L2 (F : Nat → Nat → Int32) (a1 : Int32) (a2 : Int32) : Nat → Nat → Int32
  | 0, _ => (-1)
  | k + 1, jL2 => (if (F 6 (jL2)) = a1 then (if (F 7 (jL2)) = a2 then (nI jL2) else (if (F 6 (jL2)) = a2 then (if (F 7 (jL2)) = a1 then (nI jL2) else (rM_between_L2 F a1 a2 k (jL2 + 1))) else (rM_between_L2 F a1 a2 k (jL2 + 1)))) else (if (F 6 (jL2)) = a2 then (if (F 7 (jL2)) = a1 then (nI jL2) else (rM_between_L2 F a1 a2 k (jL2 + 1))) else (rM_between_L2 F a1 a2 k (jL2 + 1))))
def rM_between (n : Nat → Nat) (F : Nat → Nat → Int32) (a1 : Int32) (a2 : Int32) : Int32 :=
  (rM_between_L2 F a1 a2 (n 2) 0)

def rM_isOpen (n : Nat → Nat) (F : Nat → Nat → Int32) (a1 : Int32) (a2 : Int32) : Int32 :=
  (sp_in (a2 - a2 / 365 * 365) (F 9 (a1.toNatClampNeg)) (F 10 (a1.toNatClampNeg)))

def rM_stored (n : Nat → Nat) (F : Nat → Nat → Int32) (a1 : Int32) (a2 : Int32) : Int32 :=
  (F 2 (6 * a1.toNatClampNeg + a2.toNatClampNeg))

def rM_isAway (n : Nat → Nat) (F : Nat → Nat → Int32) (a1 : Int32) : Int32 :=
  (if (sp_in a1 0 ((nI (n 3)) - 1)) = 0 then 0 else (if (F 18 (a1.toNatClampNeg)) = 0 then 1 else 0))

def rM_isDeal (n : Nat → Nat) (F : Nat → Nat → Int32) (a1 : Int32) (a2 : Int32) (a3 : Int32) (a4 : Int32) : Int32 :=
  (if (sp_in a1 0 ((nI (n 1)) - 1)) = 0 then 0 else (if (sp_in a2 0 11) = 0 then 0 else (if (sp_in a3 0 5) = 0 then 0 else (if (sp_in a4 1 1000) = 0 then 0 else 1))))

def rM_canWrite (n : Nat → Nat) (F : Nat → Nat → Int32) (a1 : Int32) (a2 : Int32) : Int32 :=
  (if (sp_in a1 0 ((nI (n 1)) - 1)) = 0 then 0 else (if (sp_in a2 0 ((nI (n 1)) - 1)) = 0 then 0 else (if a1 = a2 then 0 else (if 300 ≤ (nI (n 4)) then 0 else 1))))

def rM_owes (n : Nat → Nat) (F : Nat → Nat → Int32) (a1 : Int32) (a2 : Int32) : Int32 :=
  (if (sp_in a1 0 ((nI (n 1)) - 1)) = 0 then 0 else (if (sp_in a2 0 11) = 0 then 0 else (F 4 (12 * a1.toNatClampNeg + a2.toNatClampNeg))))

def rM_price (n : Nat → Nat) (F : Nat → Nat → Int32) (a1 : Int32) (a2 : Int32) : Int32 :=
  (if (sp_in a1 0 ((nI (n 1)) - 1)) = 0 then (-1) else (if (sp_in a2 0 5) = 0 then (-1) else (F 3 (6 * a1.toNatClampNeg + a2.toNatClampNeg))))

def rM_known (n : Nat → Nat) (F : Nat → Nat → Int32) (a1 : Int32) (a2 : Int32) (a3 : Int32) : Int32 :=
  (if (sp_in a1 0 ((nI (n 1)) - 1)) = 0 then (-1) else (if (sp_in a2 0 ((nI (n 1)) - 1)) = 0 then (-1) else (if (sp_in a3 0 5) = 0 then (-1) else (if a1 = a2 then (rM_stored n F a1 a3) else (if (F 32 (8 * a1.toNatClampNeg + a2.toNatClampNeg)) = (-1) then (-1) else (F 31 (6 * (F 32 (8 * a1.toNatClampNeg + a2.toNatClampNeg)).toNatClampNeg + a3.toNatClampNeg)))))))

def rM_knownDay (n : Nat → Nat) (F : Nat → Nat → Int32) (a1 : Int32) (a2 : Int32) : Int32 :=
  (if (sp_in a1 0 ((nI (n 1)) - 1)) = 0 then (-1) else (if (sp_in a2 0 ((nI (n 1)) - 1)) = 0 then (-1) else (if a1 = a2 then (nI (n 0)) else (if (F 32 (8 * a1.toNatClampNeg + a2.toNatClampNeg)) = (-1) then (-1) else (F 30 ((F 32 (8 * a1.toNatClampNeg + a2.toNatClampNeg)).toNatClampNeg))))))

def rM_cost_L55 (F : Nat → Nat → Int32) (a2 : Int32) : Nat → Nat → Int32 → Int32
  | 0, _, xL55_6 => xL55_6
  | k + 1, jL55, xL55_6 => (rM_cost_L55 F a2 k (jL55 + 1) (xL55_6 + (F 33 (21 * a2.toNatClampNeg + jL55))))
def rM_cost_L130 (n : Nat → Nat) (F : Nat → Nat → Int32) (a1 : Int32) (a2 : Int32) (a5 : Int32) (a4 : Int32) (a3 : Int32) : Nat → Nat → Int32 → Int32
  | 0, _, xL130_7 => xL130_7
  | k + 1, jL130, xL130_7 => (rM_cost_L130 n F a1 a2 a5 a4 a3 k (jL130 + 1) (xL130_7 + (if (nI jL130) ≤ ((if (rM_stored n F a1 a2) ≤ 1000 then (rM_stored n F a1 a2) else 1000) + a5) then (((F 33 (21 * a2.toNatClampNeg + jL130)) * a4) * (((if (rM_stored n F a1 a2) ≤ 1000 then (rM_stored n F a1 a2) else 1000) + a5) - (nI jL130))) else (((F 33 (21 * a2.toNatClampNeg + jL130)) * a3) * ((nI jL130) - ((if (rM_stored n F a1 a2) ≤ 1000 then (rM_stored n F a1 a2) else 1000) + a5))))))
def rM_cost (n : Nat → Nat) (F : Nat → Nat → Int32) (a1 : Int32) (a2 : Int32) (a3 : Int32) (a4 : Int32) (a5 : Int32) : Int32 :=
  (if (sp_in a1 0 ((nI (n 1)) - 1)) = 0 then (-1) else (if (sp_in a2 0 5) = 0 then (-1) else (if (sp_in a3 0 100) = 0 then (-1) else (if (sp_in a4 0 100) = 0 then (-1) else (if (sp_in a5 0 20) = 0 then (-1) else (if (rM_cost_L55 F a2 21 0 0) = 1000 then (rM_cost_L130 n F a1 a2 a5 a4 a3 21 0 0) else (-1)))))))

def rM_indent_L6 (n : Nat → Nat) (F : Nat → Nat → Int32) (a1 : Int32) (a2 : Int32) (a3 : Int32) (a4 : Int32) : Nat → Nat → Int32 → Int32
  | 0, _, xL6_5 => xL6_5
  | k + 1, jL6, xL6_5 => (if (rM_cost n F a1 a2 a3 a4 (nI jL6)) = (-1) then (-1) else (if xL6_5 = (-1) then (rM_indent_L6 n F a1 a2 a3 a4 k (jL6 + 1) (nI jL6)) else (if (rM_cost n F a1 a2 a3 a4 xL6_5) ≤ (rM_cost n F a1 a2 a3 a4 (nI jL6)) then (rM_indent_L6 n F a1 a2 a3 a4 k (jL6 + 1) xL6_5) else (rM_indent_L6 n F a1 a2 a3 a4 k (jL6 + 1) (nI jL6)))))
def rM_indent (n : Nat → Nat) (F : Nat → Nat → Int32) (a1 : Int32) (a2 : Int32) (a3 : Int32) (a4 : Int32) : Int32 :=
  (rM_indent_L6 n F a1 a2 a3 a4 21 0 (-1))

def rM_quarrel_L20 (F : Nat → Nat → Int32) (a1 : Int32) (a2 : Int32) : Nat → Nat → Int32
  | 0, _ => (-1)
  | k + 1, jL20 => (if (F 14 (jL20)) = a1 then (if (F 15 (jL20)) = a2 then (if (F 18 (jL20)) = 2 then (nI jL20) else (if (F 18 (jL20)) = 1 then (if (F 24 (jL20)) = 0 then (rM_quarrel_L20 F a1 a2 k (jL20 + 1)) else (nI jL20)) else (rM_quarrel_L20 F a1 a2 k (jL20 + 1)))) else (if (F 14 (jL20)) = a2 then (if (F 15 (jL20)) = a1 then (if (F 18 (jL20)) = 2 then (nI jL20) else (if (F 18 (jL20)) = 1 then (if (F 24 (jL20)) = 0 then (rM_quarrel_L20 F a1 a2 k (jL20 + 1)) else (nI jL20)) else (rM_quarrel_L20 F a1 a2 k (jL20 + 1)))) else (rM_quarrel_L20 F a1 a2 k (jL20 + 1))) else (rM_quarrel_L20 F a1 a2 k (jL20 + 1)))) else (if (F 14 (jL20)) = a2 then (if (F 15 (jL20)) = a1 then (if (F 18 (jL20)) = 2 then (nI jL20) else (if (F 18 (jL20)) = 1 then (if (F 24 (jL20)) = 0 then (rM_quarrel_L20 F a1 a2 k (jL20 + 1)) else (nI jL20)) else (rM_quarrel_L20 F a1 a2 k (jL20 + 1)))) else (rM_quarrel_L20 F a1 a2 k (jL20 + 1))) else (rM_quarrel_L20 F a1 a2 k (jL20 + 1))))
def rM_quarrel (n : Nat → Nat) (F : Nat → Nat → Int32) (a1 : Int32) (a2 : Int32) : Int32 :=
  (if (sp_in a1 0 ((nI (n 1)) - 1)) = 0 then (-1) else (if (sp_in a2 0 ((nI (n 1)) - 1)) = 0 then (-1) else (rM_quarrel_L20 F a1 a2 (n 3) 0)))

def rM_canoe (n : Nat → Nat) (F : Nat → Nat → Int32) (a1 : Int32) (a2 : Int32) : Int32 :=
  (if (sp_in a1 0 ((nI (n 3)) - 1)) = 0 then (-1) else (if (sp_in a2 10 15) = 0 then (if (sp_in a2 20 25) = 0 then (if a2 = 0 then (F 14 (a1.toNatClampNeg)) else (if a2 = 1 then (F 15 (a1.toNatClampNeg)) else (if a2 = 2 then (F 16 (a1.toNatClampNeg)) else (if a2 = 3 then (if (F 18 (a1.toNatClampNeg)) = 0 then (F 17 (a1.toNatClampNeg)) else 0) else (if a2 = 4 then (F 18 (a1.toNatClampNeg)) else (if a2 = 5 then (F 19 (a1.toNatClampNeg)) else (if a2 = 6 then (F 20 (a1.toNatClampNeg)) else (if a2 = 7 then (F 21 (a1.toNatClampNeg)) else (-1))))))))) else (F 23 (6 * a1.toNatClampNeg + (a2 - 20).toNatClampNeg))) else (F 22 (6 * a1.toNatClampNeg + (a2 - 10).toNatClampNeg))))

def rM_told_L76 (n : Nat → Nat) (F : Nat → Nat → Int32) (a1 : Int32) : Nat → Nat → Int32 → Int32
  | 0, _, xL76_3 => xL76_3
  | k + 1, jL76, xL76_3 => (rM_told_L76 n F a1 k (jL76 + 1) (xL76_3 + (rM_owes n F a1 (nI jL76))))
def rM_told_L37 (F : Nat → Nat → Int32) (a1 : Int32) : Nat → Nat → Int32 → Int32
  | 0, _, xL37_3 => xL37_3
  | k + 1, jL37, xL37_3 => (if (F 28 (jL37)) = a1 then (rM_told_L37 F a1 k (jL37 + 1) (xL37_3 + 1)) else (rM_told_L37 F a1 k (jL37 + 1) (xL37_3 + 0)))
def rM_told (n : Nat → Nat) (F : Nat → Nat → Int32) (a1 : Int32) (a2 : Int32) : Int32 :=
  (if (sp_in a1 0 ((nI (n 1)) - 1)) = 0 then (-1) else (if (sp_in a2 0 5) = 0 then (if a2 = 6 then (rM_told_L37 F a1 (n 4) 0 0) else (if a2 = 7 then (rM_told_L76 n F a1 12 0 0) else (-1))) else (rM_stored n F a1 a2)))

def rM_count (n : Nat → Nat) (F : Nat → Nat → Int32) (a1 : Int32) (a2 : Int32) : Int32 :=
  (if (sp_in a2 0 5) = 0 then (-1) else (if (sp_in a1 0 5) = 0 then (if a1 = (-1) then (if a2 = 0 then (nI (n 0)) else (if a2 = 1 then (nI (n 1)) else (if a2 = 2 then (nI (n 2)) else (if a2 = 3 then (nI (n 3)) else (if a2 = 4 then (nI (n 4)) else (F 44 0)))))) else (-1)) else (F 34 (6 * a2.toNatClampNeg + a1.toNatClampNeg))))

def rM_sums (n : Nat → Nat) (F : Nat → Nat → Int32) (a1 : Int32) (a2 : Int32) (a3 : Int32) : (Nat → Nat → Int32) :=
  (up2 F 34 (6 * a1.toNatClampNeg + a2.toNatClampNeg) ((F 34 (6 * a1.toNatClampNeg + a2.toNatClampNeg)) + a3))

def rM_store (n : Nat → Nat) (F : Nat → Nat → Int32) (a1 : Int32) (a2 : Int32) (a3 : Int32) : Int32 × (Nat → Nat → Int32) :=
  (if (sp_in a1 0 ((nI (n 1)) - 1)) = 0 then ((-1), F) else (if (sp_in a2 0 5) = 0 then ((-1), F) else (if (sp_in a3 1 10000) = 0 then ((-1), F) else (if ((rM_stored n F a1 a2) + a3) ≤ 100000 then ((rM_stored n (rM_sums n (up2 F 2 (6 * a1.toNatClampNeg + a2.toNatClampNeg) ((F 2 (6 * a1.toNatClampNeg + a2.toNatClampNeg)) + a3)) 0 a2 a3) a1 a2), (rM_sums n (up2 F 2 (6 * a1.toNatClampNeg + a2.toNatClampNeg) ((F 2 (6 * a1.toNatClampNeg + a2.toNatClampNeg)) + a3)) 0 a2 a3)) else ((-1), F)))))

def rM_spoil (n : Nat → Nat) (F : Nat → Nat → Int32) (a1 : Int32) (a2 : Int32) (a3 : Int32) : Int32 × (Nat → Nat → Int32) :=
  (if (rM_isAway n F a1) = 0 then (0, F) else (if (sp_in a2 0 5) = 0 then (0, F) else (if (sp_in a3 1 (F 22 (6 * a1.toNatClampNeg + a2.toNatClampNeg))) = 0 then (0, F) else (1, (rM_sums n (up2 F 22 (6 * a1.toNatClampNeg + a2.toNatClampNeg) ((F 22 (6 * a1.toNatClampNeg + a2.toNatClampNeg)) - a3)) 5 a2 a3)))))

def rM_sell (n : Nat → Nat) (F : Nat → Nat → Int32) (a1 : Int32) (a2 : Int32) (a3 : Int32) (a4 : Int32) : Int32 × (Nat → Nat → Int32) :=
  (if (rM_isDeal n F a1 a2 a3 a4) = 0 then ((-1), F) else (if a4 ≤ (rM_stored n F a1 a3) then (if ((F 4 (12 * a1.toNatClampNeg + a2.toNatClampNeg)) + (a4 * (F 3 (6 * a1.toNatClampNeg + a3.toNatClampNeg)))) ≤ 100000 then (((F 4 (12 * a1.toNatClampNeg + a2.toNatClampNeg)) + (a4 * (F 3 (6 * a1.toNatClampNeg + a3.toNatClampNeg)))), (rM_sums n (up2 (up2 F 4 (12 * a1.toNatClampNeg + a2.toNatClampNeg) ((F 4 (12 * a1.toNatClampNeg + a2.toNatClampNeg)) + (a4 * (F 3 (6 * a1.toNatClampNeg + a3.toNatClampNeg))))) 2 (6 * a1.toNatClampNeg + a3.toNatClampNeg) (((up2 F 4 (12 * a1.toNatClampNeg + a2.toNatClampNeg) ((F 4 (12 * a1.toNatClampNeg + a2.toNatClampNeg)) + (a4 * (F 3 (6 * a1.toNatClampNeg + a3.toNatClampNeg))))) 2 (6 * a1.toNatClampNeg + a3.toNatClampNeg)) - a4)) 1 a3 a4)) else ((-1), F)) else ((-1), F)))

def rM_buy (n : Nat → Nat) (F : Nat → Nat → Int32) (a1 : Int32) (a2 : Int32) (a3 : Int32) (a4 : Int32) : Int32 × (Nat → Nat → Int32) :=
  (if (rM_isDeal n F a1 a2 a3 a4) = 0 then ((-1), F) else (if ((rM_stored n F a1 a3) + a4) ≤ 100000 then (if (-100000) ≤ ((F 4 (12 * a1.toNatClampNeg + a2.toNatClampNeg)) - (a4 * (F 3 (6 * a1.toNatClampNeg + a3.toNatClampNeg)))) then (((F 4 (12 * a1.toNatClampNeg + a2.toNatClampNeg)) - (a4 * (F 3 (6 * a1.toNatClampNeg + a3.toNatClampNeg)))), (rM_sums n (up2 (up2 F 4 (12 * a1.toNatClampNeg + a2.toNatClampNeg) ((F 4 (12 * a1.toNatClampNeg + a2.toNatClampNeg)) - (a4 * (F 3 (6 * a1.toNatClampNeg + a3.toNatClampNeg))))) 2 (6 * a1.toNatClampNeg + a3.toNatClampNeg) (((up2 F 4 (12 * a1.toNatClampNeg + a2.toNatClampNeg) ((F 4 (12 * a1.toNatClampNeg + a2.toNatClampNeg)) - (a4 * (F 3 (6 * a1.toNatClampNeg + a3.toNatClampNeg))))) 2 (6 * a1.toNatClampNeg + a3.toNatClampNeg)) + a4)) 2 a3 a4)) else ((-1), F)) else ((-1), F)))

def rM_give (n : Nat → Nat) (F : Nat → Nat → Int32) (a1 : Int32) (a2 : Int32) (a3 : Int32) (a4 : Int32) : Int32 × (Nat → Nat → Int32) :=
  (if (rM_isDeal n F a1 a2 a3 a4) = 0 then ((-1), F) else (if a4 ≤ (rM_stored n F a1 a3) then ((rM_stored n (rM_sums n (up2 F 2 (6 * a1.toNatClampNeg + a3.toNatClampNeg) ((F 2 (6 * a1.toNatClampNeg + a3.toNatClampNeg)) - a4)) 3 a3 a4) a1 a3), (rM_sums n (up2 F 2 (6 * a1.toNatClampNeg + a3.toNatClampNeg) ((F 2 (6 * a1.toNatClampNeg + a3.toNatClampNeg)) - a4)) 3 a3 a4)) else ((-1), F)))

def rM_load (n : Nat → Nat) (F : Nat → Nat → Int32) (a1 : Int32) (a2 : Int32) : Int32 × (Nat → Nat → Int32) :=
  (if (sp_in a1 0 5) = 0 then (0, F) else (if (sp_in a2 0 500) = 0 then (0, F) else (1, (up2 F 12 (a1.toNatClampNeg) a2))))

def rM_want (n : Nat → Nat) (F : Nat → Nat → Int32) (a1 : Int32) (a2 : Int32) (a3 : Int32) : Int32 × (Nat → Nat → Int32) :=
  (if (sp_in a1 0 5) = 0 then (0, F) else (if (sp_in a2 0 20) = 0 then (0, F) else (if (sp_in a3 0 1000) = 0 then (0, F) else (1, (up2 F 33 (21 * a1.toNatClampNeg + a2.toNatClampNeg) a3)))))

def rM_lose_L14 (n : Nat → Nat) (a1 : Int32) : Nat → Nat → (Nat → Nat → Int32) → Int32 → (Nat → Nat → Int32) × Int32
  | 0, _, FL14, xL14_2 => (FL14, xL14_2)
  | k + 1, jL14, FL14, xL14_2 => (rM_lose_L14 n a1 k (jL14 + 1) (up2 (rM_sums n FL14 4 (nI jL14) (FL14 22 (6 * a1.toNatClampNeg + jL14))) 22 (6 * a1.toNatClampNeg + jL14) 0) (xL14_2 + (FL14 22 (6 * a1.toNatClampNeg + jL14))))
def rM_lose_L71 (a1 : Int32) : Nat → Nat → (Nat → Nat → Int32) → (Nat → Nat → Int32)
  | 0, _, FL71 => FL71
  | k + 1, jL71, FL71 => (if (FL71 28 (jL71)) = (2000 + a1) then (if ((up2 FL71 28 (jL71) 1001) 26 (jL71)) = 1 then (rM_lose_L71 a1 k (jL71 + 1) (up2 (up2 FL71 28 (jL71) 1001) 44 0 (((up2 FL71 28 (jL71) 1001) 44 0) + ((up2 FL71 28 (jL71) 1001) 30 (jL71))))) else (rM_lose_L71 a1 k (jL71 + 1) (up2 FL71 28 (jL71) 1001))) else (rM_lose_L71 a1 k (jL71 + 1) FL71))
def rM_lose (n : Nat → Nat) (F : Nat → Nat → Int32) (a1 : Int32) : Int32 × (Nat → Nat → Int32) :=
  (if (rM_isAway n F a1) = 0 then ((-1), F) else ((rM_lose_L14 n a1 6 0 F 0).2, (up2 (rM_lose_L71 a1 (n 4) 0 (rM_lose_L14 n a1 6 0 F 0).1) 18 (a1.toNatClampNeg) 2)))

def rM_next_L25 (a2 : Int32) : Nat → Nat → (Nat → Nat → Int32) → (Nat → Nat → Int32)
  | 0, _, FL25 => FL25
  | k + 1, jL25, FL25 => (if (nI jL25) = a2 then (rM_next_L25 a2 k (jL25 + 1) (up2 FL25 36 (jL25) 0)) else (rM_next_L25 a2 k (jL25 + 1) (up2 FL25 36 (jL25) 100)))
def rM_next_L65  : Nat → Nat → (Nat → Nat → Int32) → (Nat → Nat → Int32)
  | 0, _, FL65 => FL65
  | k + 1, jL65, FL65 => (if (FL65 36 ((FL65 7 (jL65)).toNatClampNeg)) ≤ ((FL65 36 ((FL65 6 (jL65)).toNatClampNeg)) + 1) then (if (FL65 36 ((FL65 6 (jL65)).toNatClampNeg)) ≤ ((FL65 36 ((FL65 7 (jL65)).toNatClampNeg)) + 1) then (rM_next_L65  k (jL65 + 1) FL65) else (rM_next_L65  k (jL65 + 1) (up2 FL65 36 ((FL65 6 (jL65)).toNatClampNeg) ((FL65 36 ((FL65 7 (jL65)).toNatClampNeg)) + 1)))) else (if ((up2 FL65 36 ((FL65 7 (jL65)).toNatClampNeg) ((FL65 36 ((FL65 6 (jL65)).toNatClampNeg)) + 1)) 36 (((up2 FL65 36 ((FL65 7 (jL65)).toNatClampNeg) ((FL65 36 ((FL65 6 (jL65)).toNatClampNeg)) + 1)) 6 (jL65)).toNatClampNeg)) ≤ (((up2 FL65 36 ((FL65 7 (jL65)).toNatClampNeg) ((FL65 36 ((FL65 6 (jL65)).toNatClampNeg)) + 1)) 36 (((up2 FL65 36 ((FL65 7 (jL65)).toNatClampNeg) ((FL65 36 ((FL65 6 (jL65)).toNatClampNeg)) + 1)) 7 (jL65)).toNatClampNeg)) + 1) then (rM_next_L65  k (jL65 + 1) (up2 FL65 36 ((FL65 7 (jL65)).toNatClampNeg) ((FL65 36 ((FL65 6 (jL65)).toNatClampNeg)) + 1))) else (rM_next_L65  k (jL65 + 1) (up2 (up2 FL65 36 ((FL65 7 (jL65)).toNatClampNeg) ((FL65 36 ((FL65 6 (jL65)).toNatClampNeg)) + 1)) 36 (((up2 FL65 36 ((FL65 7 (jL65)).toNatClampNeg) ((FL65 36 ((FL65 6 (jL65)).toNatClampNeg)) + 1)) 6 (jL65)).toNatClampNeg) (((up2 FL65 36 ((FL65 7 (jL65)).toNatClampNeg) ((FL65 36 ((FL65 6 (jL65)).toNatClampNeg)) + 1)) 36 (((up2 FL65 36 ((FL65 7 (jL65)).toNatClampNeg) ((FL65 36 ((FL65 6 (jL65)).toNatClampNeg)) + 1)) 7 (jL65)).toNatClampNeg)) + 1)))))
def rM_next_L56 (n : Nat → Nat) : Nat → Nat → (Nat → Nat → Int32) → (Nat → Nat → Int32)
  | 0, _, FL56 => FL56
  | k + 1, jL56, FL56 => (rM_next_L56 n k (jL56 + 1) (rM_next_L65  (n 2) 0 FL56))
def rM_next_L201 (n : Nat → Nat) (a2 : Int32) (F : Nat → Nat → Int32) (a1 : Int32) : Nat → Nat → Int32 → Int32
  | 0, _, xL201_3 => xL201_3
  | k + 1, jL201, xL201_3 => (if (rM_between n (rM_next_L56 n 8 0 (rM_next_L25 a2 8 0 F)) a1 (nI jL201)) = (-1) then (rM_next_L201 n a2 F a1 k (jL201 + 1) xL201_3) else (if 100 ≤ ((rM_next_L56 n 8 0 (rM_next_L25 a2 8 0 F)) 36 (jL201)) then (rM_next_L201 n a2 F a1 k (jL201 + 1) xL201_3) else (if xL201_3 = (-1) then (rM_next_L201 n a2 F a1 k (jL201 + 1) (nI jL201)) else (if ((rM_next_L56 n 8 0 (rM_next_L25 a2 8 0 F)) 36 (xL201_3.toNatClampNeg)) ≤ ((rM_next_L56 n 8 0 (rM_next_L25 a2 8 0 F)) 36 (jL201)) then (rM_next_L201 n a2 F a1 k (jL201 + 1) xL201_3) else (rM_next_L201 n a2 F a1 k (jL201 + 1) (nI jL201))))))
def rM_next (n : Nat → Nat) (F : Nat → Nat → Int32) (a1 : Int32) (a2 : Int32) : Int32 × (Nat → Nat → Int32) :=
  (if (sp_in a1 0 ((nI (n 1)) - 1)) = 0 then ((-1), F) else (if (sp_in a2 0 ((nI (n 1)) - 1)) = 0 then ((-1), F) else (if a1 = a2 then ((-1), F) else ((rM_next_L201 n a2 F a1 (n 1) 0 (-1)), (rM_next_L56 n 8 0 (rM_next_L25 a2 8 0 F))))))

def rM_reads (n : Nat → Nat) (F : Nat → Nat → Int32) (a1 : Int32) : (Nat → Nat → Int32) :=
  (if ((up2 F 28 (a1.toNatClampNeg) 1000) 26 (a1.toNatClampNeg)) = 0 then (up2 (up2 F 28 (a1.toNatClampNeg) 1000) 3 (6 * (F 27 (a1.toNatClampNeg)).toNatClampNeg + ((up2 F 28 (a1.toNatClampNeg) 1000) 29 (a1.toNatClampNeg)).toNatClampNeg) ((up2 F 28 (a1.toNatClampNeg) 1000) 30 (a1.toNatClampNeg))) else (if ((up2 F 28 (a1.toNatClampNeg) 1000) 26 (a1.toNatClampNeg)) = 1 then (up2 (up2 F 28 (a1.toNatClampNeg) 1000) 4 (12 * (F 27 (a1.toNatClampNeg)).toNatClampNeg + ((up2 F 28 (a1.toNatClampNeg) 1000) 29 (a1.toNatClampNeg)).toNatClampNeg) (((up2 F 28 (a1.toNatClampNeg) 1000) 4 (12 * (F 27 (a1.toNatClampNeg)).toNatClampNeg + ((up2 F 28 (a1.toNatClampNeg) 1000) 29 (a1.toNatClampNeg)).toNatClampNeg)) + ((up2 F 28 (a1.toNatClampNeg) 1000) 30 (a1.toNatClampNeg)))) else (if ((up2 F 28 (a1.toNatClampNeg) 1000) 32 (8 * (F 27 (a1.toNatClampNeg)).toNatClampNeg + ((up2 F 28 (a1.toNatClampNeg) 1000) 29 (a1.toNatClampNeg)).toNatClampNeg)) = (-1) then (up2 (up2 F 28 (a1.toNatClampNeg) 1000) 32 (8 * (F 27 (a1.toNatClampNeg)).toNatClampNeg + ((up2 F 28 (a1.toNatClampNeg) 1000) 29 (a1.toNatClampNeg)).toNatClampNeg) a1) else (if ((up2 F 28 (a1.toNatClampNeg) 1000) 30 (a1.toNatClampNeg)) < ((up2 F 28 (a1.toNatClampNeg) 1000) 30 (((up2 F 28 (a1.toNatClampNeg) 1000) 32 (8 * (F 27 (a1.toNatClampNeg)).toNatClampNeg + ((up2 F 28 (a1.toNatClampNeg) 1000) 29 (a1.toNatClampNeg)).toNatClampNeg)).toNatClampNeg)) then (up2 F 28 (a1.toNatClampNeg) 1000) else (up2 (up2 F 28 (a1.toNatClampNeg) 1000) 32 (8 * (F 27 (a1.toNatClampNeg)).toNatClampNeg + ((up2 F 28 (a1.toNatClampNeg) 1000) 29 (a1.toNatClampNeg)).toNatClampNeg) a1)))))

def rM_comes_L19 (a1 : Int32) : Nat → Nat → (Nat → Nat → Int32) → (Nat → Nat → Int32)
  | 0, _, FL19 => FL19
  | k + 1, jL19, FL19 => (if (FL19 22 (6 * a1.toNatClampNeg + jL19)) = (FL19 23 (6 * a1.toNatClampNeg + jL19)) then (rM_comes_L19 a1 k (jL19 + 1) (up2 (up2 FL19 2 (6 * (FL19 15 (a1.toNatClampNeg)).toNatClampNeg + jL19) ((FL19 2 (6 * (FL19 15 (a1.toNatClampNeg)).toNatClampNeg + jL19)) + (FL19 22 (6 * a1.toNatClampNeg + jL19)))) 22 (6 * a1.toNatClampNeg + jL19) 0)) else (rM_comes_L19 a1 k (jL19 + 1) (up2 (up2 (up2 FL19 24 (a1.toNatClampNeg) 1) 2 (6 * ((up2 FL19 24 (a1.toNatClampNeg) 1) 15 (a1.toNatClampNeg)).toNatClampNeg + jL19) (((up2 FL19 24 (a1.toNatClampNeg) 1) 2 (6 * ((up2 FL19 24 (a1.toNatClampNeg) 1) 15 (a1.toNatClampNeg)).toNatClampNeg + jL19)) + ((up2 FL19 24 (a1.toNatClampNeg) 1) 22 (6 * a1.toNatClampNeg + jL19)))) 22 (6 * a1.toNatClampNeg + jL19) 0)))
def rM_comes_L94 (a1 : Int32) (n : Nat → Nat) : Nat → Nat → (Nat → Nat → Int32) → (Nat → Nat → Int32)
  | 0, _, FL94 => FL94
  | k + 1, jL94, FL94 => (if (FL94 28 (jL94)) = (2000 + a1) then (if (FL94 27 (jL94)) = (FL94 15 (a1.toNatClampNeg)) then (rM_comes_L94 a1 n k (jL94 + 1) (rM_reads n FL94 (nI jL94))) else (rM_comes_L94 a1 n k (jL94 + 1) (up2 FL94 28 (jL94) (FL94 15 (a1.toNatClampNeg))))) else (rM_comes_L94 a1 n k (jL94 + 1) FL94))
def rM_comes (n : Nat → Nat) (F : Nat → Nat → Int32) (a1 : Int32) : (Nat → Nat → Int32) :=
  (rM_comes_L94 a1 n (n 4) 0 (rM_comes_L19 a1 6 0 (up2 (up2 F 18 (a1.toNatClampNeg) 1) 20 (a1.toNatClampNeg) (nI (n 0)))))

def rM_go_L32 (nL15 : Nat → Nat) : Nat → Nat → (Nat → Nat → Int32) → (Nat → Nat → Int32)
  | 0, _, FL32 => FL32
  | k + 1, jL32, FL32 => (if (FL32 18 (jL32)) = 0 then (if (rM_isOpen nL15 FL32 (FL32 16 (jL32)) (nI (nL15 0))) = 0 then (rM_go_L32 nL15 k (jL32 + 1) FL32) else (if ((up2 FL32 17 (jL32) ((FL32 17 (jL32)) - 1)) 17 (jL32)) = 0 then (rM_go_L32 nL15 k (jL32 + 1) (rM_comes nL15 (up2 FL32 17 (jL32) ((FL32 17 (jL32)) - 1)) (nI jL32))) else (rM_go_L32 nL15 k (jL32 + 1) (up2 FL32 17 (jL32) ((FL32 17 (jL32)) - 1))))) else (rM_go_L32 nL15 k (jL32 + 1) FL32))
def rM_go_L15  : Nat → Nat → (Nat → Nat) → (Nat → Nat → Int32) → Int32 × (Nat → Nat) × (Nat → Nat → Int32)
  | 0, _, nL15, FL15 => ((nI (nL15 0)), nL15, FL15)
  | k + 1, jL15, nL15, FL15 => (if 3000 ≤ (nI (nL15 0)) then ((nI (nL15 0)), nL15, FL15) else (rM_go_L15  k (jL15 + 1) (va_up nL15 0 ((nL15 0) + 1)) (rM_go_L32 nL15 (nL15 3) 0 FL15)))
def rM_go (n : Nat → Nat) (F : Nat → Nat → Int32) (a1 : Int32) : Int32 × (Nat → Nat) × (Nat → Nat → Int32) :=
  (if (sp_in a1 0 400) = 0 then ((-1), n, F) else (rM_go_L15  a1.toNatClampNeg 0 n F))

def rM_writes (n : Nat → Nat) (F : Nat → Nat → Int32) (a1 : Int32) (a2 : Int32) (a3 : Int32) (a4 : Int32) (a5 : Int32) : Int32 × (Nat → Nat) × (Nat → Nat → Int32) :=
  (((nI ((va_up n 4 ((n 4) + 1)) 4)) - 1), (va_up n 4 ((n 4) + 1)), (up2 (up2 (up2 (up2 (up2 F 26 (n 4) a1) 28 (n 4) a2) 27 (n 4) a3) 29 (n 4) a4) 30 (n 4) a5))

def rM_order (n : Nat → Nat) (F : Nat → Nat → Int32) (a1 : Int32) (a2 : Int32) (a3 : Int32) (a4 : Int32) : Int32 × (Nat → Nat) × (Nat → Nat → Int32) :=
  (if (rM_canWrite n F a1 a2) = 0 then ((-1), n, F) else (if (sp_in a3 0 5) = 0 then ((-1), n, F) else (if (sp_in a4 1 100) = 0 then ((-1), n, F) else ((rM_writes n F 0 a1 a2 a3 a4).1, (rM_writes n F 0 a1 a2 a3 a4).2.1, (rM_writes n F 0 a1 a2 a3 a4).2.2))))

def rM_debt (n : Nat → Nat) (F : Nat → Nat → Int32) (a1 : Int32) (a2 : Int32) (a3 : Int32) : Int32 × (Nat → Nat) × (Nat → Nat → Int32) :=
  (if (rM_canWrite n F a1 a2) = 0 then ((-1), n, F) else (if (sp_in a3 0 11) = 0 then ((-1), n, F) else (if (rM_owes n F a1 a3) = 0 then ((-1), n, F) else ((rM_owes n F a1 a3), (rM_writes n F 1 a1 a2 a3 (rM_owes n F a1 a3)).2.1, (up2 (rM_writes n F 1 a1 a2 a3 (rM_owes n F a1 a3)).2.2 4 (12 * a1.toNatClampNeg + a3.toNatClampNeg) 0)))))

def rM_report_L27 (n : Nat → Nat) (F : Nat → Nat → Int32) (a1 : Int32) (a2 : Int32) : Nat → Nat → (Nat → Nat → Int32) → (Nat → Nat → Int32)
  | 0, _, FL27 => FL27
  | k + 1, jL27, FL27 => (rM_report_L27 n F a1 a2 k (jL27 + 1) (up2 FL27 31 (6 * (rM_writes n F 2 a1 a2 a1 (nI (n 0))).1.toNatClampNeg + jL27) (rM_stored (rM_writes n F 2 a1 a2 a1 (nI (n 0))).2.1 FL27 a1 (nI jL27))))
def rM_report (n : Nat → Nat) (F : Nat → Nat → Int32) (a1 : Int32) (a2 : Int32) : Int32 × (Nat → Nat) × (Nat → Nat → Int32) :=
  (if (rM_canWrite n F a1 a2) = 0 then ((-1), n, F) else ((rM_writes n F 2 a1 a2 a1 (nI (n 0))).1, (rM_writes n F 2 a1 a2 a1 (nI (n 0))).2.1, (rM_report_L27 n F a1 a2 6 0 (rM_writes n F 2 a1 a2 a1 (nI (n 0))).2.2)))

def rM_post (n : Nat → Nat) (F : Nat → Nat → Int32) : Int32 × (Nat → Nat) × (Nat → Nat → Int32) :=
  (if (nI (n 1)) = 8 then ((-1), n, F) else (((nI ((va_up n 1 ((n 1) + 1)) 1)) - 1), (va_up n 1 ((n 1) + 1)), F))

def rM_way (n : Nat → Nat) (F : Nat → Nat → Int32) (a1 : Int32) (a2 : Int32) (a3 : Int32) (a4 : Int32) : Int32 × (Nat → Nat) × (Nat → Nat → Int32) :=
  (if a3 < 0 then ((-1), n, F) else (if (sp_in (a3 / 1000000) 1 40) = 0 then ((-1), n, F) else (if (sp_in ((a3 / 1000) - (a3 / 1000) / 1000 * 1000) 0 364) = 0 then ((-1), n, F) else (if (sp_in (a3 - a3 / 1000 * 1000) ((a3 / 1000) - (a3 / 1000) / 1000 * 1000) 364) = 0 then ((-1), n, F) else (if (sp_in a1 0 ((nI (n 1)) - 1)) = 0 then ((-1), n, F) else (if (sp_in a2 0 ((nI (n 1)) - 1)) = 0 then ((-1), n, F) else (if a1 = a2 then ((-1), n, F) else (if (rM_between n F a1 a2) = (-1) then (if (sp_in a4 1 500) = 0 then ((-1), n, F) else (if (nI (n 2)) = 12 then ((-1), n, F) else (((nI ((va_up n 2 ((n 2) + 1)) 2)) - 1), (va_up n 2 ((n 2) + 1)), (up2 (up2 (up2 (up2 (up2 (up2 F 6 (n 2) a1) 7 (n 2) a2) 8 (n 2) (a3 / 1000000)) 9 (n 2) ((a3 / 1000) - (a3 / 1000) / 1000 * 1000)) 10 (n 2) (a3 - a3 / 1000 * 1000)) 11 (n 2) a4)))) else ((-1), n, F)))))))))

def rM_send_L223 (a1 : Int32) (n : Nat → Nat) : Nat → Nat → (Nat → Nat → Int32) → (Nat → Nat → Int32)
  | 0, _, FL223 => FL223
  | k + 1, jL223, FL223 => (rM_send_L223 a1 n k (jL223 + 1) (up2 (up2 (up2 (up2 FL223 2 (6 * a1.toNatClampNeg + jL223) ((FL223 2 (6 * a1.toNatClampNeg + jL223)) - (FL223 12 (jL223)))) 22 (6 * (n 3) + jL223) ((up2 FL223 2 (6 * a1.toNatClampNeg + jL223) ((FL223 2 (6 * a1.toNatClampNeg + jL223)) - (FL223 12 (jL223)))) 12 (jL223))) 23 (6 * (n 3) + jL223) ((up2 (up2 FL223 2 (6 * a1.toNatClampNeg + jL223) ((FL223 2 (6 * a1.toNatClampNeg + jL223)) - (FL223 12 (jL223)))) 22 (6 * (n 3) + jL223) ((up2 FL223 2 (6 * a1.toNatClampNeg + jL223) ((FL223 2 (6 * a1.toNatClampNeg + jL223)) - (FL223 12 (jL223)))) 12 (jL223))) 12 (jL223))) 12 (jL223) 0))
def rM_send_L309 (a1 : Int32) (n : Nat → Nat) : Nat → Nat → (Nat → Nat → Int32) → (Nat → Nat → Int32)
  | 0, _, FL309 => FL309
  | k + 1, jL309, FL309 => (if (FL309 28 (jL309)) = a1 then (if (rM_next n FL309 a1 (FL309 27 (jL309))).1 = ((rM_next n FL309 a1 (FL309 27 (jL309))).2 15 (n 3)) then (rM_send_L309 a1 n k (jL309 + 1) (up2 (up2 (rM_next n FL309 a1 (FL309 27 (jL309))).2 28 (jL309) (2000 + (nI (n 3)))) 21 (n 3) (((up2 (rM_next n FL309 a1 (FL309 27 (jL309))).2 28 (jL309) (2000 + (nI (n 3)))) 21 (n 3)) + 1))) else (rM_send_L309 a1 n k (jL309 + 1) (rM_next n FL309 a1 (FL309 27 (jL309))).2)) else (rM_send_L309 a1 n k (jL309 + 1) FL309))
def rM_send_L49 (n : Nat → Nat) (a2 : Int32) (a1 : Int32) : Nat → Nat → (Nat → Nat → Int32) → Int32 → Int32 × (Nat → Nat) × (Nat → Nat → Int32)
  | 0, _, FL49, xL49_3 => (if (rM_isOpen n FL49 a2 (nI (n 0))) = 0 then ((-1), n, FL49) else (if (FL49 11 (a2.toNatClampNeg)) < xL49_3 then ((-1), n, FL49) else (if (nI (n 3)) = 120 then ((-1), n, FL49) else (if (nI (n 0)) = 3000 then ((-1), n, FL49) else ((nI (n 3)), (va_up n 3 ((n 3) + 1)), (rM_send_L309 a1 n (n 4) 0 (rM_send_L223 a1 n 6 0 (up2 (up2 (up2 (up2 (up2 (up2 FL49 14 (n 3) a1) 15 (n 3) (if ((up2 FL49 14 (n 3) a1) 6 (a2.toNatClampNeg)) = a1 then ((up2 FL49 14 (n 3) a1) 7 (a2.toNatClampNeg)) else ((up2 FL49 14 (n 3) a1) 6 (a2.toNatClampNeg)))) 16 (n 3) a2) 17 (n 3) ((up2 (up2 (up2 FL49 14 (n 3) a1) 15 (n 3) (if ((up2 FL49 14 (n 3) a1) 6 (a2.toNatClampNeg)) = a1 then ((up2 FL49 14 (n 3) a1) 7 (a2.toNatClampNeg)) else ((up2 FL49 14 (n 3) a1) 6 (a2.toNatClampNeg)))) 16 (n 3) a2) 8 (a2.toNatClampNeg))) 19 (n 3) (nI (n 0))) 20 (n 3) (-1)))))))))
  | k + 1, jL49, FL49, xL49_3 => (if (FL49 12 (jL49)) ≤ (rM_stored n FL49 a1 (nI jL49)) then (rM_send_L49 n a2 a1 k (jL49 + 1) FL49 (xL49_3 + (FL49 12 (jL49)))) else ((-1), n, FL49))
def rM_send_M44 (n : Nat → Nat) (a2 : Int32) (a1 : Int32) (F : Nat → Nat → Int32) : Int32 × (Nat → Nat) × (Nat → Nat → Int32) := (rM_send_L49 n a2 a1 6 0 F 0)
def rM_send (n : Nat → Nat) (F : Nat → Nat → Int32) (a1 : Int32) (a2 : Int32) : Int32 × (Nat → Nat) × (Nat → Nat → Int32) :=
  (if (sp_in a1 0 ((nI (n 1)) - 1)) = 0 then ((-1), n, F) else (if (sp_in a2 0 ((nI (n 2)) - 1)) = 0 then ((-1), n, F) else (if (F 6 (a2.toNatClampNeg)) = a1 then (rM_send_M44 n a2 a1 F) else (if (F 7 (a2.toNatClampNeg)) = a1 then (rM_send_M44 n a2 a1 F) else ((-1), n, F)))))

