/-! words that class and reference share -/
/-- the object's own cell -/
abbrev ho_ (q : Nat → Nat) (n : Nat → Nat) (dl : Int32) : List Value := [.ref (q 1), .ref (q 2), .ref (q 3), .ref (q 4), .ref (q 5), .ref (q 6), .ref (q 7), .ref (q 8), .int (nI (n 0)), .int (nI (n 1)), .int (nI (n 2)), .int (nI (n 3)), .int (nI (n 4)), .int dl]
abbrev xo_ (h0 : Nat) (q : Nat → Nat) (n : Nat → Nat) (dl : Int32) : va_W := [(h0, .inr (6, ho_ q n dl))]
abbrev tt_ (cI : ClassId) (cy : Nat → ClassId) : List (ClassId × FieldType) := [(cI, .int), (cy 7, .object RX5), (cy 8, .object RX4), (cy 9, .object RX6), (cy 10, .object RX0), (cy 11, .object RX2), (cy 12, .array .int), (cy 13, .array .int), (cy 14, .array .int)]
abbrev nb_ (n : Nat → Nat) : Prop := n 0 ≤ 3000 ∧ n 1 ≤ 8 ∧ n 2 ≤ 12 ∧ n 3 ≤ 120 ∧ n 4 ≤ 300
theorem lp_ge {j B : Nat} {b : Int32} (h : j < B) (hB : B < 2147483648) (e : b = nI B) : ¬ b ≤ nI j := by rw [e]; exact nI_ge h (by omega)
theorem lp_ge0 {B : Nat} {b : Int32} (e : b = nI B) : b ≤ nI B := by rw [e, sp_le]; omega
theorem lp_gt {j B : Nat} {b : Int32} (h : j < B) (hB : B < 2147483648) (e : b = nI (B - 1)) : ¬ b < nI j := by rw [e]; exact nI_nlt (by omega) (by omega)
theorem lp_gt0 {B : Nat} {b : Int32} (hB : 0 < B ∧ B < 2147483648) (e : b = nI (B - 1)) : b < nI B := by rw [e]; exact nI_lt (by omega) (by omega)
theorem vp_lt {x : Int32} {n : Nat} (h : vp_in x n) : x.toNatClampNeg < n := Nat.not_le.mp fun q => h (Or.inr q)
theorem sp_vp {x b : Int32} {n : Nat} (h : ¬ sp_in x 0 b = 0) (hb : b.toInt + 1 = n) : vp_in x n := by
  obtain ⟨h1, h2⟩ := sp_in_1 h
  rw [sp_le, show (0 : Int32).toInt = 0 from rfl] at h1
  rw [sp_le] at h2
  rw [vp_in_iff]
  omega

/-- what the tables say of calls between nest mates, of the letters' kinds, of copies -/
def nw_ (U : State) : Prop := va_Nw (.methodLinkNest RX6 30 yX7_isWithin "FurPosts") U ∧ va_Nw (.methodLinkNest RX3 16 yX7_isWare "FurPosts") U ∧ va_Nw (.methodLinkNest RX1 16 yX7_isHunter "FurPosts") U ∧ va_Nc RX3 RX1 U ∧ va_Nc RX5 RX1 U ∧ va_Nw (.castable "[I" "java/lang/Cloneable") U ∧ va_Nw (.castable RX1 RX2) U ∧ va_Nw (.castable RX3 RX2) U ∧ va_Nw (.castable RX5 RX2) U ∧ va_AO RX5 U ∧ va_Nw (.declares ⟨"FurPosts$Letter", "readAt", "(LFurPosts$Post;)V"⟩) U
theorem nw_w6 {U : State} (h : nw_ U) : va_Nw (.methodLinkNest RX6 30 yX7_isWithin "FurPosts") U := h.1
theorem nw_w3 {U : State} (h : nw_ U) : va_Nw (.methodLinkNest RX3 16 yX7_isWare "FurPosts") U := h.2.1
theorem nw_w1 {U : State} (h : nw_ U) : va_Nw (.methodLinkNest RX1 16 yX7_isHunter "FurPosts") U := h.2.2.1
theorem nw_n3 {U : State} (h : nw_ U) : va_Nc RX3 RX1 U := h.2.2.2.1
theorem nw_n5 {U : State} (h : nw_ U) : va_Nc RX5 RX1 U := h.2.2.2.2.1
theorem nw_cl {U : State} (h : nw_ U) : va_Nw (.castable "[I" "java/lang/Cloneable") U := h.2.2.2.2.2.1
theorem nw_l1 {U : State} (h : nw_ U) : va_Nw (.castable RX1 RX2) U := h.2.2.2.2.2.2.1
theorem nw_l3 {U : State} (h : nw_ U) : va_Nw (.castable RX3 RX2) U := h.2.2.2.2.2.2.2.1
theorem nw_l5 {U : State} (h : nw_ U) : va_Nw (.castable RX5 RX2) U := h.2.2.2.2.2.2.2.2.1
theorem nw_ao {U : State} (h : nw_ U) : va_AO RX5 U := h.2.2.2.2.2.2.2.2.2.1
theorem nw_de {U : State} (h : nw_ U) : va_Nw (.declares ⟨"FurPosts$Letter", "readAt", "(LFurPosts$Post;)V"⟩) U := h.2.2.2.2.2.2.2.2.2.2
theorem nw_warm {s U : State} (hW : s.WarmedH U.vm) (h : nw_ s) : nw_ U := ⟨va_Nw.warmM hW (nw_w6 h), va_Nw.warmM hW (nw_w3 h), va_Nw.warmM hW (nw_w1 h), va_Nc.moved hW.alike (nw_n3 h), va_Nc.moved hW.alike (nw_n5 h), va_Nw.warmC hW (nw_cl h), va_Nw.warmC hW (nw_l1 h), va_Nw.warmC hW (nw_l3 h), va_Nw.warmC hW (nw_l5 h), va_AO.moved hW.alike (nw_ao h), va_Nw.warmD hW (nw_de h)⟩
theorem nw_call {U : State} {g : JFrame} {mk : MethodId} {a : Array Value} (h : nw_ U) : nw_ (U.calling g mk a) := ⟨va_Nw.same (u := U) rfl rfl (nw_w6 h), va_Nw.same (u := U) rfl rfl (nw_w3 h), va_Nw.same (u := U) rfl rfl (nw_w1 h), va_Nc.moved (u := U) (Vm.Alike.refl U.vm) (nw_n3 h), va_Nc.moved (u := U) (Vm.Alike.refl U.vm) (nw_n5 h), va_Nw.same (u := U) rfl rfl (nw_cl h), va_Nw.same (u := U) rfl rfl (nw_l1 h), va_Nw.same (u := U) rfl rfl (nw_l3 h), va_Nw.same (u := U) rfl rfl (nw_l5 h), va_AO.moved (u := U) (Vm.Alike.refl U.vm) (nw_ao h), va_Nw.same (u := U) rfl rfl (nw_de h)⟩
theorem pl_push {X : va_W} {L : List Nat} {f : Nat → va_E} {a : Nat} {e : va_E} (h : a ∉ L) : (X ++ va_pl L f) ++ [(a, e)] = X ++ va_pl (L ++ [a]) (va_up f a e) := by
  rw [List.append_assoc, va_pl_push h]
