/-! cells that are made: pending first, then each in its role -/
theorem pl_one {D : va_G} {cl : List vw_C} {X : va_W} {L : List Nat} {f : Nat → va_E} {H : Heap} {a i : Nat} {e : va_E} (hP : va_P D cl (X ++ va_pl L f) H) (hi : (X ++ va_pl L f)[i]? = some (a, f a)) (he : f a = e) : va_P D cl [(a, e)] H := fun k x hx => by
  have h1 : k < 1 := (List.getElem?_eq_some_iff.mp hx).1
  rw [show k = 0 by omega] at hx
  cases hx
  rw [← he]
  exact hP i _ hi
theorem pl_call {D : va_G} {cl : List vw_C} {X : va_W} {L : List Nat} {f : Nat → va_E} {A : Nat → Prop} {H H1 : Heap} {a i : Nat} {e : va_E} (hP : va_P D cl (X ++ va_pl L f) H) (hD : va_D A (X ++ va_pl L f)) (hm : a ∈ L) (hi : (X ++ va_pl L f)[i]? = some (a, f a)) (hk : ∀ q : Nat, q < H.size → ¬ q = a → H1[q]? = H[q]?) (hB : va_P D cl [(a, e)] H1) : va_P D cl (X ++ va_pl L (va_up f a e)) H1 := by
  rw [← va_pl_set hD hm hi]
  intro k x hx
  by_cases hki : i = k
  · subst hki
    have hlt : i < (X ++ va_pl L f).length := (List.getElem?_eq_some_iff.mp hi).1
    rw [List.getElem?_set_self hlt] at hx
    cases hx
    exact hB 0 _ rfl
  · rw [List.getElem?_set_ne hki] at hx
    exact (hP k x hx).kept (hk x.1 ((hP k x hx).lt) (fun z => hki (hD.1 i k _ _ hi hx z.symm)))
theorem pl_cell {X : va_W} {L : List Nat} {f : Nat → va_E} {A : Nat → Prop} {a i : Nat} {e : va_E} (hD : va_D A (X ++ va_pl L f)) (hm : a ∈ L) (hi : (X ++ va_pl L f)[i]? = some (a, f a)) : va_D A (X ++ va_pl L (va_up f a e)) := by
  rw [← va_pl_set hD hm hi]
  exact hD.set hi

theorem ca_asg {s : State} {C E : String} (h : va_Nw (.castable C E) s) : ∀ comp c0 : ClassId, s.vm.findClass E = some comp → s.vm.findClass C = some c0 → s.vm.assignable c0 comp = true := fun comp c0 h1 h2 => by
  obtain ⟨c3, t3, f1, f2, f3⟩ := Cond.castable_spec (va_Nw.use (A := #[]) rfl h)
  rw [h2] at f1
  rw [h1] at f2
  cases f1
  cases f2
  exact f3

theorem up_swap {α : Type} {f : Nat → α} {a b : Nat} {x y : α} (h : ¬ a = b) : va_up (va_up f a x) b y = va_up (va_up f b y) a x := by
  funext j
  by_cases h1 : j = a
  · rw [h1, va_up_ne _ _ h, va_up_self, va_up_self]
  · by_cases h2 : j = b
    · rw [h2, va_up_self, va_up_ne _ _ (fun z => h z.symm), va_up_self]
    · rw [va_up_ne _ _ h2, va_up_ne _ _ h1, va_up_ne _ _ h1, va_up_ne _ _ h2]
theorem pl_new1 {D : va_G} {cl : List vw_C} {h0 : Nat} {e0 : va_E} {L : List Nat} {f : Nat → va_E} {A : Nat → Prop} {H : Heap} {x : Nat} {e : va_E} (hP : va_P D cl ([(h0, e0)] ++ va_pl L f) H) (hD : va_D A ([(h0, e0)] ++ va_pl L f)) (hs : va_P D cl [(x, e)] H) (hx : x ∉ L) (hx0 : ¬ x = h0) (hA : A x) : va_P D cl ([(h0, e0)] ++ va_pl (L ++ [x]) (va_up f x e)) H ∧ va_D A ([(h0, e0)] ++ va_pl (L ++ [x]) (va_up f x e)) := by
  rw [← pl_push hx]
  refine ⟨hP.app hs, va_D.app hD (va_D1 hA) (fun i j y z hy hz hyz => ?_)⟩
  have h1 : j < 1 := (List.getElem?_eq_some_iff.mp hz).1
  rw [show j = 0 by omega] at hz
  cases hz
  have hm := List.mem_of_getElem? hy
  rcases List.mem_append.mp hm with h | h
  · rw [List.mem_singleton.mp h] at hyz
    exact hx0 hyz.symm
  · obtain ⟨b, hb, rfl⟩ := List.mem_map.mp h
    have e9 : b = x := hyz
    exact hx (by rw [← e9]; exact hb)

def cq_ (D : va_G) (cI : ClassId) (cy : Nat → ClassId) (h0 : Nat) (q : Nat → Nat) (A : Nat → Prop) (ad : Nat → Nat → Nat) (rl : Nat → Nat × Nat) (L : List Nat) (n : Nat → Nat) (G : Nat → Nat → Int32) (pd : List (Nat × va_E)) (H : Heap) : Prop := ∃ f, va_P D vwCl (xo_ h0 q n (G 44 0) ++ va_pl L f) H ∧ va_D A (xo_ h0 q n (G 44 0) ++ va_pl L f) ∧ ly_ cI cy q ad rl L n G f ∧ ∀ x ∈ pd, x.1 ∈ L ∧ f x.1 = x.2 ∧ ∀ k i, lf_ n G i k → ¬ ad k i = x.1
theorem cq_.toC {D : va_G} {cI : ClassId} {cy : Nat → ClassId} {h0 : Nat} {q : Nat → Nat} {A : Nat → Prop} {ad : Nat → Nat → Nat} {rl : Nat → Nat × Nat} {L : List Nat} {n : Nat → Nat} {G : Nat → Nat → Int32} {pd : List (Nat × va_E)} {H : Heap} (h : cq_ D cI cy h0 q A ad rl L n G pd H) : cp_ D cI cy h0 q A ad rl L n G H := by
  obtain ⟨f, h1, h2, h3, -⟩ := h
  exact ⟨f, h1, h2, h3⟩
theorem cp_.toQ {D : va_G} {cI : ClassId} {cy : Nat → ClassId} {h0 : Nat} {q : Nat → Nat} {A : Nat → Prop} {ad : Nat → Nat → Nat} {rl : Nat → Nat × Nat} {L : List Nat} {n : Nat → Nat} {G : Nat → Nat → Int32} {H : Heap} (h : cp_ D cI cy h0 q A ad rl L n G H) : cq_ D cI cy h0 q A ad rl L n G [] H := by
  obtain ⟨f, h1, h2, h3⟩ := h
  exact ⟨f, h1, h2, h3, fun x hx => by cases hx⟩
theorem ly_fr {cI : ClassId} {cy : Nat → ClassId} {q : Nat → Nat} {ad : Nat → Nat → Nat} {rl : Nat → Nat × Nat} {L : List Nat} {n : Nat → Nat} {G : Nat → Nat → Int32} {f : Nat → va_E} (hL : ly_ cI cy q ad rl L n G f) {a : Nat} (ha : a ∉ L) (e : va_E) : ly_ cI cy q ad rl (L ++ [a]) n G (va_up f a e) := by
  obtain ⟨h1, h2, h3⟩ := hL
  refine ⟨fun k i hl => ?_, h2, h3⟩
  obtain ⟨a1, a2, a3⟩ := h1 k i hl
  exact ⟨List.mem_append_left _ a1, a2, by rw [va_up_ne _ _ (fun z => ha (by rw [← z]; exact a1))]; exact a3⟩
theorem pd_fr {ad : Nat → Nat → Nat} {L : List Nat} {n : Nat → Nat} {G : Nat → Nat → Int32} {f : Nat → va_E} {cI : ClassId} {cy : Nat → ClassId} {q : Nat → Nat} {rl : Nat → Nat × Nat} (hL : ly_ cI cy q ad rl L n G f) {pd : List (Nat × va_E)} (hp : ∀ x ∈ pd, x.1 ∈ L ∧ f x.1 = x.2 ∧ ∀ k i, lf_ n G i k → ¬ ad k i = x.1) {a : Nat} (ha : a ∉ L) (e : va_E) : ∀ x ∈ (a, e) :: pd, x.1 ∈ L ++ [a] ∧ va_up f a e x.1 = x.2 ∧ ∀ k i, lf_ n G i k → ¬ ad k i = x.1 := fun x hx => by
  rcases List.mem_cons.mp hx with rfl | hx
  · exact ⟨List.mem_append_right _ (List.mem_singleton.mpr rfl), va_up_self _ _ _, fun k i hl z => ha (by have z : ad k i = a := z; rw [← z]; exact (hL.1 k i hl).1)⟩
  · obtain ⟨b1, b2, b3⟩ := hp x hx
    exact ⟨List.mem_append_left _ b1, by rw [va_up_ne _ _ (fun z => ha (by rw [← z]; exact b1))]; exact b2, b3⟩
theorem cq_one {D : va_G} {cI : ClassId} {cy : Nat → ClassId} {h0 : Nat} {q : Nat → Nat} {A : Nat → Prop} {ad : Nat → Nat → Nat} {rl : Nat → Nat × Nat} {L : List Nat} {n : Nat → Nat} {G : Nat → Nat → Int32} {pd : List (Nat × va_E)} {H : Heap} (h : cq_ D cI cy h0 q A ad rl L n G pd H) {a : Nat} {e : va_E} (ha : (a, e) ∈ pd) : va_P D vwCl [(a, e)] H ∧ A a ∧ a < H.size := by
  obtain ⟨f, h1, h2, h3, h4⟩ := h
  obtain ⟨b1, b2, -⟩ := h4 _ ha
  obtain ⟨i, hi⟩ := va_pl_get (X := xo_ h0 q n (G 44 0)) (f := f) b1
  exact ⟨pl_one h1 hi b2, h2.2 i _ hi, (h1 i _ hi).lt⟩
/-- behind a call that changes the pending cell a alone -/
theorem cq_set {D : va_G} {cI : ClassId} {cy : Nat → ClassId} {h0 : Nat} {q : Nat → Nat} {A : Nat → Prop} {ad : Nat → Nat → Nat} {rl : Nat → Nat × Nat} {L : List Nat} {n : Nat → Nat} {G : Nat → Nat → Int32} {pd pd' : List (Nat × va_E)} {H H1 : Heap} (h : cq_ D cI cy h0 q A ad rl L n G pd H) {a : Nat} {e0 e : va_E} (ha : (a, e0) ∈ pd) (hk : ∀ x : Nat, x < H.size → ¬ x = a → H1[x]? = H[x]?) (hB : va_P D vwCl [(a, e)] H1) (hpd : ∀ x ∈ pd', x = (a, e) ∨ (x ∈ pd ∧ ¬ x.1 = a)) : cq_ D cI cy h0 q A ad rl L n G pd' H1 := by
  obtain ⟨f, h1, h2, h3, h4⟩ := h
  obtain ⟨b1, b2, b3⟩ := h4 _ ha
  obtain ⟨i, hi⟩ := va_pl_get (X := xo_ h0 q n (G 44 0)) (f := f) b1
  refine ⟨va_up f a e, pl_call h1 h2 b1 hi hk hB, pl_cell h2 b1 hi, ⟨fun k i hl => ?_, h3.2.1, h3.2.2⟩, fun x hx => ?_⟩
  · obtain ⟨a1, a2, a3⟩ := h3.1 k i hl
    exact ⟨a1, a2, by rw [va_up_ne _ _ (b3 k i hl)]; exact a3⟩
  · rcases hpd x hx with rfl | ⟨hx, hne⟩
    · exact ⟨b1, va_up_self _ _ _, b3⟩
    · obtain ⟨c1, c2, c3⟩ := h4 x hx
      exact ⟨c1, by rw [va_up_ne _ _ hne]; exact c2, c3⟩
/-- a cell that a call has made -/
theorem cq_add {D : va_G} {cI : ClassId} {cy : Nat → ClassId} {h0 : Nat} {q : Nat → Nat} {A : Nat → Prop} {ad : Nat → Nat → Nat} {rl : Nat → Nat × Nat} {L : List Nat} {n : Nat → Nat} {G : Nat → Nat → Int32} {pd : List (Nat × va_E)} {H : Heap} (h : cq_ D cI cy h0 q A ad rl L n G pd H) {a : Nat} {e : va_E} (hB : va_P D vwCl [(a, e)] H) (hL : a ∉ L) (ha0 : ¬ a = h0) (hA : A a) : cq_ D cI cy h0 q A ad rl (L ++ [a]) n G ((a, e) :: pd) H := by
  obtain ⟨f, h1, h2, h3, h4⟩ := h
  obtain ⟨c1, c2⟩ := pl_new1 h1 h2 hB hL ha0 hA
  exact ⟨va_up f a e, c1, c2, ly_fr h3 hL e, pd_fr h3 h4 hL e⟩
theorem cq_lt {D : va_G} {cI : ClassId} {cy : Nat → ClassId} {h0 : Nat} {q : Nat → Nat} {A : Nat → Prop} {ad : Nat → Nat → Nat} {rl : Nat → Nat × Nat} {L : List Nat} {n : Nat → Nat} {G : Nat → Nat → Int32} {pd : List (Nat × va_E)} {H : Heap} (h : cq_ D cI cy h0 q A ad rl L n G pd H) {a : Nat} (ha : H.size ≤ a) : a ∉ L ∧ ¬ a = h0 := by
  obtain ⟨f, h1, -, -, -⟩ := h
  exact ⟨fun y => absurd (va_pl_lt h1 y) (by omega), fun y => absurd (show h0 < H.size from (h1 0 _ rfl).lt) (by omega)⟩
theorem cq_.sub {D : va_G} {cI : ClassId} {cy : Nat → ClassId} {h0 : Nat} {q : Nat → Nat} {A : Nat → Prop} {ad : Nat → Nat → Nat} {rl : Nat → Nat × Nat} {L : List Nat} {n : Nat → Nat} {G : Nat → Nat → Int32} {pd pd' : List (Nat × va_E)} {H : Heap} (h : cq_ D cI cy h0 q A ad rl L n G pd H) (hs : ∀ x ∈ pd', x ∈ pd) : cq_ D cI cy h0 q A ad rl L n G pd' H := by
  obtain ⟨f, h1, h2, h3, h4⟩ := h
  exact ⟨f, h1, h2, h3, fun x hx => h4 x (hs x hx)⟩
abbrev cr_P (D : va_G) (cI : ClassId) (cy : Nat → ClassId) (h0 : Nat) (q : Nat → Nat) (A : Nat → Prop) (ad : Nat → Nat → Nat) (rl : Nat → Nat × Nat) (L : List Nat) (n : Nat → Nat) (G : Nat → Nat → Int32) (pd : List (Nat × va_E)) : State → Prop := fun U => cq_ D cI cy h0 q A ad rl L n G pd U.heap ∧ va_K D vwCl (tt_ cI cy) U ∧ nw_ U
theorem cq_pre {s : State} {H : Heap} {As : List Value} {D : va_G} {cI : ClassId} {cy : Nat → ClassId} {h0 : Nat} {q : Nat → Nat} {A : Nat → Prop} {ad : Nat → Nat → Nat} {rl : Nat → Nat × Nat} {L : List Nat} {n : Nat → Nat} {G : Nat → Nat → Int32} {pd : List (Nat × va_E)} (hC : cq_ D cI cy h0 q A ad rl L n G pd H) (hK : va_K D vwCl (tt_ cI cy) s) (hW0 : nw_ s) : PreV s H RX7 h0 (va_Pc (.ref h0 :: As) (cr_P D cI cy h0 q A ad rl L n G pd)) As := by
  refine ⟨fun a U g mk z => ⟨z.1, z.2.1, va_K.moved (u := U) (U := U.calling g mk a) (Vm.Alike.refl U.vm) z.2.2.1, nw_call z.2.2.2⟩, ?_, fun U hU hW => ⟨rfl, by rw [hU]; exact hC, va_K.moved hW.alike hK, nw_warm hW hW0⟩⟩
  obtain ⟨f, hP, -, -, -⟩ := hC
  exact va_recv hK hP (ci := 6) (q := (RX7, TX7, 14)) (q0 := 0) rfl rfl
theorem up2_ow {G : Nat → Nat → Int32} {s x s0 x0 : Nat} {v : Int32} {p : Nat × Nat} (h : ¬ ow_ x s = p) (h0 : ow_ x0 s0 = p) : up2 G s0 x0 v s x = G s x := up2_or G v (fun z => h (by rw [z.1, z.2]; exact h0))
/-- a letter that is written -/
def nl_ (G : Nat → Nat → Int32) (k : Nat) (kd fr to one two : Int32) : Nat → Nat → Int32 := up2 (up2 (up2 (up2 (up2 (up2 (up2 G 26 k kd) 27 k to) 40 k fr) 41 k fr) 42 k (-1)) 29 k one) 30 k two
theorem nl_o {G : Nat → Nat → Int32} {k : Nat} {kd fr to one two : Int32} {s x : Nat} (h : ¬ ow_ x s = (4, k)) : nl_ G k kd fr to one two s x = G s x := (up2_ow h rfl).trans ((up2_ow h rfl).trans ((up2_ow h rfl).trans ((up2_ow h rfl).trans ((up2_ow h rfl).trans ((up2_ow h rfl).trans (up2_ow h rfl))))))
/-- six numbers set -/
def c6_ (G : Nat → Nat → Int32) (s b : Nat) (g : Nat → Int32) : Nat → Nat → Int32 := up2 (up2 (up2 (up2 (up2 (up2 G s (b + 0) (g 0)) s (b + 1) (g 1)) s (b + 2) (g 2)) s (b + 3) (g 3)) s (b + 4) (g 4)) s (b + 5) (g 5)
theorem c6_o {G : Nat → Nat → Int32} {s0 b : Nat} {g : Nat → Int32} {s x : Nat} (h : ¬ (s = s0 ∧ b ≤ x ∧ x < b + 6)) : c6_ G s0 b g s x = G s x := by
  unfold c6_
  rw [up2_or _ _ (fun z => h ⟨z.1, by omega, by omega⟩), up2_or _ _ (fun z => h ⟨z.1, by omega, by omega⟩), up2_or _ _ (fun z => h ⟨z.1, by omega, by omega⟩), up2_or _ _ (fun z => h ⟨z.1, by omega, by omega⟩), up2_or _ _ (fun z => h ⟨z.1, by omega, by omega⟩), up2_or _ _ (fun z => h ⟨z.1, by omega, by omega⟩)]
theorem c6_i {G : Nat → Nat → Int32} {s b : Nat} {g : Nat → Int32} {w : Nat} (hw : w < 6) : c6_ G s b g s (b + w) = g w := by
  unfold c6_
  rcases (show w = 0 ∨ w = 1 ∨ w = 2 ∨ w = 3 ∨ w = 4 ∨ w = 5 by omega) with rfl | rfl | rfl | rfl | rfl | rfl
  · rw [up2_nk _ _ _ (by omega), up2_nk _ _ _ (by omega), up2_nk _ _ _ (by omega), up2_nk _ _ _ (by omega), up2_nk _ _ _ (by omega), up2_eq]
  · rw [up2_nk _ _ _ (by omega), up2_nk _ _ _ (by omega), up2_nk _ _ _ (by omega), up2_nk _ _ _ (by omega), up2_eq]
  · rw [up2_nk _ _ _ (by omega), up2_nk _ _ _ (by omega), up2_nk _ _ _ (by omega), up2_eq]
  · rw [up2_nk _ _ _ (by omega), up2_nk _ _ _ (by omega), up2_eq]
  · rw [up2_nk _ _ _ (by omega), up2_eq]
  · rw [up2_eq]
section CQ
variable {p : Program} {l : Launch} {e : Env} {R : Room} {s : State} {m : MethodId} {args : Array Value} {below : List Frame} {meth : Method} {c : Code} {H : Heap} {locs : List Loc} {cells slots : Nat} {Q : State → Prop}
variable {cc : ByteArray} {pc : Nat} {ls : Array Slot} {rest : List Value} {D : va_G} {A : Nat → Prop} {H0 : Heap} {cI : ClassId} {cy : Nat → ClassId} {h0 : Nat} {q : Nat → Nat} {ad : Nat → Nat → Nat} {rl : Nat → Nat × Nat} {L : List Nat} {n : Nat → Nat} {G : Nat → Nat → Int32} {Ts : List Cond} {own : String} {index : Nat}
theorem cq_new {C : String} {T : u_T} {N ci : Nat} {ty : Nat → FieldType} {fs : List Value} {pd : List (Nat × va_E)} (hexec : p.tables.exec = Jvm.exec) (hb : c.code = cc) (hts : ∀ w ∈ Ts, w.before args s = true) (hin : ∀ w ∈ u_ws C T N, w ∈ Ts) (hty : ∀ k, k < N → parseFieldDescriptor (T k).2.2.1 = some (ty k)) (hown : s.vm.findClass own = some m.cls) (hcl : (Cond.classLink own index C).before args s = true) (hinst : (Cond.instantiable C N).before args s = true) (hini : (Cond.initialized C).before args s = true)
    (hK : va_K D vwCl (tt_ cI cy) s) (hQ : cq_ D cI cy h0 q A ad rl L n G pd H) (hS : va_S A H0 H locs) (hA : ∀ q, H0.size ≤ q → A q) (hc : vwCl[ci]? = some (C, T, N)) (hfs : ∀ j, j < N → defaultValue (ty j) = vp_V fs j) (hcells : cells + 1 ≤ R.cells) (hslots : slots + N ≤ R.slots) (hdg : decode cc pc = .ok (.new index, 3))
    (kk : ∀ (a : Nat) (H1 : Heap), cq_ D cI cy h0 q A ad rl (L ++ [a]) n G (((a, .inr (ci, fs)) :: pd)) H1 → (∀ x ∈ pd, ¬ x.1 = a) → va_S A H0 H1 locs → W p l e R s m args below meth c H1 locs (cells + 1) (slots + N) Q (F0 m (pc + 3) ls (.ref a :: rest))) : W p l e R s m args below meth c H locs cells slots Q (F0 m pc ls rest) := by
  obtain ⟨f, hP, hD, hL, hp⟩ := hQ
  refine va_new (D := D) (ci := ci) (fs := fs) (C := C) (T := T) (N := N) hexec hb hts hin ty hty hown hcl hinst hini hK hP hD hS hA hc hfs hcells hslots hdg (fun a H1 hP2 hD2 hS2 => ?_)
  have hf := va_pl_fresh2 hD2
  rw [pl_push hf] at hP2 hD2
  exact kk a H1 ⟨_, hP2, hD2, ly_fr hL hf _, pd_fr hL hp hf _⟩ (fun x hx z => hf (by rw [← z]; exact (hp x hx).1)) hS2
theorem cq_clone (k i : Nat) {pd : List (Nat × va_E)} (hexec : p.tables.exec = Jvm.exec) (hb : c.code = cc) (hml : c.maxLocals = ls.size) (hown : s.vm.findClass own = some m.cls)
    (hlink : (Cond.methodLink own index ⟨"[I", "clone", "()Ljava/lang/Object;"⟩).before args s = true) (hsame : (Cond.sameMethod "[I" "java/lang/Object" "clone" "()Ljava/lang/Object;").before args s = true)
    (hnat : (Cond.native ⟨"java/lang/Object", "clone", "()Ljava/lang/Object;"⟩).before args s = true) (hinst : (Cond.instanceMethod ⟨"java/lang/Object", "clone", "()Ljava/lang/Object;"⟩).before args s = true)
    (hsel : (Cond.selects "[I" ⟨"[I", "clone", "()Ljava/lang/Object;"⟩ ⟨"java/lang/Object", "clone", "()Ljava/lang/Object;"⟩).before args s = true) (hW0 : nw_ s)
    (hK : va_K D vwCl (tt_ cI cy) s) (hQ : cq_ D cI cy h0 q A ad rl L n G pd H) (hS : va_S A H0 H locs) (hA : ∀ q, H0.size ≤ q → A q) (hl : lf_ n G i k) (h6 : il_ k = 6) (hfr : 1 ≤ R.frames) (hlo : (rest.map fun v => v.category).sum + 14 ≤ R.locals) (hcells : cells + 1 ≤ R.cells) (hslots : slots + 6 ≤ R.slots) (hdg : decode cc pc = .ok (.invokevirtual index, 3))
    (kk : ∀ (z : Nat) (g : Nat → Int32) (H1 : Heap), (∀ w, w < 6 → g w = G (is_ k) (ix_ i w k)) → cq_ D cI cy h0 q A ad rl (L ++ [z]) n G (((z, .inl (cI, 6, .inl g)) :: pd)) H1 → (∀ x ∈ pd, ¬ x.1 = z) → va_S A H0 H1 locs → W p l e R s m args below meth c H1 locs (cells + 1) (slots + 6) Q (F0 m (pc + 3) ls (.ref z :: rest))) : W p l e R s m args below meth c H locs cells slots Q (F0 m pc ls (.ref (ad k i) :: rest)) := by
  obtain ⟨f, hP, hD, hL, hp⟩ := hQ
  obtain ⟨hm, -, hc⟩ := hL.1 k i hl
  obtain ⟨g, he, hg⟩ := (ce_ar (by omega)).mp hc
  rw [h6] at he hg
  obtain ⟨p0, hp0⟩ := va_pl_get (X := xo_ h0 q n (G 44 0)) (f := f) hm
  rw [he] at hp0
  refine va_clone hexec hb hml hown hlink hsame hnat hinst hsel (nw_cl hW0) hK hP hD hS hA p0 0 hp0 rfl (va_nm_int (hK.2 0 _ rfl).2) (va_fit (fun _ _ => rfl)) hfr hlo hcells hslots hdg (fun z H1 _ hP2 hD2 hS2 => ?_)
  have hf := va_pl_fresh2 hD2
  rw [pl_push hf] at hP2 hD2
  exact kk z g H1 hg ⟨_, hP2, hD2, ly_fr hL hf _, pd_fr hL hp hf _⟩ (fun x hx z => hf (by rw [← z]; exact (hp x hx).1)) hS2
theorem cq_cast {pd : List (Nat × va_E)} {a : Nat} {x : vp_A} (hexec : p.tables.exec = Jvm.exec) (hb : c.code = cc) (hown : s.vm.findClass own = some m.cls) (hlink : (Cond.classLink own index "[I").before args s = true) (hK : va_K D vwCl (tt_ cI cy) s) (hQ : cq_ D cI cy h0 q A ad rl L n G pd H) (ha : (a, .inl (cI, x)) ∈ pd) (hdg : decode cc pc = .ok (.checkcast index, 3))
    (kk : W p l e R s m args below meth c H locs cells slots Q (F0 m (pc + 3) ls (.ref a :: rest))) : W p l e R s m args below meth c H locs cells slots Q (F0 m pc ls (.ref a :: rest)) := by
  obtain ⟨f, hP, hD, hL, hp⟩ := hQ
  obtain ⟨b1, b2, -⟩ := hp _ ha
  obtain ⟨p0, hp0⟩ := va_pl_get (X := xo_ h0 q n (G 44 0)) (f := f) b1
  rw [b2] at hp0
  exact va_castA hexec hb hown hlink hP p0 hp0 (va_nm_int (hK.2 0 _ rfl).2) hdg kk
def cz1_ (D : va_G) (cI : ClassId) (cy : Nat → ClassId) (h0 : Nat) (q : Nat → Nat) (A : Nat → Prop) (ad : Nat → Nat → Nat) (rl : Nat → Nat × Nat) (L : List Nat) (n : Nat → Nat) (G : Nat → Nat → Int32) (pd : List (Nat × va_E)) (a : Nat) (H : Heap) : Prop := ∃ f, va_P D vwCl (xo_ h0 q n (G 44 0) ++ va_pl L (va_up f (ad 21 0) (.inl (cy 8, 8, .inr (.inr (.inr (.inr (va_up (fun x => if x < n 1 then some (ad 1 x) else none) (n 1) (some a))))))))) H ∧ va_D A (xo_ h0 q n (G 44 0) ++ va_pl L (va_up f (ad 21 0) (.inl (cy 8, 8, .inr (.inr (.inr (.inr (va_up (fun x => if x < n 1 then some (ad 1 x) else none) (n 1) (some a))))))))) ∧ ly_ cI cy q ad rl L n G f ∧ ∀ x ∈ pd, x.1 ∈ L ∧ f x.1 = x.2 ∧ ∀ k i, lf_ n G i k → ¬ ad k i = x.1
theorem cz_ast1 {pd : List (Nat × va_E)} {a ci : Nat} {vs : List Value} {r : vw_C} (hexec : p.tables.exec = Jvm.exec) (hb : c.code = cc) (hW0 : nw_ s) (hK : va_K D vwCl (tt_ cI cy) s) (hQ : cq_ D cI cy h0 q A ad rl L n G pd H) (hS : va_S A H0 H locs) (ha : (a, .inr (ci, vs)) ∈ pd) (hc : vwCl[ci]? = some r) (hr : r = (RX4, TX4, 4)) (hn : n 1 < 8) (hdg : decode cc pc = .ok (.aastore, 1))
    (kk : ∀ (H1 : Heap) (locs1 : List Loc), cz1_ D cI cy h0 q A ad rl L n G pd a H1 → va_S A H0 H1 locs1 → W p l e R s m args below meth c H1 locs1 cells slots Q (F0 m (pc + 1) ls rest)) : W p l e R s m args below meth c H locs cells slots Q (F0 m pc ls (.ref a :: .int (nI (n 1)) :: .ref (q 1) :: rest)) := by
  obtain ⟨f, hP, hD, hL, hp⟩ := hQ
  obtain ⟨hm, -, hce⟩ := hL.1 21 0 rfl
  have hq : q 1 = ad 21 0 := hL.2.1 1 (by decide) (by decide)
  obtain ⟨b1, b2, b3⟩ := hp _ ha
  obtain ⟨p1, hp1⟩ := va_pl_get (X := xo_ h0 q n (G 44 0)) (f := f) b1
  rw [b2] at hp1
  obtain ⟨p0, hp0⟩ := va_pl_get (X := xo_ h0 q n (G 44 0)) (f := f) hm
  have hp0' := hp0
  rw [show f (ad 21 0) = _ from hce] at hp0'
  rw [hq]
  subst hr
  refine va_astq (r := (RX4, TX4, 4)) hexec hb hK hP hD hS p0 2 p1 ci hp0' rfl hp1 hc (i := nI (n 1)) (vp_in_nI hn (by decide)) hdg (fun H1 locs1 hP2 hD2 hS2 => ?_)
  rw [va_pl_set hD hm hp0, nI_clamp (by omega)] at hP2 hD2
  exact kk H1 locs1 ⟨f, hP2, hD2, hL, hp⟩ hS2
theorem cz_get1 {pd : List (Nat × va_E)} {a : Nat} (hexec : p.tables.exec = Jvm.exec) (hb : c.code = cc) (hts : ∀ w ∈ Ts, w.before args s = true) (hin : ∀ w ∈ u_ws RX7 TX7 14, w ∈ Ts) (hown : s.vm.findClass own = some m.cls) (hK : va_K D vwCl (tt_ cI cy) s) (hC : cz1_ D cI cy h0 q A ad rl L n G pd a H) (hlink : (Cond.fieldLink own index (TX7 9).1 (TX7 9).2.1 (TX7 9).2.2.1).before args s = true) (hdg : decode cc pc = .ok (.getfield index, 3))
    (kk : W p l e R s m args below meth c H locs cells slots Q (F0 m (pc + 3) ls (.int (nI (n 1)) :: rest))) : W p l e R s m args below meth c H locs cells slots Q (F0 m pc ls (.ref h0 :: rest)) := by
  obtain ⟨f, hP, -, -, -⟩ := hC
  exact va_get (D := D) (ci := 6) (C := RX7) (T := TX7) (N := 14) hexec hb hts hin hown hK hP 0 rfl rfl 9 (by decide) hlink (fun _ h9 => h9) rfl hdg kk
theorem cz_put1 {pd : List (Nat × va_E)} {a : Nat} (hexec : p.tables.exec = Jvm.exec) (hb : c.code = cc) (hts : ∀ w ∈ Ts, w.before args s = true) (hin : ∀ w ∈ u_ws RX7 TX7 14, w ∈ Ts) (hown : s.vm.findClass own = some m.cls) (hK : va_K D vwCl (tt_ cI cy) s) (hC : cz1_ D cI cy h0 q A ad rl L n G pd a H) (hS : va_S A H0 H locs) (hlink : (Cond.fieldLink own index (TX7 9).1 (TX7 9).2.1 (TX7 9).2.2.1).before args s = true) (hdg : decode cc pc = .ok (.putfield index, 3))
    (kk : ∀ (H1 : Heap) (locs1 : List Loc) (f : Nat → va_E), va_P D vwCl (xo_ h0 q (va_up n 1 (n 1 + 1)) (G 44 0) ++ va_pl L (va_up f (ad 21 0) (.inl (cy 8, 8, .inr (.inr (.inr (.inr (va_up (fun x => if x < n 1 then some (ad 1 x) else none) (n 1) (some a))))))))) H1 → va_D A (xo_ h0 q (va_up n 1 (n 1 + 1)) (G 44 0) ++ va_pl L (va_up f (ad 21 0) (.inl (cy 8, 8, .inr (.inr (.inr (.inr (va_up (fun x => if x < n 1 then some (ad 1 x) else none) (n 1) (some a))))))))) → ly_ cI cy q ad rl L n G f → (∀ x ∈ pd, x.1 ∈ L ∧ f x.1 = x.2 ∧ ∀ k i, lf_ n G i k → ¬ ad k i = x.1) → va_S A H0 H1 locs1 → W p l e R s m args below meth c H1 locs1 cells slots Q (F0 m (pc + 3) ls rest)) : W p l e R s m args below meth c H locs cells slots Q (F0 m pc ls (.int (nI (n 1 + 1)) :: .ref h0 :: rest)) := by
  obtain ⟨f, hP, hD, hL, hp⟩ := hC
  refine va_put (D := D) (ci := 6) (C := RX7) (T := TX7) (N := 14) (v := .int (nI (n 1 + 1))) (ty := .int) hexec hb hts hin tyX7 tyX7_ok nmX7 hown hK hP hD hS 0 rfl rfl 9 (by decide) hlink (fun _ h9 => h9) rfl (by decide +kernel) rfl rfl (Nat.le_of_ble_eq_true rfl) hdg (fun H1 locs1 hP2 hD2 hS2 => ?_)
  exact kk H1 locs1 f hP2 hD2 hL hp hS2
def cz2_ (D : va_G) (cI : ClassId) (cy : Nat → ClassId) (h0 : Nat) (q : Nat → Nat) (A : Nat → Prop) (ad : Nat → Nat → Nat) (rl : Nat → Nat × Nat) (L : List Nat) (n : Nat → Nat) (G : Nat → Nat → Int32) (pd : List (Nat × va_E)) (a : Nat) (H : Heap) : Prop := ∃ f, va_P D vwCl (xo_ h0 q n (G 44 0) ++ va_pl L (va_up f (ad 22 0) (.inl (cy 9, 12, .inr (.inr (.inr (.inr (va_up (fun x => if x < n 2 then some (ad 2 x) else none) (n 2) (some a))))))))) H ∧ va_D A (xo_ h0 q n (G 44 0) ++ va_pl L (va_up f (ad 22 0) (.inl (cy 9, 12, .inr (.inr (.inr (.inr (va_up (fun x => if x < n 2 then some (ad 2 x) else none) (n 2) (some a))))))))) ∧ ly_ cI cy q ad rl L n G f ∧ ∀ x ∈ pd, x.1 ∈ L ∧ f x.1 = x.2 ∧ ∀ k i, lf_ n G i k → ¬ ad k i = x.1
theorem cz_ast2 {pd : List (Nat × va_E)} {a ci : Nat} {vs : List Value} {r : vw_C} (hexec : p.tables.exec = Jvm.exec) (hb : c.code = cc) (hW0 : nw_ s) (hK : va_K D vwCl (tt_ cI cy) s) (hQ : cq_ D cI cy h0 q A ad rl L n G pd H) (hS : va_S A H0 H locs) (ha : (a, .inr (ci, vs)) ∈ pd) (hc : vwCl[ci]? = some r) (hr : r = (RX6, TX6, 6)) (hn : n 2 < 12) (hdg : decode cc pc = .ok (.aastore, 1))
    (kk : ∀ (H1 : Heap) (locs1 : List Loc), cz2_ D cI cy h0 q A ad rl L n G pd a H1 → va_S A H0 H1 locs1 → W p l e R s m args below meth c H1 locs1 cells slots Q (F0 m (pc + 1) ls rest)) : W p l e R s m args below meth c H locs cells slots Q (F0 m pc ls (.ref a :: .int (nI (n 2)) :: .ref (q 2) :: rest)) := by
  obtain ⟨f, hP, hD, hL, hp⟩ := hQ
  obtain ⟨hm, -, hce⟩ := hL.1 22 0 rfl
  have hq : q 2 = ad 22 0 := hL.2.1 2 (by decide) (by decide)
  obtain ⟨b1, b2, b3⟩ := hp _ ha
  obtain ⟨p1, hp1⟩ := va_pl_get (X := xo_ h0 q n (G 44 0)) (f := f) b1
  rw [b2] at hp1
  obtain ⟨p0, hp0⟩ := va_pl_get (X := xo_ h0 q n (G 44 0)) (f := f) hm
  have hp0' := hp0
  rw [show f (ad 22 0) = _ from hce] at hp0'
  rw [hq]
  subst hr
  refine va_astq (r := (RX6, TX6, 6)) hexec hb hK hP hD hS p0 3 p1 ci hp0' rfl hp1 hc (i := nI (n 2)) (vp_in_nI hn (by decide)) hdg (fun H1 locs1 hP2 hD2 hS2 => ?_)
  rw [va_pl_set hD hm hp0, nI_clamp (by omega)] at hP2 hD2
  exact kk H1 locs1 ⟨f, hP2, hD2, hL, hp⟩ hS2
theorem cz_get2 {pd : List (Nat × va_E)} {a : Nat} (hexec : p.tables.exec = Jvm.exec) (hb : c.code = cc) (hts : ∀ w ∈ Ts, w.before args s = true) (hin : ∀ w ∈ u_ws RX7 TX7 14, w ∈ Ts) (hown : s.vm.findClass own = some m.cls) (hK : va_K D vwCl (tt_ cI cy) s) (hC : cz2_ D cI cy h0 q A ad rl L n G pd a H) (hlink : (Cond.fieldLink own index (TX7 10).1 (TX7 10).2.1 (TX7 10).2.2.1).before args s = true) (hdg : decode cc pc = .ok (.getfield index, 3))
    (kk : W p l e R s m args below meth c H locs cells slots Q (F0 m (pc + 3) ls (.int (nI (n 2)) :: rest))) : W p l e R s m args below meth c H locs cells slots Q (F0 m pc ls (.ref h0 :: rest)) := by
  obtain ⟨f, hP, -, -, -⟩ := hC
  exact va_get (D := D) (ci := 6) (C := RX7) (T := TX7) (N := 14) hexec hb hts hin hown hK hP 0 rfl rfl 10 (by decide) hlink (fun _ h9 => h9) rfl hdg kk
theorem cz_put2 {pd : List (Nat × va_E)} {a : Nat} (hexec : p.tables.exec = Jvm.exec) (hb : c.code = cc) (hts : ∀ w ∈ Ts, w.before args s = true) (hin : ∀ w ∈ u_ws RX7 TX7 14, w ∈ Ts) (hown : s.vm.findClass own = some m.cls) (hK : va_K D vwCl (tt_ cI cy) s) (hC : cz2_ D cI cy h0 q A ad rl L n G pd a H) (hS : va_S A H0 H locs) (hlink : (Cond.fieldLink own index (TX7 10).1 (TX7 10).2.1 (TX7 10).2.2.1).before args s = true) (hdg : decode cc pc = .ok (.putfield index, 3))
    (kk : ∀ (H1 : Heap) (locs1 : List Loc) (f : Nat → va_E), va_P D vwCl (xo_ h0 q (va_up n 2 (n 2 + 1)) (G 44 0) ++ va_pl L (va_up f (ad 22 0) (.inl (cy 9, 12, .inr (.inr (.inr (.inr (va_up (fun x => if x < n 2 then some (ad 2 x) else none) (n 2) (some a))))))))) H1 → va_D A (xo_ h0 q (va_up n 2 (n 2 + 1)) (G 44 0) ++ va_pl L (va_up f (ad 22 0) (.inl (cy 9, 12, .inr (.inr (.inr (.inr (va_up (fun x => if x < n 2 then some (ad 2 x) else none) (n 2) (some a))))))))) → ly_ cI cy q ad rl L n G f → (∀ x ∈ pd, x.1 ∈ L ∧ f x.1 = x.2 ∧ ∀ k i, lf_ n G i k → ¬ ad k i = x.1) → va_S A H0 H1 locs1 → W p l e R s m args below meth c H1 locs1 cells slots Q (F0 m (pc + 3) ls rest)) : W p l e R s m args below meth c H locs cells slots Q (F0 m pc ls (.int (nI (n 2 + 1)) :: .ref h0 :: rest)) := by
  obtain ⟨f, hP, hD, hL, hp⟩ := hC
  refine va_put (D := D) (ci := 6) (C := RX7) (T := TX7) (N := 14) (v := .int (nI (n 2 + 1))) (ty := .int) hexec hb hts hin tyX7 tyX7_ok nmX7 hown hK hP hD hS 0 rfl rfl 10 (by decide) hlink (fun _ h9 => h9) rfl (by decide +kernel) rfl rfl (Nat.le_of_ble_eq_true rfl) hdg (fun H1 locs1 hP2 hD2 hS2 => ?_)
  exact kk H1 locs1 f hP2 hD2 hL hp hS2
def cz3_ (D : va_G) (cI : ClassId) (cy : Nat → ClassId) (h0 : Nat) (q : Nat → Nat) (A : Nat → Prop) (ad : Nat → Nat → Nat) (rl : Nat → Nat × Nat) (L : List Nat) (n : Nat → Nat) (G : Nat → Nat → Int32) (pd : List (Nat × va_E)) (a : Nat) (H : Heap) : Prop := ∃ f, va_P D vwCl (xo_ h0 q n (G 44 0) ++ va_pl L (va_up f (ad 23 0) (.inl (cy 10, 120, .inr (.inr (.inr (.inr (va_up (fun x => if x < n 3 then some (ad 3 x) else none) (n 3) (some a))))))))) H ∧ va_D A (xo_ h0 q n (G 44 0) ++ va_pl L (va_up f (ad 23 0) (.inl (cy 10, 120, .inr (.inr (.inr (.inr (va_up (fun x => if x < n 3 then some (ad 3 x) else none) (n 3) (some a))))))))) ∧ ly_ cI cy q ad rl L n G f ∧ ∀ x ∈ pd, x.1 ∈ L ∧ f x.1 = x.2 ∧ ∀ k i, lf_ n G i k → ¬ ad k i = x.1
theorem cz_ast3 {pd : List (Nat × va_E)} {a ci : Nat} {vs : List Value} {r : vw_C} (hexec : p.tables.exec = Jvm.exec) (hb : c.code = cc) (hW0 : nw_ s) (hK : va_K D vwCl (tt_ cI cy) s) (hQ : cq_ D cI cy h0 q A ad rl L n G pd H) (hS : va_S A H0 H locs) (ha : (a, .inr (ci, vs)) ∈ pd) (hc : vwCl[ci]? = some r) (hr : r = (RX0, TX0, 11)) (hn : n 3 < 120) (hdg : decode cc pc = .ok (.aastore, 1))
    (kk : ∀ (H1 : Heap) (locs1 : List Loc), cz3_ D cI cy h0 q A ad rl L n G pd a H1 → va_S A H0 H1 locs1 → W p l e R s m args below meth c H1 locs1 cells slots Q (F0 m (pc + 1) ls rest)) : W p l e R s m args below meth c H locs cells slots Q (F0 m pc ls (.ref a :: .int (nI (n 3)) :: .ref (q 3) :: rest)) := by
  obtain ⟨f, hP, hD, hL, hp⟩ := hQ
  obtain ⟨hm, -, hce⟩ := hL.1 23 0 rfl
  have hq : q 3 = ad 23 0 := hL.2.1 3 (by decide) (by decide)
  obtain ⟨b1, b2, b3⟩ := hp _ ha
  obtain ⟨p1, hp1⟩ := va_pl_get (X := xo_ h0 q n (G 44 0)) (f := f) b1
  rw [b2] at hp1
  obtain ⟨p0, hp0⟩ := va_pl_get (X := xo_ h0 q n (G 44 0)) (f := f) hm
  have hp0' := hp0
  rw [show f (ad 23 0) = _ from hce] at hp0'
  rw [hq]
  subst hr
  refine va_astq (r := (RX0, TX0, 11)) hexec hb hK hP hD hS p0 4 p1 ci hp0' rfl hp1 hc (i := nI (n 3)) (vp_in_nI hn (by decide)) hdg (fun H1 locs1 hP2 hD2 hS2 => ?_)
  rw [va_pl_set hD hm hp0, nI_clamp (by omega)] at hP2 hD2
  exact kk H1 locs1 ⟨f, hP2, hD2, hL, hp⟩ hS2
theorem cz_get3 {pd : List (Nat × va_E)} {a : Nat} (hexec : p.tables.exec = Jvm.exec) (hb : c.code = cc) (hts : ∀ w ∈ Ts, w.before args s = true) (hin : ∀ w ∈ u_ws RX7 TX7 14, w ∈ Ts) (hown : s.vm.findClass own = some m.cls) (hK : va_K D vwCl (tt_ cI cy) s) (hC : cz3_ D cI cy h0 q A ad rl L n G pd a H) (hlink : (Cond.fieldLink own index (TX7 11).1 (TX7 11).2.1 (TX7 11).2.2.1).before args s = true) (hdg : decode cc pc = .ok (.getfield index, 3))
    (kk : W p l e R s m args below meth c H locs cells slots Q (F0 m (pc + 3) ls (.int (nI (n 3)) :: rest))) : W p l e R s m args below meth c H locs cells slots Q (F0 m pc ls (.ref h0 :: rest)) := by
  obtain ⟨f, hP, -, -, -⟩ := hC
  exact va_get (D := D) (ci := 6) (C := RX7) (T := TX7) (N := 14) hexec hb hts hin hown hK hP 0 rfl rfl 11 (by decide) hlink (fun _ h9 => h9) rfl hdg kk
theorem cz_put3 {pd : List (Nat × va_E)} {a : Nat} (hexec : p.tables.exec = Jvm.exec) (hb : c.code = cc) (hts : ∀ w ∈ Ts, w.before args s = true) (hin : ∀ w ∈ u_ws RX7 TX7 14, w ∈ Ts) (hown : s.vm.findClass own = some m.cls) (hK : va_K D vwCl (tt_ cI cy) s) (hC : cz3_ D cI cy h0 q A ad rl L n G pd a H) (hS : va_S A H0 H locs) (hlink : (Cond.fieldLink own index (TX7 11).1 (TX7 11).2.1 (TX7 11).2.2.1).before args s = true) (hdg : decode cc pc = .ok (.putfield index, 3))
    (kk : ∀ (H1 : Heap) (locs1 : List Loc) (f : Nat → va_E), va_P D vwCl (xo_ h0 q (va_up n 3 (n 3 + 1)) (G 44 0) ++ va_pl L (va_up f (ad 23 0) (.inl (cy 10, 120, .inr (.inr (.inr (.inr (va_up (fun x => if x < n 3 then some (ad 3 x) else none) (n 3) (some a))))))))) H1 → va_D A (xo_ h0 q (va_up n 3 (n 3 + 1)) (G 44 0) ++ va_pl L (va_up f (ad 23 0) (.inl (cy 10, 120, .inr (.inr (.inr (.inr (va_up (fun x => if x < n 3 then some (ad 3 x) else none) (n 3) (some a))))))))) → ly_ cI cy q ad rl L n G f → (∀ x ∈ pd, x.1 ∈ L ∧ f x.1 = x.2 ∧ ∀ k i, lf_ n G i k → ¬ ad k i = x.1) → va_S A H0 H1 locs1 → W p l e R s m args below meth c H1 locs1 cells slots Q (F0 m (pc + 3) ls rest)) : W p l e R s m args below meth c H locs cells slots Q (F0 m pc ls (.int (nI (n 3 + 1)) :: .ref h0 :: rest)) := by
  obtain ⟨f, hP, hD, hL, hp⟩ := hC
  refine va_put (D := D) (ci := 6) (C := RX7) (T := TX7) (N := 14) (v := .int (nI (n 3 + 1))) (ty := .int) hexec hb hts hin tyX7 tyX7_ok nmX7 hown hK hP hD hS 0 rfl rfl 11 (by decide) hlink (fun _ h9 => h9) rfl (by decide +kernel) rfl rfl (Nat.le_of_ble_eq_true rfl) hdg (fun H1 locs1 hP2 hD2 hS2 => ?_)
  exact kk H1 locs1 f hP2 hD2 hL hp hS2
def cz4_ (D : va_G) (cI : ClassId) (cy : Nat → ClassId) (h0 : Nat) (q : Nat → Nat) (A : Nat → Prop) (ad : Nat → Nat → Nat) (rl : Nat → Nat × Nat) (L : List Nat) (n : Nat → Nat) (G : Nat → Nat → Int32) (pd : List (Nat × va_E)) (a : Nat) (H : Heap) : Prop := ∃ f, va_P D vwCl (xo_ h0 q n (G 44 0) ++ va_pl L (va_up f (ad 24 0) (.inl (cy 11, 300, .inr (.inr (.inr (.inr (va_up (fun x => if x < n 4 then some (ad 4 x) else none) (n 4) (some a))))))))) H ∧ va_D A (xo_ h0 q n (G 44 0) ++ va_pl L (va_up f (ad 24 0) (.inl (cy 11, 300, .inr (.inr (.inr (.inr (va_up (fun x => if x < n 4 then some (ad 4 x) else none) (n 4) (some a))))))))) ∧ ly_ cI cy q ad rl L n G f ∧ ∀ x ∈ pd, x.1 ∈ L ∧ f x.1 = x.2 ∧ ∀ k i, lf_ n G i k → ¬ ad k i = x.1
theorem cz_ast4 {pd : List (Nat × va_E)} {a ci : Nat} {vs : List Value} {r : vw_C} (hexec : p.tables.exec = Jvm.exec) (hb : c.code = cc) (hW0 : nw_ s) (hK : va_K D vwCl (tt_ cI cy) s) (hQ : cq_ D cI cy h0 q A ad rl L n G pd H) (hS : va_S A H0 H locs) (ha : (a, .inr (ci, vs)) ∈ pd) (hc : vwCl[ci]? = some r) (hr : r = (RX3, TX3, 6) ∨ r = (RX1, TX1, 6) ∨ r = (RX5, TX5, 6)) (hn : n 4 < 300) (hdg : decode cc pc = .ok (.aastore, 1))
    (kk : ∀ (H1 : Heap) (locs1 : List Loc), cz4_ D cI cy h0 q A ad rl L n G pd a H1 → va_S A H0 H1 locs1 → W p l e R s m args below meth c H1 locs1 cells slots Q (F0 m (pc + 1) ls rest)) : W p l e R s m args below meth c H locs cells slots Q (F0 m pc ls (.ref a :: .int (nI (n 4)) :: .ref (q 4) :: rest)) := by
  obtain ⟨f, hP, hD, hL, hp⟩ := hQ
  obtain ⟨hm, -, hce⟩ := hL.1 24 0 rfl
  have hq : q 4 = ad 24 0 := hL.2.1 4 (by decide) (by decide)
  obtain ⟨b1, b2, b3⟩ := hp _ ha
  obtain ⟨p1, hp1⟩ := va_pl_get (X := xo_ h0 q n (G 44 0)) (f := f) b1
  rw [b2] at hp1
  obtain ⟨p0, hp0⟩ := va_pl_get (X := xo_ h0 q n (G 44 0)) (f := f) hm
  have hp0' := hp0
  rw [show f (ad 24 0) = _ from hce] at hp0'
  rw [hq]
  have hany : va_Any RX2 s H a := by
    rcases hr with rfl | rfl | rfl
    · exact va_rAny hK hP hp1 hc (ca_asg (nw_l3 hW0))
    · exact va_rAny hK hP hp1 hc (ca_asg (nw_l1 hW0))
    · exact va_rAny hK hP hp1 hc (ca_asg (nw_l5 hW0))
  refine va_astqM (E := RX2) hexec hb hK hP hD hS p0 5 hp0' rfl hany (i := nI (n 4)) (vp_in_nI hn (by decide)) hdg (fun H1 locs1 hP2 hD2 hS2 => ?_)
  rw [va_pl_set hD hm hp0, nI_clamp (by omega)] at hP2 hD2
  exact kk H1 locs1 ⟨f, hP2, hD2, hL, hp⟩ hS2
theorem cz_get4 {pd : List (Nat × va_E)} {a : Nat} (hexec : p.tables.exec = Jvm.exec) (hb : c.code = cc) (hts : ∀ w ∈ Ts, w.before args s = true) (hin : ∀ w ∈ u_ws RX7 TX7 14, w ∈ Ts) (hown : s.vm.findClass own = some m.cls) (hK : va_K D vwCl (tt_ cI cy) s) (hC : cz4_ D cI cy h0 q A ad rl L n G pd a H) (hlink : (Cond.fieldLink own index (TX7 12).1 (TX7 12).2.1 (TX7 12).2.2.1).before args s = true) (hdg : decode cc pc = .ok (.getfield index, 3))
    (kk : W p l e R s m args below meth c H locs cells slots Q (F0 m (pc + 3) ls (.int (nI (n 4)) :: rest))) : W p l e R s m args below meth c H locs cells slots Q (F0 m pc ls (.ref h0 :: rest)) := by
  obtain ⟨f, hP, -, -, -⟩ := hC
  exact va_get (D := D) (ci := 6) (C := RX7) (T := TX7) (N := 14) hexec hb hts hin hown hK hP 0 rfl rfl 12 (by decide) hlink (fun _ h9 => h9) rfl hdg kk
theorem cz_put4 {pd : List (Nat × va_E)} {a : Nat} (hexec : p.tables.exec = Jvm.exec) (hb : c.code = cc) (hts : ∀ w ∈ Ts, w.before args s = true) (hin : ∀ w ∈ u_ws RX7 TX7 14, w ∈ Ts) (hown : s.vm.findClass own = some m.cls) (hK : va_K D vwCl (tt_ cI cy) s) (hC : cz4_ D cI cy h0 q A ad rl L n G pd a H) (hS : va_S A H0 H locs) (hlink : (Cond.fieldLink own index (TX7 12).1 (TX7 12).2.1 (TX7 12).2.2.1).before args s = true) (hdg : decode cc pc = .ok (.putfield index, 3))
    (kk : ∀ (H1 : Heap) (locs1 : List Loc) (f : Nat → va_E), va_P D vwCl (xo_ h0 q (va_up n 4 (n 4 + 1)) (G 44 0) ++ va_pl L (va_up f (ad 24 0) (.inl (cy 11, 300, .inr (.inr (.inr (.inr (va_up (fun x => if x < n 4 then some (ad 4 x) else none) (n 4) (some a))))))))) H1 → va_D A (xo_ h0 q (va_up n 4 (n 4 + 1)) (G 44 0) ++ va_pl L (va_up f (ad 24 0) (.inl (cy 11, 300, .inr (.inr (.inr (.inr (va_up (fun x => if x < n 4 then some (ad 4 x) else none) (n 4) (some a))))))))) → ly_ cI cy q ad rl L n G f → (∀ x ∈ pd, x.1 ∈ L ∧ f x.1 = x.2 ∧ ∀ k i, lf_ n G i k → ¬ ad k i = x.1) → va_S A H0 H1 locs1 → W p l e R s m args below meth c H1 locs1 cells slots Q (F0 m (pc + 3) ls rest)) : W p l e R s m args below meth c H locs cells slots Q (F0 m pc ls (.int (nI (n 4 + 1)) :: .ref h0 :: rest)) := by
  obtain ⟨f, hP, hD, hL, hp⟩ := hC
  refine va_put (D := D) (ci := 6) (C := RX7) (T := TX7) (N := 14) (v := .int (nI (n 4 + 1))) (ty := .int) hexec hb hts hin tyX7 tyX7_ok nmX7 hown hK hP hD hS 0 rfl rfl 12 (by decide) hlink (fun _ h9 => h9) rfl (by decide +kernel) rfl rfl (Nat.le_of_ble_eq_true rfl) hdg (fun H1 locs1 hP2 hD2 hS2 => ?_)
  exact kk H1 locs1 f hP2 hD2 hL hp hS2
end CQ
theorem ce_move {cI : ClassId} {cy : Nat → ClassId} {ad ad' : Nat → Nat → Nat} {n n' : Nat → Nat} {G : Nat → Nat → Int32} {i : Nat} {e : va_E} (hN : n 4 ≤ 300) {k : Nat} (hl : lf_ n G i k) (hr : rv_ n G) (had : ∀ k i, lf_ n G i k → ad' k i = ad k i) (hn : ∀ j, k = 20 + j → n' j = n j) (hc : ce_ cI cy ad n G i e k) : ce_ cI cy ad' n' G i e k := by
  rcases lf_cases hl with hil | rfl | rfl | rfl | rfl | rfl | ⟨h1, h2⟩
  · exact (ce_ar hil).mpr ((ce_ar hil).mp hc)
  · have hl : i < n 1 := hl
    have hc : e = _ := hc
    show e = _
    rw [hc, had 5 i hl, had 6 i hl, had 7 i hl, had 8 i hl]
  · exact hc
  · have hl : i < n 3 := hl
    have hc : e = _ := hc
    show e = _
    rw [hc, had 9 i hl, had 10 i hl]
  · have hl : i < n 4 := hl
    have hc : e = lq_ ad G i := hc
    show e = lq_ ad' G i
    rw [hc]
    by_cases k0 : G 26 i = 0
    · rw [lq_0 k0, lq_0 k0]
    by_cases k1 : G 26 i = 1
    · rw [lq_1 k1, lq_1 k1]
    · rw [lq_2 k0 k1, lq_2 k0 k1, had 11 i ⟨hl, k0, k1⟩]
  · obtain ⟨g, he, hg⟩ := hc
    refine ⟨g, he, fun w hw => (hg w hw).trans ?_⟩
    unfold ro_
    rcases hr i w hl hw with h1 | ⟨x, hx, e1, -, -⟩
    · rw [if_pos h1, if_pos h1]
    · rw [e1, nI_clamp (by omega), had 4 x hx]
  · have rt : ∀ (c : ClassId) (len m m' r : Nat), m' = m → (∀ x, x < m → ad' r x = ad r x) → e = .inl (c, len, .inr (.inr (.inr (.inr (fun x => if x < m then some (ad r x) else none))))) → e = .inl (c, len, .inr (.inr (.inr (.inr (fun x => if x < m' then some (ad' r x) else none))))) := fun c len m m' r hm hx he => by
      rw [he, hm]
      have ef : (fun x => if x < m then some (ad r x) else none) = (fun x => if x < m then some (ad' r x) else none) := by
        funext x
        by_cases e : x < m
        · rw [if_pos e, if_pos e, hx x e]
        · rw [if_neg e, if_neg e]
      rw [ef]
    rcases (show k = 21 ∨ k = 22 ∨ k = 23 ∨ k = 24 ∨ k = 25 ∨ k = 26 ∨ k = 27 by omega) with rfl | rfl | rfl | rfl | rfl | rfl | rfl
    · exact rt _ _ _ _ 1 (hn 1 rfl) (fun x hx => had 1 x hx) hc
    · exact rt _ _ _ _ 2 (hn 2 rfl) (fun x hx => had 2 x hx) hc
    · exact rt _ _ _ _ 3 (hn 3 rfl) (fun x hx => had 3 x hx) hc
    · exact rt _ _ _ _ 4 (hn 4 rfl) (fun x hx => had 4 x hx) hc
    · exact rt _ _ _ _ 12 rfl (fun x hx => had 12 x hx) hc
    · exact rt _ _ _ _ 13 rfl (fun x hx => had 13 x hx) hc
    · exact rt _ _ _ _ 14 rfl (fun x hx => had 14 x hx) hc
theorem ly_grow {cI : ClassId} {cy : Nat → ClassId} {q : Nat → Nat} {ad ad' : Nat → Nat → Nat} {rl rl' : Nat → Nat × Nat} {L : List Nat} {n n' : Nat → Nat} {G G' : Nat → Nat → Int32} {f f' : Nat → va_E} (j : Nat) (hN : n 4 ≤ 300) (hL : ly_ cI cy q ad rl L n G f) (had : ∀ k i, lf_ n G i k → ad' k i = ad k i) (hrl : ∀ k i, lf_ n G i k → rl' (ad k i) = (k, i)) (hG : ∀ k i, lf_ n G i k → ∀ s x, ow_ x s = (k, i) → G' s x = G s x) (hf : ∀ k i, lf_ n G i k → ¬ k = 20 + j → f' (ad k i) = f (ad k i)) (hn : ∀ c, ¬ c = j → n' c = n c) (hroot : ce_ cI cy ad' n' G' 0 (f' (ad (20 + j) 0)) (20 + j)) (hr0 : ∀ i, lf_ n G i (20 + j) → i = 0) (hnew : ∀ k i, lf_ n' G' i k → ¬ lf_ n G i k → ad' k i ∈ L ∧ rl' (ad' k i) = (k, i) ∧ ce_ cI cy ad' n' G' i (f' (ad' k i)) k) (hq : ∀ j, 1 ≤ j → j ≤ 8 → lf_ n G 0 (20 + j)) (hrv : rv_ n' G') : ly_ cI cy q ad' rl' L n' G' f' := by
  obtain ⟨h1, h2, h3⟩ := hL
  refine ⟨fun k i hl => ?_, fun c h1c h8c => by rw [had _ _ (hq c h1c h8c)]; exact h2 c h1c h8c, hrv⟩
  by_cases ho : lf_ n G i k
  · obtain ⟨a1, a2, a3⟩ := h1 k i ho
    rw [had k i ho]
    refine ⟨a1, hrl k i ho, ?_⟩
    by_cases hk : k = 20 + j
    · subst hk
      rw [hr0 i ho]
      exact hroot
    · rw [hf k i ho hk]
      refine ce_cong' (hG k i ho) ho (ce_move hN ho h3 had (fun c hc => hn c (fun z => hk (by rw [hc, z]))) a3)
  · exact hnew k i hl ho
theorem lf_new1 {n : Nat → Nat} {G G' : Nat → Nat → Int32} {i : Nat} (h26 : ∀ x, x < n 4 → G' 26 x = G 26 x) : ∀ {k : Nat}, lf_ (va_up n 1 (n 1 + 1)) G' i k → ¬ lf_ n G i k → i = n 1 ∧ (k = 1 ∨ k = 5 ∨ k = 6 ∨ k = 7 ∨ k = 8)
  | 0, hl, hn => absurd hl hn
  | 1, hl, hn => ⟨by
      have h1 : i < n 1 + 1 := hl
      have h2 : ¬ i < n 1 := hn
      omega, Or.inl rfl⟩
  | 2, hl, hn => absurd hl hn
  | 3, hl, hn => absurd hl hn
  | 4, hl, hn => absurd hl hn
  | 5, hl, hn => ⟨by
      have h1 : i < n 1 + 1 := hl
      have h2 : ¬ i < n 1 := hn
      omega, Or.inr (Or.inl rfl)⟩
  | 6, hl, hn => ⟨by
      have h1 : i < n 1 + 1 := hl
      have h2 : ¬ i < n 1 := hn
      omega, Or.inr (Or.inr (Or.inl rfl))⟩
  | 7, hl, hn => ⟨by
      have h1 : i < n 1 + 1 := hl
      have h2 : ¬ i < n 1 := hn
      omega, Or.inr (Or.inr (Or.inr (Or.inl rfl)))⟩
  | 8, hl, hn => ⟨by
      have h1 : i < n 1 + 1 := hl
      have h2 : ¬ i < n 1 := hn
      omega, Or.inr (Or.inr (Or.inr (Or.inr (rfl))))⟩
  | 9, hl, hn => absurd hl hn
  | 10, hl, hn => absurd hl hn
  | 11, hl, hn => absurd ⟨hl.1, by rw [← h26 i hl.1]; exact hl.2.1, by rw [← h26 i hl.1]; exact hl.2.2⟩ hn
  | 12, hl, hn => absurd hl hn
  | 13, hl, hn => absurd hl hn
  | 14, hl, hn => absurd hl hn
  | 15, hl, hn => absurd hl hn
  | 16, hl, hn => absurd hl hn
  | 17, hl, hn => absurd hl hn
  | 18, hl, hn => absurd hl hn
  | 19, hl, hn => absurd hl hn
  | 20, hl, hn => absurd hl hn
  | 21, hl, hn => absurd hl hn
  | 22, hl, hn => absurd hl hn
  | 23, hl, hn => absurd hl hn
  | 24, hl, hn => absurd hl hn
  | 25, hl, hn => absurd hl hn
  | 26, hl, hn => absurd hl hn
  | 27, hl, hn => absurd hl hn
  | 28, hl, hn => absurd hl hn
  | _ + 29, hl, hn => absurd hl hn
theorem lf_new2 {n : Nat → Nat} {G G' : Nat → Nat → Int32} {i : Nat} (h26 : ∀ x, x < n 4 → G' 26 x = G 26 x) : ∀ {k : Nat}, lf_ (va_up n 2 (n 2 + 1)) G' i k → ¬ lf_ n G i k → i = n 2 ∧ (k = 2)
  | 0, hl, hn => absurd hl hn
  | 1, hl, hn => absurd hl hn
  | 2, hl, hn => ⟨by
      have h1 : i < n 2 + 1 := hl
      have h2 : ¬ i < n 2 := hn
      omega, rfl⟩
  | 3, hl, hn => absurd hl hn
  | 4, hl, hn => absurd hl hn
  | 5, hl, hn => absurd hl hn
  | 6, hl, hn => absurd hl hn
  | 7, hl, hn => absurd hl hn
  | 8, hl, hn => absurd hl hn
  | 9, hl, hn => absurd hl hn
  | 10, hl, hn => absurd hl hn
  | 11, hl, hn => absurd ⟨hl.1, by rw [← h26 i hl.1]; exact hl.2.1, by rw [← h26 i hl.1]; exact hl.2.2⟩ hn
  | 12, hl, hn => absurd hl hn
  | 13, hl, hn => absurd hl hn
  | 14, hl, hn => absurd hl hn
  | 15, hl, hn => absurd hl hn
  | 16, hl, hn => absurd hl hn
  | 17, hl, hn => absurd hl hn
  | 18, hl, hn => absurd hl hn
  | 19, hl, hn => absurd hl hn
  | 20, hl, hn => absurd hl hn
  | 21, hl, hn => absurd hl hn
  | 22, hl, hn => absurd hl hn
  | 23, hl, hn => absurd hl hn
  | 24, hl, hn => absurd hl hn
  | 25, hl, hn => absurd hl hn
  | 26, hl, hn => absurd hl hn
  | 27, hl, hn => absurd hl hn
  | 28, hl, hn => absurd hl hn
  | _ + 29, hl, hn => absurd hl hn
theorem lf_new3 {n : Nat → Nat} {G G' : Nat → Nat → Int32} {i : Nat} (h26 : ∀ x, x < n 4 → G' 26 x = G 26 x) : ∀ {k : Nat}, lf_ (va_up n 3 (n 3 + 1)) G' i k → ¬ lf_ n G i k → i = n 3 ∧ (k = 3 ∨ k = 9 ∨ k = 10)
  | 0, hl, hn => absurd hl hn
  | 1, hl, hn => absurd hl hn
  | 2, hl, hn => absurd hl hn
  | 3, hl, hn => ⟨by
      have h1 : i < n 3 + 1 := hl
      have h2 : ¬ i < n 3 := hn
      omega, Or.inl rfl⟩
  | 4, hl, hn => absurd hl hn
  | 5, hl, hn => absurd hl hn
  | 6, hl, hn => absurd hl hn
  | 7, hl, hn => absurd hl hn
  | 8, hl, hn => absurd hl hn
  | 9, hl, hn => ⟨by
      have h1 : i < n 3 + 1 := hl
      have h2 : ¬ i < n 3 := hn
      omega, Or.inr (Or.inl rfl)⟩
  | 10, hl, hn => ⟨by
      have h1 : i < n 3 + 1 := hl
      have h2 : ¬ i < n 3 := hn
      omega, Or.inr (Or.inr (rfl))⟩
  | 11, hl, hn => absurd ⟨hl.1, by rw [← h26 i hl.1]; exact hl.2.1, by rw [← h26 i hl.1]; exact hl.2.2⟩ hn
  | 12, hl, hn => absurd hl hn
  | 13, hl, hn => absurd hl hn
  | 14, hl, hn => absurd hl hn
  | 15, hl, hn => absurd hl hn
  | 16, hl, hn => absurd hl hn
  | 17, hl, hn => absurd hl hn
  | 18, hl, hn => absurd hl hn
  | 19, hl, hn => absurd hl hn
  | 20, hl, hn => absurd hl hn
  | 21, hl, hn => absurd hl hn
  | 22, hl, hn => absurd hl hn
  | 23, hl, hn => absurd hl hn
  | 24, hl, hn => absurd hl hn
  | 25, hl, hn => absurd hl hn
  | 26, hl, hn => absurd hl hn
  | 27, hl, hn => absurd hl hn
  | 28, hl, hn => absurd hl hn
  | _ + 29, hl, hn => absurd hl hn
theorem lf_new4 {n : Nat → Nat} {G G' : Nat → Nat → Int32} {i : Nat} (h26 : ∀ x, x < n 4 → G' 26 x = G 26 x) : ∀ {k : Nat}, lf_ (va_up n 4 (n 4 + 1)) G' i k → ¬ lf_ n G i k → i = n 4 ∧ (k = 4 ∨ k = 11)
  | 0, hl, hn => absurd hl hn
  | 1, hl, hn => absurd hl hn
  | 2, hl, hn => absurd hl hn
  | 3, hl, hn => absurd hl hn
  | 4, hl, hn => ⟨by
      have h1 : i < n 4 + 1 := hl
      have h2 : ¬ i < n 4 := hn
      omega, Or.inl rfl⟩
  | 5, hl, hn => absurd hl hn
  | 6, hl, hn => absurd hl hn
  | 7, hl, hn => absurd hl hn
  | 8, hl, hn => absurd hl hn
  | 9, hl, hn => absurd hl hn
  | 10, hl, hn => absurd hl hn
  | 11, hl, hn => ⟨by
      have h1 : i < n 4 + 1 := hl.1
      have h2 : ¬ i < n 4 := fun z => hn ⟨z, by rw [← h26 i z]; exact hl.2.1, by rw [← h26 i z]; exact hl.2.2⟩
      omega, Or.inr rfl⟩
  | 12, hl, hn => absurd hl hn
  | 13, hl, hn => absurd hl hn
  | 14, hl, hn => absurd hl hn
  | 15, hl, hn => absurd hl hn
  | 16, hl, hn => absurd hl hn
  | 17, hl, hn => absurd hl hn
  | 18, hl, hn => absurd hl hn
  | 19, hl, hn => absurd hl hn
  | 20, hl, hn => absurd hl hn
  | 21, hl, hn => absurd hl hn
  | 22, hl, hn => absurd hl hn
  | 23, hl, hn => absurd hl hn
  | 24, hl, hn => absurd hl hn
  | 25, hl, hn => absurd hl hn
  | 26, hl, hn => absurd hl hn
  | 27, hl, hn => absurd hl hn
  | 28, hl, hn => absurd hl hn
  | _ + 29, hl, hn => absurd hl hn
theorem lf_q {n : Nat → Nat} {G : Nat → Nat → Int32} : ∀ j, 1 ≤ j → j ≤ 8 → lf_ n G 0 (20 + j) := fun j h1 h8 => by
  rcases (show j = 1 ∨ j = 2 ∨ j = 3 ∨ j = 4 ∨ j = 5 ∨ j = 6 ∨ j = 7 ∨ j = 8 by omega) with rfl | rfl | rfl | rfl | rfl | rfl | rfl | rfl <;> rfl
def ad1 (ad : Nat → Nat → Nat) (k i a : Nat) : Nat → Nat → Nat := fun k' i' => if k' = k ∧ i' = i then a else ad k' i'
theorem ad1_eq (ad : Nat → Nat → Nat) (k i a : Nat) : ad1 ad k i a k i = a := if_pos ⟨rfl, rfl⟩
theorem ad1_ne (ad : Nat → Nat → Nat) {k i : Nat} (a : Nat) {k' i' : Nat} (h : ¬ (k' = k ∧ i' = i)) : ad1 ad k i a k' i' = ad k' i' := if_neg h
theorem root_up {ad ad' : Nat → Nat → Nat} {m k a : Nat} (h1 : ∀ x, x < m → ad' k x = ad k x) (h2 : ad' k m = a) : va_up (fun x => if x < m then some (ad k x) else none) m (some a) = fun x => if x < m + 1 then some (ad' k x) else none := by
  funext x
  by_cases e : x = m
  · rw [e, va_up_self, if_pos (by omega), h2]
  · rw [va_up_ne _ _ e]
    by_cases e2 : x < m
    · rw [if_pos e2, if_pos (by omega), h1 x e2]
    · rw [if_neg e2, if_neg (by omega)]
theorem cl_way {D : va_G} {cI : ClassId} {cy : Nat → ClassId} {h0 : Nat} {q : Nat → Nat} {A : Nat → Prop} {ad : Nat → Nat → Nat} {rl : Nat → Nat × Nat} {L : List Nat} {n : Nat → Nat} {G : Nat → Nat → Int32} {H : Heap} {a : Nat} {f : Nat → va_E} {G' : Nat → Nat → Int32} {v0 v1 v2 v3 v4 v5 : Int32} (hN : nb_ n) (hP : va_P D vwCl (xo_ h0 q (va_up n 2 (n 2 + 1)) (G 44 0) ++ va_pl L (va_up f (ad 22 0) (.inl (cy 9, 12, .inr (.inr (.inr (.inr (va_up (fun x => if x < n 2 then some (ad 2 x) else none) (n 2) (some a))))))))) H) (hD : va_D A (xo_ h0 q (va_up n 2 (n 2 + 1)) (G 44 0) ++ va_pl L (va_up f (ad 22 0) (.inl (cy 9, 12, .inr (.inr (.inr (.inr (va_up (fun x => if x < n 2 then some (ad 2 x) else none) (n 2) (some a)))))))))) (hL : ly_ cI cy q ad rl L n G f) (hp : ∀ x ∈ [(a, .inr (5, [.int v0, .int v1, .int v2, .int v3, .int v4, .int v5]))], x.1 ∈ L ∧ f x.1 = x.2 ∧ ∀ k i, lf_ n G i k → ¬ ad k i = x.1) (hG : ∀ s x, (¬ ow_ x s = (2, n 2)) → G' s x = G s x) (e0 : G' 6 (n 2) = v0) (e1 : G' 7 (n 2) = v1) (e2 : G' 8 (n 2) = v2) (e3 : G' 9 (n 2) = v3) (e4 : G' 10 (n 2) = v4) (e5 : G' 11 (n 2) = v5) : cp_ D cI cy h0 q A (ad1 ad 2 (n 2) a) (va_up rl a (2, n 2)) L (va_up n 2 (n 2 + 1)) G' H := by
  have e44 : G' 44 0 = G 44 0 := hG 44 0 (by exact fun z => absurd (congrArg Prod.fst z) (show ¬ (0 : Nat) = 2 by decide))
  obtain ⟨m_a, f_a, d_a⟩ := hp (a, .inr (5, [.int v0, .int v1, .int v2, .int v3, .int v4, .int v5])) (List.mem_cons_self)
  have hnl : ∀ k i, lf_ n G i k → ∀ k0, (k0 = 2) → ¬ (k = k0 ∧ i = n 2) := fun k i hl k0 hk0 z => by
    obtain ⟨z1, z2⟩ := z
    subst z1
    subst z2
    rcases hk0 with rfl
    · exact absurd (show n 2 < n 2 from hl) (Nat.lt_irrefl _)
  have had : ∀ k i, lf_ n G i k → (ad1 ad 2 (n 2) a) k i = ad k i := fun k i hl => by
    rw [ad1_ne _ _ (hnl k i hl 2 (rfl))]
  have hrl : ∀ k i, lf_ n G i k → (va_up rl a (2, n 2)) (ad k i) = (k, i) := fun k i hl => by
    rw [va_up_ne _ _ (d_a k i hl)]
    exact (hL.1 k i hl).2.1
  have n_a : (ad1 ad 2 (n 2) a) 2 (n 2) = a := by
    rw [ad1_eq]
  have r_a : (va_up rl a (2, n 2)) a = (2, n 2) := by
    rw [va_up_self]
  have hq2 := hL.2.1 2 (by decide) (by decide)
  have g_a : va_up f (ad 22 0) (.inl (cy 9, 12, .inr (.inr (.inr (.inr (va_up (fun x => if x < n 2 then some (ad 2 x) else none) (n 2) (some a))))))) a = .inr (5, [.int v0, .int v1, .int v2, .int v3, .int v4, .int v5]) := by
    rw [va_up_ne _ _ (fun z => d_a 22 0 rfl z.symm)]
    exact f_a
  have hGl : ∀ k i, lf_ n G i k → ∀ s x, ow_ x s = (k, i) → G' s x = G s x := fun k i hl s x ho => hG s x (by
    rw [ho]
    exact fun z => hnl k i hl 2 rfl ⟨congrArg Prod.fst z, congrArg Prod.snd z⟩)
  have h26 : ∀ x, x < n 4 → G' 26 x = G 26 x := fun x hx => hGl 4 x hx 26 x rfl
  refine ⟨_, by rw [e44]; exact hP, by rw [e44]; exact hD, ly_grow 2 hN.2.2.2.2 hL had hrl hGl (fun k i hl hk => ?_) (fun c hc => va_up_ne _ _ hc) ?_ (fun i hi => hi) (fun k i hl hn => ?_) lf_q ?_⟩
  · rw [va_up_ne _ _ (fun z => hk ?_)]
    have e1 := (hL.1 k i hl).2.1
    rw [z, (hL.1 22 0 rfl).2.1] at e1
    exact (congrArg Prod.fst e1).symm
  · show va_up f (ad 22 0) _ (ad 22 0) = .inl (cy 9, 12, .inr (.inr (.inr (.inr (fun x => if x < va_up n 2 (n 2 + 1) 2 then some ((ad1 ad 2 (n 2) a) 2 x) else none)))))
    rw [va_up_self, root_up (ad' := (ad1 ad 2 (n 2) a)) (fun x hx => had 2 x hx) n_a]
    rfl
  · obtain ⟨rfl, hk⟩ := lf_new2 h26 hl hn
    subst hk
    · rw [n_a]
      refine ⟨m_a, r_a, ?_⟩
      rw [g_a]
      show _ = _
      rw [e0, e1, e2, e3, e4, e5]
  · exact fun i w hi hw => by
      rw [show G' 32 (8 * i + w) = G 32 (8 * i + w) from hGl 8 i hi 32 _ (show (8, (8 * i + w) / 8) = (8, i) by rw [show (8 * i + w) / 8 = i by omega])]
      rcases hL.2.2 i w hi hw with h1 | ⟨x, hx, e1, k0, k1⟩
      · exact Or.inl h1
      · exact Or.inr ⟨x, hx, e1, by rw [h26 x hx]; exact k0, by rw [h26 x hx]; exact k1⟩

theorem cl_canoe {D : va_G} {cI : ClassId} {cy : Nat → ClassId} {h0 : Nat} {q : Nat → Nat} {A : Nat → Prop} {ad : Nat → Nat → Nat} {rl : Nat → Nat × Nat} {L : List Nat} {n : Nat → Nat} {G : Nat → Nat → Int32} {H : Heap} {z w a : Nat} {f : Nat → va_E} {G' : Nat → Nat → Int32} {v0 v1 v2 v3 v6 v7 v8 v9 v10 : Int32} {g : Nat → Int32} (hN : nb_ n) (hP : va_P D vwCl (xo_ h0 q (va_up n 3 (n 3 + 1)) (G 44 0) ++ va_pl L (va_up f (ad 23 0) (.inl (cy 10, 120, .inr (.inr (.inr (.inr (va_up (fun x => if x < n 3 then some (ad 3 x) else none) (n 3) (some a))))))))) H) (hD : va_D A (xo_ h0 q (va_up n 3 (n 3 + 1)) (G 44 0) ++ va_pl L (va_up f (ad 23 0) (.inl (cy 10, 120, .inr (.inr (.inr (.inr (va_up (fun x => if x < n 3 then some (ad 3 x) else none) (n 3) (some a)))))))))) (hL : ly_ cI cy q ad rl L n G f) (hp : ∀ x ∈ [(z, .inl (cI, 6, .inl g)), (w, .inl (cI, 6, .inl g)), (a, .inr (0, [.int v0, .int v1, .int v2, .int v3, .ref z, .ref w, .int v6, .int v7, .int v8, .int v9, .int v10]))], x.1 ∈ L ∧ f x.1 = x.2 ∧ ∀ k i, lf_ n G i k → ¬ ad k i = x.1) (h_z_w : ¬ z = w) (h_z_a : ¬ z = a) (h_w_a : ¬ w = a) (hG : ∀ s x, (¬ ow_ x s = (9, n 3) ∧ ¬ ow_ x s = (10, n 3) ∧ ¬ ow_ x s = (3, n 3)) → G' s x = G s x) (e0 : G' 14 (n 3) = v0) (e1 : G' 15 (n 3) = v1) (e2 : G' 16 (n 3) = v2) (e3 : G' 19 (n 3) = v3) (e6 : G' 21 (n 3) = v6) (e7 : G' 17 (n 3) = v7) (e8 : G' 20 (n 3) = v8) (e9 : G' 18 (n 3) = v9) (e10 : G' 24 (n 3) = v10) (es : ∀ x, x < 6 → g x = G' 23 (6 * n 3 + x)) (eh : ∀ x, x < 6 → g x = G' 22 (6 * n 3 + x)) : cp_ D cI cy h0 q A (ad1 (ad1 (ad1 ad 9 (n 3) z) 10 (n 3) w) 3 (n 3) a) (va_up (va_up (va_up rl z (9, n 3)) w (10, n 3)) a (3, n 3)) L (va_up n 3 (n 3 + 1)) G' H := by
  have e44 : G' 44 0 = G 44 0 := hG 44 0 (by refine ⟨fun z => absurd (congrArg Prod.fst z) (show ¬ (0 : Nat) = 9 by decide), fun z => absurd (congrArg Prod.fst z) (show ¬ (0 : Nat) = 10 by decide), fun z => absurd (congrArg Prod.fst z) (show ¬ (0 : Nat) = 3 by decide)⟩)
  obtain ⟨m_z, f_z, d_z⟩ := hp (z, .inl (cI, 6, .inl g)) (List.mem_cons_self)
  obtain ⟨m_w, f_w, d_w⟩ := hp (w, .inl (cI, 6, .inl g)) (List.mem_cons_of_mem _ (List.mem_cons_self))
  obtain ⟨m_a, f_a, d_a⟩ := hp (a, .inr (0, [.int v0, .int v1, .int v2, .int v3, .ref z, .ref w, .int v6, .int v7, .int v8, .int v9, .int v10])) (List.mem_cons_of_mem _ (List.mem_cons_of_mem _ (List.mem_cons_self)))
  have hnl : ∀ k i, lf_ n G i k → ∀ k0, (k0 = 9 ∨ k0 = 10 ∨ k0 = 3) → ¬ (k = k0 ∧ i = n 3) := fun k i hl k0 hk0 z => by
    obtain ⟨z1, z2⟩ := z
    subst z1
    subst z2
    rcases hk0 with rfl | rfl | rfl
    · exact absurd (show n 3 < n 3 from hl) (Nat.lt_irrefl _)
    · exact absurd (show n 3 < n 3 from hl) (Nat.lt_irrefl _)
    · exact absurd (show n 3 < n 3 from hl) (Nat.lt_irrefl _)
  have had : ∀ k i, lf_ n G i k → (ad1 (ad1 (ad1 ad 9 (n 3) z) 10 (n 3) w) 3 (n 3) a) k i = ad k i := fun k i hl => by
    rw [ad1_ne _ _ (hnl k i hl 3 (Or.inr (Or.inr (rfl)))), ad1_ne _ _ (hnl k i hl 10 (Or.inr (Or.inl rfl))), ad1_ne _ _ (hnl k i hl 9 (Or.inl rfl))]
  have hrl : ∀ k i, lf_ n G i k → (va_up (va_up (va_up rl z (9, n 3)) w (10, n 3)) a (3, n 3)) (ad k i) = (k, i) := fun k i hl => by
    rw [va_up_ne _ _ (d_a k i hl), va_up_ne _ _ (d_w k i hl), va_up_ne _ _ (d_z k i hl)]
    exact (hL.1 k i hl).2.1
  have n_z : (ad1 (ad1 (ad1 ad 9 (n 3) z) 10 (n 3) w) 3 (n 3) a) 9 (n 3) = z := by
    rw [ad1_ne _ _ (fun z => absurd z.1 (by decide)), ad1_ne _ _ (fun z => absurd z.1 (by decide)), ad1_eq]
  have r_z : (va_up (va_up (va_up rl z (9, n 3)) w (10, n 3)) a (3, n 3)) z = (9, n 3) := by
    rw [va_up_ne _ _ h_z_a, va_up_ne _ _ h_z_w, va_up_self]
  have n_w : (ad1 (ad1 (ad1 ad 9 (n 3) z) 10 (n 3) w) 3 (n 3) a) 10 (n 3) = w := by
    rw [ad1_ne _ _ (fun z => absurd z.1 (by decide)), ad1_eq]
  have r_w : (va_up (va_up (va_up rl z (9, n 3)) w (10, n 3)) a (3, n 3)) w = (10, n 3) := by
    rw [va_up_ne _ _ h_w_a, va_up_self]
  have n_a : (ad1 (ad1 (ad1 ad 9 (n 3) z) 10 (n 3) w) 3 (n 3) a) 3 (n 3) = a := by
    rw [ad1_eq]
  have r_a : (va_up (va_up (va_up rl z (9, n 3)) w (10, n 3)) a (3, n 3)) a = (3, n 3) := by
    rw [va_up_self]
  have hq3 := hL.2.1 3 (by decide) (by decide)
  have g_z : va_up f (ad 23 0) (.inl (cy 10, 120, .inr (.inr (.inr (.inr (va_up (fun x => if x < n 3 then some (ad 3 x) else none) (n 3) (some a))))))) z = .inl (cI, 6, .inl g) := by
    rw [va_up_ne _ _ (fun z => d_z 23 0 rfl z.symm)]
    exact f_z
  have g_w : va_up f (ad 23 0) (.inl (cy 10, 120, .inr (.inr (.inr (.inr (va_up (fun x => if x < n 3 then some (ad 3 x) else none) (n 3) (some a))))))) w = .inl (cI, 6, .inl g) := by
    rw [va_up_ne _ _ (fun z => d_w 23 0 rfl z.symm)]
    exact f_w
  have g_a : va_up f (ad 23 0) (.inl (cy 10, 120, .inr (.inr (.inr (.inr (va_up (fun x => if x < n 3 then some (ad 3 x) else none) (n 3) (some a))))))) a = .inr (0, [.int v0, .int v1, .int v2, .int v3, .ref z, .ref w, .int v6, .int v7, .int v8, .int v9, .int v10]) := by
    rw [va_up_ne _ _ (fun z => d_a 23 0 rfl z.symm)]
    exact f_a
  have hGl : ∀ k i, lf_ n G i k → ∀ s x, ow_ x s = (k, i) → G' s x = G s x := fun k i hl s x ho => hG s x (by
    rw [ho]
    exact ⟨fun z => hnl k i hl 9 (Or.inl rfl) ⟨congrArg Prod.fst z, congrArg Prod.snd z⟩, fun z => hnl k i hl 10 (Or.inr (Or.inl rfl)) ⟨congrArg Prod.fst z, congrArg Prod.snd z⟩, fun z => hnl k i hl 3 (Or.inr (Or.inr (rfl))) ⟨congrArg Prod.fst z, congrArg Prod.snd z⟩⟩)
  have h26 : ∀ x, x < n 4 → G' 26 x = G 26 x := fun x hx => hGl 4 x hx 26 x rfl
  refine ⟨_, by rw [e44]; exact hP, by rw [e44]; exact hD, ly_grow 3 hN.2.2.2.2 hL had hrl hGl (fun k i hl hk => ?_) (fun c hc => va_up_ne _ _ hc) ?_ (fun i hi => hi) (fun k i hl hn => ?_) lf_q ?_⟩
  · rw [va_up_ne _ _ (fun z => hk ?_)]
    have e1 := (hL.1 k i hl).2.1
    rw [z, (hL.1 23 0 rfl).2.1] at e1
    exact (congrArg Prod.fst e1).symm
  · show va_up f (ad 23 0) _ (ad 23 0) = .inl (cy 10, 120, .inr (.inr (.inr (.inr (fun x => if x < va_up n 3 (n 3 + 1) 3 then some ((ad1 (ad1 (ad1 ad 9 (n 3) z) 10 (n 3) w) 3 (n 3) a) 3 x) else none)))))
    rw [va_up_self, root_up (ad' := (ad1 (ad1 (ad1 ad 9 (n 3) z) 10 (n 3) w) 3 (n 3) a)) (fun x hx => had 3 x hx) n_a]
    rfl
  · obtain ⟨rfl, hk⟩ := lf_new3 h26 hl hn
    rcases hk with rfl | rfl | rfl
    · rw [n_a]
      refine ⟨m_a, r_a, ?_⟩
      rw [g_a]
      show (_ : va_E) = .inr (0, [.int (G' 14 (n 3)), .int (G' 15 (n 3)), .int (G' 16 (n 3)), .int (G' 19 (n 3)), .ref (_), .ref (_), .int (G' 21 (n 3)), .int (G' 17 (n 3)), .int (G' 20 (n 3)), .int (G' 18 (n 3)), .int (G' 24 (n 3))])
      rw [e0, e1, e2, e3, e6, e7, e8, e9, e10, n_z, n_w]
    · rw [n_z]
      refine ⟨m_z, r_z, ?_⟩
      rw [g_z]
      exact ⟨g, rfl, fun x hx => es x hx⟩
    · rw [n_w]
      refine ⟨m_w, r_w, ?_⟩
      rw [g_w]
      exact ⟨g, rfl, fun x hx => eh x hx⟩
  · exact fun i w hi hw => by
      rw [show G' 32 (8 * i + w) = G 32 (8 * i + w) from hGl 8 i hi 32 _ (show (8, (8 * i + w) / 8) = (8, i) by rw [show (8 * i + w) / 8 = i by omega])]
      rcases hL.2.2 i w hi hw with h1 | ⟨x, hx, e1, k0, k1⟩
      · exact Or.inl h1
      · exact Or.inr ⟨x, hx, e1, by rw [h26 x hx]; exact k0, by rw [h26 x hx]; exact k1⟩

theorem cl_order {D : va_G} {cI : ClassId} {cy : Nat → ClassId} {h0 : Nat} {q : Nat → Nat} {A : Nat → Prop} {ad : Nat → Nat → Nat} {rl : Nat → Nat × Nat} {L : List Nat} {n : Nat → Nat} {G : Nat → Nat → Int32} {H : Heap} {a : Nat} {f : Nat → va_E} {G' : Nat → Nat → Int32} {v0 v1 v2 v3 v4 v5 : Int32} (hN : nb_ n) (hP : va_P D vwCl (xo_ h0 q (va_up n 4 (n 4 + 1)) (G 44 0) ++ va_pl L (va_up f (ad 24 0) (.inl (cy 11, 300, .inr (.inr (.inr (.inr (va_up (fun x => if x < n 4 then some (ad 4 x) else none) (n 4) (some a))))))))) H) (hD : va_D A (xo_ h0 q (va_up n 4 (n 4 + 1)) (G 44 0) ++ va_pl L (va_up f (ad 24 0) (.inl (cy 11, 300, .inr (.inr (.inr (.inr (va_up (fun x => if x < n 4 then some (ad 4 x) else none) (n 4) (some a)))))))))) (hL : ly_ cI cy q ad rl L n G f) (hp : ∀ x ∈ [(a, .inr (2, [.int v0, .int v1, .int v2, .int v3, .int v4, .int v5]))], x.1 ∈ L ∧ f x.1 = x.2 ∧ ∀ k i, lf_ n G i k → ¬ ad k i = x.1) (hG : ∀ s x, (¬ ow_ x s = (4, n 4) ∧ ¬ ow_ x s = (11, n 4)) → G' s x = G s x) (ek : G' 26 (n 4) = 0) (e0 : G' 40 (n 4) = v0) (e1 : G' 27 (n 4) = v1) (e2 : G' 41 (n 4) = v2) (e3 : G' 42 (n 4) = v3) (e4 : G' 29 (n 4) = v4) (e5 : G' 30 (n 4) = v5) : cp_ D cI cy h0 q A (ad1 ad 4 (n 4) a) (va_up rl a (4, n 4)) L (va_up n 4 (n 4 + 1)) G' H := by
  have e44 : G' 44 0 = G 44 0 := hG 44 0 (by refine ⟨fun z => absurd (congrArg Prod.fst z) (show ¬ (0 : Nat) = 4 by decide), fun z => absurd (congrArg Prod.fst z) (show ¬ (0 : Nat) = 11 by decide)⟩)
  obtain ⟨m_a, f_a, d_a⟩ := hp (a, .inr (2, [.int v0, .int v1, .int v2, .int v3, .int v4, .int v5])) (List.mem_cons_self)
  have hnl : ∀ k i, lf_ n G i k → ∀ k0, (k0 = 4 ∨ k0 = 11) → ¬ (k = k0 ∧ i = n 4) := fun k i hl k0 hk0 z => by
    obtain ⟨z1, z2⟩ := z
    subst z1
    subst z2
    rcases hk0 with rfl | rfl
    · exact absurd (show n 4 < n 4 from hl) (Nat.lt_irrefl _)
    · exact absurd (show n 4 < n 4 from hl.1) (Nat.lt_irrefl _)
  have had : ∀ k i, lf_ n G i k → (ad1 ad 4 (n 4) a) k i = ad k i := fun k i hl => by
    rw [ad1_ne _ _ (hnl k i hl 4 (Or.inl rfl))]
  have hrl : ∀ k i, lf_ n G i k → (va_up rl a (4, n 4)) (ad k i) = (k, i) := fun k i hl => by
    rw [va_up_ne _ _ (d_a k i hl)]
    exact (hL.1 k i hl).2.1
  have n_a : (ad1 ad 4 (n 4) a) 4 (n 4) = a := by
    rw [ad1_eq]
  have r_a : (va_up rl a (4, n 4)) a = (4, n 4) := by
    rw [va_up_self]
  have hq4 := hL.2.1 4 (by decide) (by decide)
  have g_a : va_up f (ad 24 0) (.inl (cy 11, 300, .inr (.inr (.inr (.inr (va_up (fun x => if x < n 4 then some (ad 4 x) else none) (n 4) (some a))))))) a = .inr (2, [.int v0, .int v1, .int v2, .int v3, .int v4, .int v5]) := by
    rw [va_up_ne _ _ (fun z => d_a 24 0 rfl z.symm)]
    exact f_a
  have hGl : ∀ k i, lf_ n G i k → ∀ s x, ow_ x s = (k, i) → G' s x = G s x := fun k i hl s x ho => hG s x (by
    rw [ho]
    exact ⟨fun z => hnl k i hl 4 (Or.inl rfl) ⟨congrArg Prod.fst z, congrArg Prod.snd z⟩, fun z => hnl k i hl 11 (Or.inr (rfl)) ⟨congrArg Prod.fst z, congrArg Prod.snd z⟩⟩)
  have h26 : ∀ x, x < n 4 → G' 26 x = G 26 x := fun x hx => hGl 4 x hx 26 x rfl
  refine ⟨_, by rw [e44]; exact hP, by rw [e44]; exact hD, ly_grow 4 hN.2.2.2.2 hL had hrl hGl (fun k i hl hk => ?_) (fun c hc => va_up_ne _ _ hc) ?_ (fun i hi => hi) (fun k i hl hn => ?_) lf_q ?_⟩
  · rw [va_up_ne _ _ (fun z => hk ?_)]
    have e1 := (hL.1 k i hl).2.1
    rw [z, (hL.1 24 0 rfl).2.1] at e1
    exact (congrArg Prod.fst e1).symm
  · show va_up f (ad 24 0) _ (ad 24 0) = .inl (cy 11, 300, .inr (.inr (.inr (.inr (fun x => if x < va_up n 4 (n 4 + 1) 4 then some ((ad1 ad 4 (n 4) a) 4 x) else none)))))
    rw [va_up_self, root_up (ad' := (ad1 ad 4 (n 4) a)) (fun x hx => had 4 x hx) n_a]
    rfl
  · obtain ⟨rfl, hk⟩ := lf_new4 h26 hl hn
    rcases hk with rfl | rfl
    · rw [n_a]
      refine ⟨m_a, r_a, ?_⟩
      rw [g_a]
      show _ = lq_ _ G' (n 4)
      rw [lq_0 ek, e0, e1, e2, e3, e4, e5]
    · exact absurd ek (show ¬ G' 26 (n 4) = 0 from hl.2.1)
  · exact fun i w hi hw => by
      rw [show G' 32 (8 * i + w) = G 32 (8 * i + w) from hGl 8 i hi 32 _ (show (8, (8 * i + w) / 8) = (8, i) by rw [show (8 * i + w) / 8 = i by omega])]
      rcases hL.2.2 i w hi hw with h1 | ⟨x, hx, e1, k0, k1⟩
      · exact Or.inl h1
      · exact Or.inr ⟨x, (show x < n 4 + 1 by omega), e1, by rw [h26 x hx]; exact k0, by rw [h26 x hx]; exact k1⟩

theorem cl_debt {D : va_G} {cI : ClassId} {cy : Nat → ClassId} {h0 : Nat} {q : Nat → Nat} {A : Nat → Prop} {ad : Nat → Nat → Nat} {rl : Nat → Nat × Nat} {L : List Nat} {n : Nat → Nat} {G : Nat → Nat → Int32} {H : Heap} {a : Nat} {f : Nat → va_E} {G' : Nat → Nat → Int32} {v0 v1 v2 v3 v4 v5 : Int32} (hN : nb_ n) (hP : va_P D vwCl (xo_ h0 q (va_up n 4 (n 4 + 1)) (G 44 0) ++ va_pl L (va_up f (ad 24 0) (.inl (cy 11, 300, .inr (.inr (.inr (.inr (va_up (fun x => if x < n 4 then some (ad 4 x) else none) (n 4) (some a))))))))) H) (hD : va_D A (xo_ h0 q (va_up n 4 (n 4 + 1)) (G 44 0) ++ va_pl L (va_up f (ad 24 0) (.inl (cy 11, 300, .inr (.inr (.inr (.inr (va_up (fun x => if x < n 4 then some (ad 4 x) else none) (n 4) (some a)))))))))) (hL : ly_ cI cy q ad rl L n G f) (hp : ∀ x ∈ [(a, .inr (1, [.int v0, .int v1, .int v2, .int v3, .int v4, .int v5]))], x.1 ∈ L ∧ f x.1 = x.2 ∧ ∀ k i, lf_ n G i k → ¬ ad k i = x.1) (hG : ∀ s x, (¬ ow_ x s = (4, n 4) ∧ ¬ ow_ x s = (11, n 4)) → G' s x = G s x) (ek : G' 26 (n 4) = 1) (e0 : G' 40 (n 4) = v0) (e1 : G' 27 (n 4) = v1) (e2 : G' 41 (n 4) = v2) (e3 : G' 42 (n 4) = v3) (e4 : G' 29 (n 4) = v4) (e5 : G' 30 (n 4) = v5) : cp_ D cI cy h0 q A (ad1 ad 4 (n 4) a) (va_up rl a (4, n 4)) L (va_up n 4 (n 4 + 1)) G' H := by
  have e44 : G' 44 0 = G 44 0 := hG 44 0 (by refine ⟨fun z => absurd (congrArg Prod.fst z) (show ¬ (0 : Nat) = 4 by decide), fun z => absurd (congrArg Prod.fst z) (show ¬ (0 : Nat) = 11 by decide)⟩)
  obtain ⟨m_a, f_a, d_a⟩ := hp (a, .inr (1, [.int v0, .int v1, .int v2, .int v3, .int v4, .int v5])) (List.mem_cons_self)
  have hnl : ∀ k i, lf_ n G i k → ∀ k0, (k0 = 4 ∨ k0 = 11) → ¬ (k = k0 ∧ i = n 4) := fun k i hl k0 hk0 z => by
    obtain ⟨z1, z2⟩ := z
    subst z1
    subst z2
    rcases hk0 with rfl | rfl
    · exact absurd (show n 4 < n 4 from hl) (Nat.lt_irrefl _)
    · exact absurd (show n 4 < n 4 from hl.1) (Nat.lt_irrefl _)
  have had : ∀ k i, lf_ n G i k → (ad1 ad 4 (n 4) a) k i = ad k i := fun k i hl => by
    rw [ad1_ne _ _ (hnl k i hl 4 (Or.inl rfl))]
  have hrl : ∀ k i, lf_ n G i k → (va_up rl a (4, n 4)) (ad k i) = (k, i) := fun k i hl => by
    rw [va_up_ne _ _ (d_a k i hl)]
    exact (hL.1 k i hl).2.1
  have n_a : (ad1 ad 4 (n 4) a) 4 (n 4) = a := by
    rw [ad1_eq]
  have r_a : (va_up rl a (4, n 4)) a = (4, n 4) := by
    rw [va_up_self]
  have hq4 := hL.2.1 4 (by decide) (by decide)
  have g_a : va_up f (ad 24 0) (.inl (cy 11, 300, .inr (.inr (.inr (.inr (va_up (fun x => if x < n 4 then some (ad 4 x) else none) (n 4) (some a))))))) a = .inr (1, [.int v0, .int v1, .int v2, .int v3, .int v4, .int v5]) := by
    rw [va_up_ne _ _ (fun z => d_a 24 0 rfl z.symm)]
    exact f_a
  have hGl : ∀ k i, lf_ n G i k → ∀ s x, ow_ x s = (k, i) → G' s x = G s x := fun k i hl s x ho => hG s x (by
    rw [ho]
    exact ⟨fun z => hnl k i hl 4 (Or.inl rfl) ⟨congrArg Prod.fst z, congrArg Prod.snd z⟩, fun z => hnl k i hl 11 (Or.inr (rfl)) ⟨congrArg Prod.fst z, congrArg Prod.snd z⟩⟩)
  have h26 : ∀ x, x < n 4 → G' 26 x = G 26 x := fun x hx => hGl 4 x hx 26 x rfl
  refine ⟨_, by rw [e44]; exact hP, by rw [e44]; exact hD, ly_grow 4 hN.2.2.2.2 hL had hrl hGl (fun k i hl hk => ?_) (fun c hc => va_up_ne _ _ hc) ?_ (fun i hi => hi) (fun k i hl hn => ?_) lf_q ?_⟩
  · rw [va_up_ne _ _ (fun z => hk ?_)]
    have e1 := (hL.1 k i hl).2.1
    rw [z, (hL.1 24 0 rfl).2.1] at e1
    exact (congrArg Prod.fst e1).symm
  · show va_up f (ad 24 0) _ (ad 24 0) = .inl (cy 11, 300, .inr (.inr (.inr (.inr (fun x => if x < va_up n 4 (n 4 + 1) 4 then some ((ad1 ad 4 (n 4) a) 4 x) else none)))))
    rw [va_up_self, root_up (ad' := (ad1 ad 4 (n 4) a)) (fun x hx => had 4 x hx) n_a]
    rfl
  · obtain ⟨rfl, hk⟩ := lf_new4 h26 hl hn
    rcases hk with rfl | rfl
    · rw [n_a]
      refine ⟨m_a, r_a, ?_⟩
      rw [g_a]
      show _ = lq_ _ G' (n 4)
      rw [lq_1 ek, e0, e1, e2, e3, e4, e5]
    · exact absurd ek (show ¬ G' 26 (n 4) = 1 from hl.2.2)
  · exact fun i w hi hw => by
      rw [show G' 32 (8 * i + w) = G 32 (8 * i + w) from hGl 8 i hi 32 _ (show (8, (8 * i + w) / 8) = (8, i) by rw [show (8 * i + w) / 8 = i by omega])]
      rcases hL.2.2 i w hi hw with h1 | ⟨x, hx, e1, k0, k1⟩
      · exact Or.inl h1
      · exact Or.inr ⟨x, (show x < n 4 + 1 by omega), e1, by rw [h26 x hx]; exact k0, by rw [h26 x hx]; exact k1⟩

theorem cl_report {D : va_G} {cI : ClassId} {cy : Nat → ClassId} {h0 : Nat} {q : Nat → Nat} {A : Nat → Prop} {ad : Nat → Nat → Nat} {rl : Nat → Nat × Nat} {L : List Nat} {n : Nat → Nat} {G : Nat → Nat → Int32} {H : Heap} {z a : Nat} {f : Nat → va_E} {G' : Nat → Nat → Int32} {v0 v1 v2 v3 v4 : Int32} {g : Nat → Int32} (hN : nb_ n) (hP : va_P D vwCl (xo_ h0 q (va_up n 4 (n 4 + 1)) (G 44 0) ++ va_pl L (va_up f (ad 24 0) (.inl (cy 11, 300, .inr (.inr (.inr (.inr (va_up (fun x => if x < n 4 then some (ad 4 x) else none) (n 4) (some a))))))))) H) (hD : va_D A (xo_ h0 q (va_up n 4 (n 4 + 1)) (G 44 0) ++ va_pl L (va_up f (ad 24 0) (.inl (cy 11, 300, .inr (.inr (.inr (.inr (va_up (fun x => if x < n 4 then some (ad 4 x) else none) (n 4) (some a)))))))))) (hL : ly_ cI cy q ad rl L n G f) (hp : ∀ x ∈ [(z, .inl (cI, 6, .inl g)), (a, .inr (4, [.int v0, .int v1, .int v2, .int v3, .int v4, .ref z]))], x.1 ∈ L ∧ f x.1 = x.2 ∧ ∀ k i, lf_ n G i k → ¬ ad k i = x.1) (h_z_a : ¬ z = a) (hG : ∀ s x, (¬ ow_ x s = (11, n 4) ∧ ¬ ow_ x s = (4, n 4)) → G' s x = G s x) (ek : ¬ G' 26 (n 4) = 0) (ek1 : ¬ G' 26 (n 4) = 1) (e0 : G' 40 (n 4) = v0) (e1 : G' 27 (n 4) = v1) (e2 : G' 41 (n 4) = v2) (e3 : G' 42 (n 4) = v3) (e4 : G' 30 (n 4) = v4) (es : ∀ x, x < 6 → g x = G' 31 (6 * n 4 + x)) : cp_ D cI cy h0 q A (ad1 (ad1 ad 11 (n 4) z) 4 (n 4) a) (va_up (va_up rl z (11, n 4)) a (4, n 4)) L (va_up n 4 (n 4 + 1)) G' H := by
  have e44 : G' 44 0 = G 44 0 := hG 44 0 (by refine ⟨fun z => absurd (congrArg Prod.fst z) (show ¬ (0 : Nat) = 11 by decide), fun z => absurd (congrArg Prod.fst z) (show ¬ (0 : Nat) = 4 by decide)⟩)
  obtain ⟨m_z, f_z, d_z⟩ := hp (z, .inl (cI, 6, .inl g)) (List.mem_cons_self)
  obtain ⟨m_a, f_a, d_a⟩ := hp (a, .inr (4, [.int v0, .int v1, .int v2, .int v3, .int v4, .ref z])) (List.mem_cons_of_mem _ (List.mem_cons_self))
  have hnl : ∀ k i, lf_ n G i k → ∀ k0, (k0 = 11 ∨ k0 = 4) → ¬ (k = k0 ∧ i = n 4) := fun k i hl k0 hk0 z => by
    obtain ⟨z1, z2⟩ := z
    subst z1
    subst z2
    rcases hk0 with rfl | rfl
    · exact absurd (show n 4 < n 4 from hl.1) (Nat.lt_irrefl _)
    · exact absurd (show n 4 < n 4 from hl) (Nat.lt_irrefl _)
  have had : ∀ k i, lf_ n G i k → (ad1 (ad1 ad 11 (n 4) z) 4 (n 4) a) k i = ad k i := fun k i hl => by
    rw [ad1_ne _ _ (hnl k i hl 4 (Or.inr (rfl))), ad1_ne _ _ (hnl k i hl 11 (Or.inl rfl))]
  have hrl : ∀ k i, lf_ n G i k → (va_up (va_up rl z (11, n 4)) a (4, n 4)) (ad k i) = (k, i) := fun k i hl => by
    rw [va_up_ne _ _ (d_a k i hl), va_up_ne _ _ (d_z k i hl)]
    exact (hL.1 k i hl).2.1
  have n_z : (ad1 (ad1 ad 11 (n 4) z) 4 (n 4) a) 11 (n 4) = z := by
    rw [ad1_ne _ _ (fun z => absurd z.1 (by decide)), ad1_eq]
  have r_z : (va_up (va_up rl z (11, n 4)) a (4, n 4)) z = (11, n 4) := by
    rw [va_up_ne _ _ h_z_a, va_up_self]
  have n_a : (ad1 (ad1 ad 11 (n 4) z) 4 (n 4) a) 4 (n 4) = a := by
    rw [ad1_eq]
  have r_a : (va_up (va_up rl z (11, n 4)) a (4, n 4)) a = (4, n 4) := by
    rw [va_up_self]
  have hq4 := hL.2.1 4 (by decide) (by decide)
  have g_z : va_up f (ad 24 0) (.inl (cy 11, 300, .inr (.inr (.inr (.inr (va_up (fun x => if x < n 4 then some (ad 4 x) else none) (n 4) (some a))))))) z = .inl (cI, 6, .inl g) := by
    rw [va_up_ne _ _ (fun z => d_z 24 0 rfl z.symm)]
    exact f_z
  have g_a : va_up f (ad 24 0) (.inl (cy 11, 300, .inr (.inr (.inr (.inr (va_up (fun x => if x < n 4 then some (ad 4 x) else none) (n 4) (some a))))))) a = .inr (4, [.int v0, .int v1, .int v2, .int v3, .int v4, .ref z]) := by
    rw [va_up_ne _ _ (fun z => d_a 24 0 rfl z.symm)]
    exact f_a
  have hGl : ∀ k i, lf_ n G i k → ∀ s x, ow_ x s = (k, i) → G' s x = G s x := fun k i hl s x ho => hG s x (by
    rw [ho]
    exact ⟨fun z => hnl k i hl 11 (Or.inl rfl) ⟨congrArg Prod.fst z, congrArg Prod.snd z⟩, fun z => hnl k i hl 4 (Or.inr (rfl)) ⟨congrArg Prod.fst z, congrArg Prod.snd z⟩⟩)
  have h26 : ∀ x, x < n 4 → G' 26 x = G 26 x := fun x hx => hGl 4 x hx 26 x rfl
  refine ⟨_, by rw [e44]; exact hP, by rw [e44]; exact hD, ly_grow 4 hN.2.2.2.2 hL had hrl hGl (fun k i hl hk => ?_) (fun c hc => va_up_ne _ _ hc) ?_ (fun i hi => hi) (fun k i hl hn => ?_) lf_q ?_⟩
  · rw [va_up_ne _ _ (fun z => hk ?_)]
    have e1 := (hL.1 k i hl).2.1
    rw [z, (hL.1 24 0 rfl).2.1] at e1
    exact (congrArg Prod.fst e1).symm
  · show va_up f (ad 24 0) _ (ad 24 0) = .inl (cy 11, 300, .inr (.inr (.inr (.inr (fun x => if x < va_up n 4 (n 4 + 1) 4 then some ((ad1 (ad1 ad 11 (n 4) z) 4 (n 4) a) 4 x) else none)))))
    rw [va_up_self, root_up (ad' := (ad1 (ad1 ad 11 (n 4) z) 4 (n 4) a)) (fun x hx => had 4 x hx) n_a]
    rfl
  · obtain ⟨rfl, hk⟩ := lf_new4 h26 hl hn
    rcases hk with rfl | rfl
    · rw [n_a]
      refine ⟨m_a, r_a, ?_⟩
      rw [g_a]
      show _ = lq_ _ G' (n 4)
      rw [lq_2 ek ek1, e0, e1, e2, e3, e4, n_z]
    · rw [n_z]
      refine ⟨m_z, r_z, ?_⟩
      rw [g_z]
      exact ⟨g, rfl, fun x hx => es x hx⟩
  · exact fun i w hi hw => by
      rw [show G' 32 (8 * i + w) = G 32 (8 * i + w) from hGl 8 i hi 32 _ (show (8, (8 * i + w) / 8) = (8, i) by rw [show (8 * i + w) / 8 = i by omega])]
      rcases hL.2.2 i w hi hw with h1 | ⟨x, hx, e1, k0, k1⟩
      · exact Or.inl h1
      · exact Or.inr ⟨x, (show x < n 4 + 1 by omega), e1, by rw [h26 x hx]; exact k0, by rw [h26 x hx]; exact k1⟩

theorem cl_post {D : va_G} {cI : ClassId} {cy : Nat → ClassId} {h0 : Nat} {q : Nat → Nat} {A : Nat → Prop} {ad : Nat → Nat → Nat} {rl : Nat → Nat × Nat} {L : List Nat} {n : Nat → Nat} {G : Nat → Nat → Int32} {H : Heap} {s1 o1 r1 p1 a : Nat} {f : Nat → va_E} {G' : Nat → Nat → Int32} {g : Nat → Int32} (hN : nb_ n) (hP : va_P D vwCl (xo_ h0 q (va_up n 1 (n 1 + 1)) (G 44 0) ++ va_pl L (va_up f (ad 21 0) (.inl (cy 8, 8, .inr (.inr (.inr (.inr (va_up (fun x => if x < n 1 then some (ad 1 x) else none) (n 1) (some a))))))))) H) (hD : va_D A (xo_ h0 q (va_up n 1 (n 1 + 1)) (G 44 0) ++ va_pl L (va_up f (ad 21 0) (.inl (cy 8, 8, .inr (.inr (.inr (.inr (va_up (fun x => if x < n 1 then some (ad 1 x) else none) (n 1) (some a)))))))))) (hL : ly_ cI cy q ad rl L n G f) (hp : ∀ x ∈ [(s1, .inl (cI, 6, .inl zz_)), (o1, .inl (cI, 12, .inl zz_)), (r1, .inl (cy 7, 8, .inr (.inr (.inr (.inr nn_))))), (p1, .inl (cI, 6, .inl g)), (a, .inr (3, [.ref s1, .ref p1, .ref o1, .ref r1]))], x.1 ∈ L ∧ f x.1 = x.2 ∧ ∀ k i, lf_ n G i k → ¬ ad k i = x.1) (h_s1_o1 : ¬ s1 = o1) (h_s1_r1 : ¬ s1 = r1) (h_s1_p1 : ¬ s1 = p1) (h_s1_a : ¬ s1 = a) (h_o1_r1 : ¬ o1 = r1) (h_o1_p1 : ¬ o1 = p1) (h_o1_a : ¬ o1 = a) (h_r1_p1 : ¬ r1 = p1) (h_r1_a : ¬ r1 = a) (h_p1_a : ¬ p1 = a) (hG : ∀ s x, (¬ ow_ x s = (5, n 1) ∧ ¬ ow_ x s = (7, n 1) ∧ ¬ ow_ x s = (8, n 1) ∧ ¬ ow_ x s = (6, n 1) ∧ ¬ ow_ x s = (1, n 1)) → G' s x = G s x) (e2 : ∀ x, x < 6 → G' 2 (6 * n 1 + x) = 0) (e3 : ∀ x, x < 6 → G' 3 (6 * n 1 + x) = 1) (e4 : ∀ x, x < 12 → G' 4 (12 * n 1 + x) = 0) (e32 : ∀ x, x < 8 → G' 32 (8 * n 1 + x) = -1) (eg : ∀ x, x < 6 → g x = 1) : cp_ D cI cy h0 q A (ad1 (ad1 (ad1 (ad1 (ad1 ad 5 (n 1) s1) 7 (n 1) o1) 8 (n 1) r1) 6 (n 1) p1) 1 (n 1) a) (va_up (va_up (va_up (va_up (va_up rl s1 (5, n 1)) o1 (7, n 1)) r1 (8, n 1)) p1 (6, n 1)) a (1, n 1)) L (va_up n 1 (n 1 + 1)) G' H := by
  have e44 : G' 44 0 = G 44 0 := hG 44 0 (by refine ⟨fun z => absurd (congrArg Prod.fst z) (show ¬ (0 : Nat) = 5 by decide), fun z => absurd (congrArg Prod.fst z) (show ¬ (0 : Nat) = 7 by decide), fun z => absurd (congrArg Prod.fst z) (show ¬ (0 : Nat) = 8 by decide), fun z => absurd (congrArg Prod.fst z) (show ¬ (0 : Nat) = 6 by decide), fun z => absurd (congrArg Prod.fst z) (show ¬ (0 : Nat) = 1 by decide)⟩)
  obtain ⟨m_s1, f_s1, d_s1⟩ := hp (s1, .inl (cI, 6, .inl zz_)) (List.mem_cons_self)
  obtain ⟨m_o1, f_o1, d_o1⟩ := hp (o1, .inl (cI, 12, .inl zz_)) (List.mem_cons_of_mem _ (List.mem_cons_self))
  obtain ⟨m_r1, f_r1, d_r1⟩ := hp (r1, .inl (cy 7, 8, .inr (.inr (.inr (.inr nn_))))) (List.mem_cons_of_mem _ (List.mem_cons_of_mem _ (List.mem_cons_self)))
  obtain ⟨m_p1, f_p1, d_p1⟩ := hp (p1, .inl (cI, 6, .inl g)) (List.mem_cons_of_mem _ (List.mem_cons_of_mem _ (List.mem_cons_of_mem _ (List.mem_cons_self))))
  obtain ⟨m_a, f_a, d_a⟩ := hp (a, .inr (3, [.ref s1, .ref p1, .ref o1, .ref r1])) (List.mem_cons_of_mem _ (List.mem_cons_of_mem _ (List.mem_cons_of_mem _ (List.mem_cons_of_mem _ (List.mem_cons_self)))))
  have hnl : ∀ k i, lf_ n G i k → ∀ k0, (k0 = 5 ∨ k0 = 7 ∨ k0 = 8 ∨ k0 = 6 ∨ k0 = 1) → ¬ (k = k0 ∧ i = n 1) := fun k i hl k0 hk0 z => by
    obtain ⟨z1, z2⟩ := z
    subst z1
    subst z2
    rcases hk0 with rfl | rfl | rfl | rfl | rfl
    · exact absurd (show n 1 < n 1 from hl) (Nat.lt_irrefl _)
    · exact absurd (show n 1 < n 1 from hl) (Nat.lt_irrefl _)
    · exact absurd (show n 1 < n 1 from hl) (Nat.lt_irrefl _)
    · exact absurd (show n 1 < n 1 from hl) (Nat.lt_irrefl _)
    · exact absurd (show n 1 < n 1 from hl) (Nat.lt_irrefl _)
  have had : ∀ k i, lf_ n G i k → (ad1 (ad1 (ad1 (ad1 (ad1 ad 5 (n 1) s1) 7 (n 1) o1) 8 (n 1) r1) 6 (n 1) p1) 1 (n 1) a) k i = ad k i := fun k i hl => by
    rw [ad1_ne _ _ (hnl k i hl 1 (Or.inr (Or.inr (Or.inr (Or.inr (rfl)))))), ad1_ne _ _ (hnl k i hl 6 (Or.inr (Or.inr (Or.inr (Or.inl rfl))))), ad1_ne _ _ (hnl k i hl 8 (Or.inr (Or.inr (Or.inl rfl)))), ad1_ne _ _ (hnl k i hl 7 (Or.inr (Or.inl rfl))), ad1_ne _ _ (hnl k i hl 5 (Or.inl rfl))]
  have hrl : ∀ k i, lf_ n G i k → (va_up (va_up (va_up (va_up (va_up rl s1 (5, n 1)) o1 (7, n 1)) r1 (8, n 1)) p1 (6, n 1)) a (1, n 1)) (ad k i) = (k, i) := fun k i hl => by
    rw [va_up_ne _ _ (d_a k i hl), va_up_ne _ _ (d_p1 k i hl), va_up_ne _ _ (d_r1 k i hl), va_up_ne _ _ (d_o1 k i hl), va_up_ne _ _ (d_s1 k i hl)]
    exact (hL.1 k i hl).2.1
  have n_s1 : (ad1 (ad1 (ad1 (ad1 (ad1 ad 5 (n 1) s1) 7 (n 1) o1) 8 (n 1) r1) 6 (n 1) p1) 1 (n 1) a) 5 (n 1) = s1 := by
    rw [ad1_ne _ _ (fun z => absurd z.1 (by decide)), ad1_ne _ _ (fun z => absurd z.1 (by decide)), ad1_ne _ _ (fun z => absurd z.1 (by decide)), ad1_ne _ _ (fun z => absurd z.1 (by decide)), ad1_eq]
  have r_s1 : (va_up (va_up (va_up (va_up (va_up rl s1 (5, n 1)) o1 (7, n 1)) r1 (8, n 1)) p1 (6, n 1)) a (1, n 1)) s1 = (5, n 1) := by
    rw [va_up_ne _ _ h_s1_a, va_up_ne _ _ h_s1_p1, va_up_ne _ _ h_s1_r1, va_up_ne _ _ h_s1_o1, va_up_self]
  have n_o1 : (ad1 (ad1 (ad1 (ad1 (ad1 ad 5 (n 1) s1) 7 (n 1) o1) 8 (n 1) r1) 6 (n 1) p1) 1 (n 1) a) 7 (n 1) = o1 := by
    rw [ad1_ne _ _ (fun z => absurd z.1 (by decide)), ad1_ne _ _ (fun z => absurd z.1 (by decide)), ad1_ne _ _ (fun z => absurd z.1 (by decide)), ad1_eq]
  have r_o1 : (va_up (va_up (va_up (va_up (va_up rl s1 (5, n 1)) o1 (7, n 1)) r1 (8, n 1)) p1 (6, n 1)) a (1, n 1)) o1 = (7, n 1) := by
    rw [va_up_ne _ _ h_o1_a, va_up_ne _ _ h_o1_p1, va_up_ne _ _ h_o1_r1, va_up_self]
  have n_r1 : (ad1 (ad1 (ad1 (ad1 (ad1 ad 5 (n 1) s1) 7 (n 1) o1) 8 (n 1) r1) 6 (n 1) p1) 1 (n 1) a) 8 (n 1) = r1 := by
    rw [ad1_ne _ _ (fun z => absurd z.1 (by decide)), ad1_ne _ _ (fun z => absurd z.1 (by decide)), ad1_eq]
  have r_r1 : (va_up (va_up (va_up (va_up (va_up rl s1 (5, n 1)) o1 (7, n 1)) r1 (8, n 1)) p1 (6, n 1)) a (1, n 1)) r1 = (8, n 1) := by
    rw [va_up_ne _ _ h_r1_a, va_up_ne _ _ h_r1_p1, va_up_self]
  have n_p1 : (ad1 (ad1 (ad1 (ad1 (ad1 ad 5 (n 1) s1) 7 (n 1) o1) 8 (n 1) r1) 6 (n 1) p1) 1 (n 1) a) 6 (n 1) = p1 := by
    rw [ad1_ne _ _ (fun z => absurd z.1 (by decide)), ad1_eq]
  have r_p1 : (va_up (va_up (va_up (va_up (va_up rl s1 (5, n 1)) o1 (7, n 1)) r1 (8, n 1)) p1 (6, n 1)) a (1, n 1)) p1 = (6, n 1) := by
    rw [va_up_ne _ _ h_p1_a, va_up_self]
  have n_a : (ad1 (ad1 (ad1 (ad1 (ad1 ad 5 (n 1) s1) 7 (n 1) o1) 8 (n 1) r1) 6 (n 1) p1) 1 (n 1) a) 1 (n 1) = a := by
    rw [ad1_eq]
  have r_a : (va_up (va_up (va_up (va_up (va_up rl s1 (5, n 1)) o1 (7, n 1)) r1 (8, n 1)) p1 (6, n 1)) a (1, n 1)) a = (1, n 1) := by
    rw [va_up_self]
  have hq1 := hL.2.1 1 (by decide) (by decide)
  have g_s1 : va_up f (ad 21 0) (.inl (cy 8, 8, .inr (.inr (.inr (.inr (va_up (fun x => if x < n 1 then some (ad 1 x) else none) (n 1) (some a))))))) s1 = .inl (cI, 6, .inl zz_) := by
    rw [va_up_ne _ _ (fun z => d_s1 21 0 rfl z.symm)]
    exact f_s1
  have g_o1 : va_up f (ad 21 0) (.inl (cy 8, 8, .inr (.inr (.inr (.inr (va_up (fun x => if x < n 1 then some (ad 1 x) else none) (n 1) (some a))))))) o1 = .inl (cI, 12, .inl zz_) := by
    rw [va_up_ne _ _ (fun z => d_o1 21 0 rfl z.symm)]
    exact f_o1
  have g_r1 : va_up f (ad 21 0) (.inl (cy 8, 8, .inr (.inr (.inr (.inr (va_up (fun x => if x < n 1 then some (ad 1 x) else none) (n 1) (some a))))))) r1 = .inl (cy 7, 8, .inr (.inr (.inr (.inr nn_)))) := by
    rw [va_up_ne _ _ (fun z => d_r1 21 0 rfl z.symm)]
    exact f_r1
  have g_p1 : va_up f (ad 21 0) (.inl (cy 8, 8, .inr (.inr (.inr (.inr (va_up (fun x => if x < n 1 then some (ad 1 x) else none) (n 1) (some a))))))) p1 = .inl (cI, 6, .inl g) := by
    rw [va_up_ne _ _ (fun z => d_p1 21 0 rfl z.symm)]
    exact f_p1
  have g_a : va_up f (ad 21 0) (.inl (cy 8, 8, .inr (.inr (.inr (.inr (va_up (fun x => if x < n 1 then some (ad 1 x) else none) (n 1) (some a))))))) a = .inr (3, [.ref s1, .ref p1, .ref o1, .ref r1]) := by
    rw [va_up_ne _ _ (fun z => d_a 21 0 rfl z.symm)]
    exact f_a
  have hGl : ∀ k i, lf_ n G i k → ∀ s x, ow_ x s = (k, i) → G' s x = G s x := fun k i hl s x ho => hG s x (by
    rw [ho]
    exact ⟨fun z => hnl k i hl 5 (Or.inl rfl) ⟨congrArg Prod.fst z, congrArg Prod.snd z⟩, fun z => hnl k i hl 7 (Or.inr (Or.inl rfl)) ⟨congrArg Prod.fst z, congrArg Prod.snd z⟩, fun z => hnl k i hl 8 (Or.inr (Or.inr (Or.inl rfl))) ⟨congrArg Prod.fst z, congrArg Prod.snd z⟩, fun z => hnl k i hl 6 (Or.inr (Or.inr (Or.inr (Or.inl rfl)))) ⟨congrArg Prod.fst z, congrArg Prod.snd z⟩, fun z => hnl k i hl 1 (Or.inr (Or.inr (Or.inr (Or.inr (rfl))))) ⟨congrArg Prod.fst z, congrArg Prod.snd z⟩⟩)
  have h26 : ∀ x, x < n 4 → G' 26 x = G 26 x := fun x hx => hGl 4 x hx 26 x rfl
  refine ⟨_, by rw [e44]; exact hP, by rw [e44]; exact hD, ly_grow 1 hN.2.2.2.2 hL had hrl hGl (fun k i hl hk => ?_) (fun c hc => va_up_ne _ _ hc) ?_ (fun i hi => hi) (fun k i hl hn => ?_) lf_q ?_⟩
  · rw [va_up_ne _ _ (fun z => hk ?_)]
    have e1 := (hL.1 k i hl).2.1
    rw [z, (hL.1 21 0 rfl).2.1] at e1
    exact (congrArg Prod.fst e1).symm
  · show va_up f (ad 21 0) _ (ad 21 0) = .inl (cy 8, 8, .inr (.inr (.inr (.inr (fun x => if x < va_up n 1 (n 1 + 1) 1 then some ((ad1 (ad1 (ad1 (ad1 (ad1 ad 5 (n 1) s1) 7 (n 1) o1) 8 (n 1) r1) 6 (n 1) p1) 1 (n 1) a) 1 x) else none)))))
    rw [va_up_self, root_up (ad' := (ad1 (ad1 (ad1 (ad1 (ad1 ad 5 (n 1) s1) 7 (n 1) o1) 8 (n 1) r1) 6 (n 1) p1) 1 (n 1) a)) (fun x hx => had 1 x hx) n_a]
    rfl
  · obtain ⟨rfl, hk⟩ := lf_new1 h26 hl hn
    rcases hk with rfl | rfl | rfl | rfl | rfl
    · rw [n_a]
      refine ⟨m_a, r_a, ?_⟩
      rw [g_a]
      show (_ : va_E) = .inr (3, [.ref (_), .ref (_), .ref (_), .ref (_)])
      rw [n_s1, n_p1, n_o1, n_r1]
    · rw [n_s1]
      refine ⟨m_s1, r_s1, ?_⟩
      rw [g_s1]
      exact ⟨zz_, rfl, fun x hx => (e2 x hx).symm⟩
    · rw [n_p1]
      refine ⟨m_p1, r_p1, ?_⟩
      rw [g_p1]
      exact ⟨g, rfl, fun x hx => (eg x hx).trans (e3 x hx).symm⟩
    · rw [n_o1]
      refine ⟨m_o1, r_o1, ?_⟩
      rw [g_o1]
      exact ⟨zz_, rfl, fun x hx => (e4 x hx).symm⟩
    · rw [n_r1]
      refine ⟨m_r1, r_r1, ?_⟩
      rw [g_r1]
      exact ⟨nn_, rfl, fun x hx => by rw [e32 x hx]; rfl⟩
  · exact fun i w hi hw => by
      by_cases e : i = n 1
      · rw [e]; exact Or.inl (e32 w hw)
      · have hi : i < n 1 + 1 := hi
        have hi : i < n 1 := by omega
        rw [show G' 32 (8 * i + w) = G 32 (8 * i + w) from hGl 8 i hi 32 _ (show (8, (8 * i + w) / 8) = (8, i) by rw [show (8 * i + w) / 8 = i by omega])]
        rcases hL.2.2 i w hi hw with h1 | ⟨x, hx, e1, k0, k1⟩
        · exact Or.inl h1
        · exact Or.inr ⟨x, hx, e1, by rw [h26 x hx]; exact k0, by rw [h26 x hx]; exact k1⟩

