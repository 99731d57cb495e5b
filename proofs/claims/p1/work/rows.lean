section
-- ===== PART A: goes FIRST, ahead of the names: the tables' words, and 'selects' of the private methods out of them =====
/-- a private method of a class that the tables say can be made, by its rows of tables_1 -/
def lw_okq (q : MethodName × Nat) : Prop := (q.1.cls ≠ "java/lang/invoke/MethodHandle" ∧ q.1.cls ≠ "java/lang/invoke/VarHandle") ∧ Cond.instantiable q.1.cls q.2 ∈ tables_1 ∧ Cond.privateMethod q.1 ∈ tables_1 ∧ Cond.instanceMethod q.1 ∈ tables_1
theorem lw_p0 : lw_okq (⟨"FurPosts", "areTwoPosts", "(II)Z"⟩, 14) := ⟨⟨by decide +kernel, by decide +kernel⟩, List.mem_of_getElem? (i := 13) (by decide +kernel), List.mem_of_getElem? (i := 113) (by decide +kernel), List.mem_of_getElem? (i := 114) (by decide +kernel)⟩
theorem lw_p1 : lw_okq (⟨"FurPosts", "postAt", "(I)LFurPosts$Post;"⟩, 14) := ⟨⟨by decide +kernel, by decide +kernel⟩, List.mem_of_getElem? (i := 13) (by decide +kernel), List.mem_of_getElem? (i := 117) (by decide +kernel), List.mem_of_getElem? (i := 118) (by decide +kernel)⟩
theorem lw_p2 : lw_okq (⟨"FurPosts", "shortenDistances", "(II)V"⟩, 14) := ⟨⟨by decide +kernel, by decide +kernel⟩, List.mem_of_getElem? (i := 13) (by decide +kernel), List.mem_of_getElem? (i := 151) (by decide +kernel), List.mem_of_getElem? (i := 152) (by decide +kernel)⟩
theorem lw_p3 : lw_okq (⟨"FurPosts", "wayAt", "(I)LFurPosts$Way;"⟩, 14) := ⟨⟨by decide +kernel, by decide +kernel⟩, List.mem_of_getElem? (i := 13) (by decide +kernel), List.mem_of_getElem? (i := 178) (by decide +kernel), List.mem_of_getElem? (i := 179) (by decide +kernel)⟩
theorem lw_p4 : lw_okq (⟨"FurPosts", "canLoad", "(LFurPosts$Post;LFurPosts$Way;)Z"⟩, 14) := ⟨⟨by decide +kernel, by decide +kernel⟩, List.mem_of_getElem? (i := 13) (by decide +kernel), List.mem_of_getElem? (i := 191) (by decide +kernel), List.mem_of_getElem? (i := 192) (by decide +kernel)⟩
theorem lw_p5 : lw_okq (⟨"FurPosts", "takeLetters", "(ILFurPosts$Canoe;)I"⟩, 14) := ⟨⟨by decide +kernel, by decide +kernel⟩, List.mem_of_getElem? (i := 13) (by decide +kernel), List.mem_of_getElem? (i := 257) (by decide +kernel), List.mem_of_getElem? (i := 258) (by decide +kernel)⟩
theorem lw_p6 : lw_okq (⟨"FurPosts", "letterAt", "(I)LFurPosts$Letter;"⟩, 14) := ⟨⟨by decide +kernel, by decide +kernel⟩, List.mem_of_getElem? (i := 13) (by decide +kernel), List.mem_of_getElem? (i := 261) (by decide +kernel), List.mem_of_getElem? (i := 262) (by decide +kernel)⟩
theorem lw_p7 : lw_okq (⟨"FurPosts", "canoeAt", "(I)LFurPosts$Canoe;"⟩, 14) := ⟨⟨by decide +kernel, by decide +kernel⟩, List.mem_of_getElem? (i := 13) (by decide +kernel), List.mem_of_getElem? (i := 270) (by decide +kernel), List.mem_of_getElem? (i := 271) (by decide +kernel)⟩
theorem lw_p8 : lw_okq (⟨"FurPosts", "loseLetters", "(I)V"⟩, 14) := ⟨⟨by decide +kernel, by decide +kernel⟩, List.mem_of_getElem? (i := 13) (by decide +kernel), List.mem_of_getElem? (i := 274) (by decide +kernel), List.mem_of_getElem? (i := 275) (by decide +kernel)⟩
theorem lw_p9 : lw_okq (⟨"FurPosts", "moveCanoe", "(I)V"⟩, 14) := ⟨⟨by decide +kernel, by decide +kernel⟩, List.mem_of_getElem? (i := 13) (by decide +kernel), List.mem_of_getElem? (i := 287) (by decide +kernel), List.mem_of_getElem? (i := 288) (by decide +kernel)⟩
theorem lw_p10 : lw_okq (⟨"FurPosts", "landCanoe", "(LFurPosts$Canoe;LFurPosts$Post;)V"⟩, 14) := ⟨⟨by decide +kernel, by decide +kernel⟩, List.mem_of_getElem? (i := 13) (by decide +kernel), List.mem_of_getElem? (i := 291) (by decide +kernel), List.mem_of_getElem? (i := 292) (by decide +kernel)⟩
theorem lw_p11 : lw_okq (⟨"FurPosts", "landLetters", "(IILFurPosts$Post;)V"⟩, 14) := ⟨⟨by decide +kernel, by decide +kernel⟩, List.mem_of_getElem? (i := 13) (by decide +kernel), List.mem_of_getElem? (i := 295) (by decide +kernel), List.mem_of_getElem? (i := 296) (by decide +kernel)⟩
theorem lw_p12 : lw_okq (⟨"FurPosts", "canWrite", "(II)Z"⟩, 14) := ⟨⟨by decide +kernel, by decide +kernel⟩, List.mem_of_getElem? (i := 13) (by decide +kernel), List.mem_of_getElem? (i := 348) (by decide +kernel), List.mem_of_getElem? (i := 349) (by decide +kernel)⟩
theorem lw_p13 : lw_okq (⟨"FurPosts", "putInBag", "(LFurPosts$Letter;)I"⟩, 14) := ⟨⟨by decide +kernel, by decide +kernel⟩, List.mem_of_getElem? (i := 13) (by decide +kernel), List.mem_of_getElem? (i := 385) (by decide +kernel), List.mem_of_getElem? (i := 386) (by decide +kernel)⟩
theorem lw_p14 : lw_okq (⟨"FurPosts", "areWantsRight", "(I)Z"⟩, 14) := ⟨⟨by decide +kernel, by decide +kernel⟩, List.mem_of_getElem? (i := 13) (by decide +kernel), List.mem_of_getElem? (i := 453) (by decide +kernel), List.mem_of_getElem? (i := 454) (by decide +kernel)⟩
theorem lw_p15 : lw_okq (⟨"FurPosts", "countBag", "(I)I"⟩, 14) := ⟨⟨by decide +kernel, by decide +kernel⟩, List.mem_of_getElem? (i := 13) (by decide +kernel), List.mem_of_getElem? (i := 478) (by decide +kernel), List.mem_of_getElem? (i := 479) (by decide +kernel)⟩
def lw_privs_1 : List (MethodName × Nat) := [(⟨"FurPosts", "areTwoPosts", "(II)Z"⟩, 14), (⟨"FurPosts", "postAt", "(I)LFurPosts$Post;"⟩, 14), (⟨"FurPosts", "shortenDistances", "(II)V"⟩, 14), (⟨"FurPosts", "wayAt", "(I)LFurPosts$Way;"⟩, 14), (⟨"FurPosts", "canLoad", "(LFurPosts$Post;LFurPosts$Way;)Z"⟩, 14), (⟨"FurPosts", "takeLetters", "(ILFurPosts$Canoe;)I"⟩, 14), (⟨"FurPosts", "letterAt", "(I)LFurPosts$Letter;"⟩, 14), (⟨"FurPosts", "canoeAt", "(I)LFurPosts$Canoe;"⟩, 14), (⟨"FurPosts", "loseLetters", "(I)V"⟩, 14), (⟨"FurPosts", "moveCanoe", "(I)V"⟩, 14), (⟨"FurPosts", "landCanoe", "(LFurPosts$Canoe;LFurPosts$Post;)V"⟩, 14), (⟨"FurPosts", "landLetters", "(IILFurPosts$Post;)V"⟩, 14), (⟨"FurPosts", "canWrite", "(II)Z"⟩, 14), (⟨"FurPosts", "putInBag", "(LFurPosts$Letter;)I"⟩, 14), (⟨"FurPosts", "areWantsRight", "(I)Z"⟩, 14), (⟨"FurPosts", "countBag", "(I)I"⟩, 14)]
theorem lw_r1 : ∀ q ∈ lw_privs_1, lw_okq q := List.forall_mem_cons.mpr ⟨lw_p0, List.forall_mem_cons.mpr ⟨lw_p1, List.forall_mem_cons.mpr ⟨lw_p2, List.forall_mem_cons.mpr ⟨lw_p3, List.forall_mem_cons.mpr ⟨lw_p4, List.forall_mem_cons.mpr ⟨lw_p5, List.forall_mem_cons.mpr ⟨lw_p6, List.forall_mem_cons.mpr ⟨lw_p7, List.forall_mem_cons.mpr ⟨lw_p8, List.forall_mem_cons.mpr ⟨lw_p9, List.forall_mem_cons.mpr ⟨lw_p10, List.forall_mem_cons.mpr ⟨lw_p11, List.forall_mem_cons.mpr ⟨lw_p12, List.forall_mem_cons.mpr ⟨lw_p13, List.forall_mem_cons.mpr ⟨lw_p14, List.forall_mem_cons.mpr ⟨lw_p15, fun _ h => absurd h List.not_mem_nil⟩⟩⟩⟩⟩⟩⟩⟩⟩⟩⟩⟩⟩⟩⟩⟩
theorem lw_p16 : lw_okq (⟨"FurPosts", "countOfAll", "(I)I"⟩, 14) := ⟨⟨by decide +kernel, by decide +kernel⟩, List.mem_of_getElem? (i := 13) (by decide +kernel), List.mem_of_getElem? (i := 490) (by decide +kernel), List.mem_of_getElem? (i := 491) (by decide +kernel)⟩
theorem lw_p17 : lw_okq (⟨"FurPostsModel", "isPost", "(I)Z"⟩, 37) := ⟨⟨by decide +kernel, by decide +kernel⟩, List.mem_of_getElem? (i := 494) (by decide +kernel), List.mem_of_getElem? (i := 625) (by decide +kernel), List.mem_of_getElem? (i := 626) (by decide +kernel)⟩
theorem lw_p18 : lw_okq (⟨"FurPostsModel", "between", "(II)I"⟩, 37) := ⟨⟨by decide +kernel, by decide +kernel⟩, List.mem_of_getElem? (i := 494) (by decide +kernel), List.mem_of_getElem? (i := 629) (by decide +kernel), List.mem_of_getElem? (i := 630) (by decide +kernel)⟩
theorem lw_p19 : lw_okq (⟨"FurPostsModel", "stored", "(II)I"⟩, 37) := ⟨⟨by decide +kernel, by decide +kernel⟩, List.mem_of_getElem? (i := 494) (by decide +kernel), List.mem_of_getElem? (i := 640) (by decide +kernel), List.mem_of_getElem? (i := 641) (by decide +kernel)⟩
theorem lw_p20 : lw_okq (⟨"FurPostsModel", "sums", "(III)V"⟩, 37) := ⟨⟨by decide +kernel, by decide +kernel⟩, List.mem_of_getElem? (i := 494) (by decide +kernel), List.mem_of_getElem? (i := 645) (by decide +kernel), List.mem_of_getElem? (i := 646) (by decide +kernel)⟩
theorem lw_p21 : lw_okq (⟨"FurPostsModel", "isOpen", "(II)Z"⟩, 37) := ⟨⟨by decide +kernel, by decide +kernel⟩, List.mem_of_getElem? (i := 494) (by decide +kernel), List.mem_of_getElem? (i := 657) (by decide +kernel), List.mem_of_getElem? (i := 658) (by decide +kernel)⟩
theorem lw_p22 : lw_okq (⟨"FurPostsModel", "isAway", "(I)Z"⟩, 37) := ⟨⟨by decide +kernel, by decide +kernel⟩, List.mem_of_getElem? (i := 494) (by decide +kernel), List.mem_of_getElem? (i := 669) (by decide +kernel), List.mem_of_getElem? (i := 670) (by decide +kernel)⟩
theorem lw_p23 : lw_okq (⟨"FurPostsModel", "isCanoe", "(I)Z"⟩, 37) := ⟨⟨by decide +kernel, by decide +kernel⟩, List.mem_of_getElem? (i := 494) (by decide +kernel), List.mem_of_getElem? (i := 673) (by decide +kernel), List.mem_of_getElem? (i := 674) (by decide +kernel)⟩
theorem lw_p24 : lw_okq (⟨"FurPostsModel", "comes", "(I)V"⟩, 37) := ⟨⟨by decide +kernel, by decide +kernel⟩, List.mem_of_getElem? (i := 494) (by decide +kernel), List.mem_of_getElem? (i := 685) (by decide +kernel), List.mem_of_getElem? (i := 686) (by decide +kernel)⟩
theorem lw_p25 : lw_okq (⟨"FurPostsModel", "reads", "(I)V"⟩, 37) := ⟨⟨by decide +kernel, by decide +kernel⟩, List.mem_of_getElem? (i := 494) (by decide +kernel), List.mem_of_getElem? (i := 689) (by decide +kernel), List.mem_of_getElem? (i := 690) (by decide +kernel)⟩
theorem lw_p26 : lw_okq (⟨"FurPostsModel", "isDeal", "(IIII)Z"⟩, 37) := ⟨⟨by decide +kernel, by decide +kernel⟩, List.mem_of_getElem? (i := 494) (by decide +kernel), List.mem_of_getElem? (i := 697) (by decide +kernel), List.mem_of_getElem? (i := 698) (by decide +kernel)⟩
theorem lw_p27 : lw_okq (⟨"FurPostsModel", "canWrite", "(II)Z"⟩, 37) := ⟨⟨by decide +kernel, by decide +kernel⟩, List.mem_of_getElem? (i := 494) (by decide +kernel), List.mem_of_getElem? (i := 722) (by decide +kernel), List.mem_of_getElem? (i := 723) (by decide +kernel)⟩
theorem lw_p28 : lw_okq (⟨"FurPostsModel", "writes", "(IIIII)I"⟩, 37) := ⟨⟨by decide +kernel, by decide +kernel⟩, List.mem_of_getElem? (i := 494) (by decide +kernel), List.mem_of_getElem? (i := 726) (by decide +kernel), List.mem_of_getElem? (i := 727) (by decide +kernel)⟩
def lw_privs_2 : List (MethodName × Nat) := [(⟨"FurPosts", "countOfAll", "(I)I"⟩, 14), (⟨"FurPostsModel", "isPost", "(I)Z"⟩, 37), (⟨"FurPostsModel", "between", "(II)I"⟩, 37), (⟨"FurPostsModel", "stored", "(II)I"⟩, 37), (⟨"FurPostsModel", "sums", "(III)V"⟩, 37), (⟨"FurPostsModel", "isOpen", "(II)Z"⟩, 37), (⟨"FurPostsModel", "isAway", "(I)Z"⟩, 37), (⟨"FurPostsModel", "isCanoe", "(I)Z"⟩, 37), (⟨"FurPostsModel", "comes", "(I)V"⟩, 37), (⟨"FurPostsModel", "reads", "(I)V"⟩, 37), (⟨"FurPostsModel", "isDeal", "(IIII)Z"⟩, 37), (⟨"FurPostsModel", "canWrite", "(II)Z"⟩, 37), (⟨"FurPostsModel", "writes", "(IIIII)I"⟩, 37)]
theorem lw_r2 : ∀ q ∈ lw_privs_2, lw_okq q := List.forall_mem_cons.mpr ⟨lw_p16, List.forall_mem_cons.mpr ⟨lw_p17, List.forall_mem_cons.mpr ⟨lw_p18, List.forall_mem_cons.mpr ⟨lw_p19, List.forall_mem_cons.mpr ⟨lw_p20, List.forall_mem_cons.mpr ⟨lw_p21, List.forall_mem_cons.mpr ⟨lw_p22, List.forall_mem_cons.mpr ⟨lw_p23, List.forall_mem_cons.mpr ⟨lw_p24, List.forall_mem_cons.mpr ⟨lw_p25, List.forall_mem_cons.mpr ⟨lw_p26, List.forall_mem_cons.mpr ⟨lw_p27, List.forall_mem_cons.mpr ⟨lw_p28, fun _ h => absurd h List.not_mem_nil⟩⟩⟩⟩⟩⟩⟩⟩⟩⟩⟩⟩⟩
def lw_privs : List (MethodName × Nat) := lw_privs_1 ++ (lw_privs_2)
def lw_tbl : List Cond := k2_sels lw_privs ++ tables_1
theorem lw_privs_ok : ∀ q ∈ lw_privs, lw_okq q := by
  show ∀ q ∈ lw_privs_1 ++ (lw_privs_2), lw_okq q
  exact List.forall_mem_append.mpr ⟨lw_r1, lw_r2⟩
-- ===== end of PART A; then your names; then what follows =====
end
section
/-- an array of arrays can be made (the printed names speak of it; no block of the kit has it) -/
def va_AOA (ty : FieldType) (U : State) : Prop := (Cond.arrayOver (.array ty)).before #[] U = true
theorem va_AOA.use {ty : FieldType} {A : Array Value} {U : State} (h : va_AOA ty U) : (Cond.arrayOver (.array ty)).before A U = true := h
theorem va_AOA.of {ty : FieldType} {A : Array Value} {U : State} (h : (Cond.arrayOver (.array ty)).before A U = true) : va_AOA ty U := h
/-! ===== BEGIN words of one list among another's, by their places ===== -/
theorem goodIn_r {big : List Cond} (ws : List Cond) (ps : List Nat) (hp : ws = ps.filterMap (fun i => big[i]?)) (h : ws.all goodWord = true) : GoodIn big ws := by
  intro w hw
  have h1 := List.all_eq_true.mp h w hw
  rw [hp] at hw
  obtain ⟨i, -, hi⟩ := List.mem_filterMap.mp hw
  have hm : w ∈ big := by first | exact List.mem_of_getElem? hi | exact List.getElem?_mem hi
  exact ⟨hm, good_of_word h1⟩
theorem goodIn_app {big a b : List Cond} (ha : GoodIn big a) (hb : GoodIn big b) : GoodIn big (a ++ b) := fun w h => (List.mem_append.mp h).elim (ha w) (hb w)
theorem goodIn_ca {big a b : List Cond} {c : Cond} (ha : GoodIn big (c :: a)) (hb : GoodIn big b) : GoodIn big (c :: (a ++ b)) := fun w h => (List.mem_cons.mp h).elim (fun e => ha w (List.mem_cons.mpr (Or.inl e))) (fun h => (List.mem_append.mp h).elim (fun h => ha w (List.mem_cons.mpr (Or.inr h))) (hb w))
theorem goodIn_sub {big ws : List Cond} (hm : ∀ w ∈ ws, w ∈ big) (h : ws.all goodWord = true) : GoodIn big ws := fun w hw => ⟨hm w hw, good_of_word (List.all_eq_true.mp h w hw)⟩
/-! ===== END ===== -/

/-! ===== BEGIN new T[n][m]: the outer array a place, the inner ones among the pooled ===== -/
/-- f, but v at every address of l -/
def vr_up {α : Type} (f : Nat → α) (l : List Nat) (v : α) : Nat → α := fun a => if a ∈ l then v else f a
theorem vr_up_in {α : Type} {f : Nat → α} {l : List Nat} {v : α} {a : Nat} (h : a ∈ l) : vr_up f l v a = v := if_pos h
theorem vr_up_ne {α : Type} {f : Nat → α} {l : List Nat} {v : α} {a : Nat} (h : a ∉ l) : vr_up f l v a = f a := if_neg h
theorem vr_rows {L l : List Nat} {f : Nat → va_E} {e : va_E} (h : ∀ a, a ∈ l → a ∉ L) : va_pl L f ++ l.map (fun a => (a, e)) = va_pl (L ++ l) (vr_up f l e) := by
  unfold va_pl
  rw [List.map_append]
  congr 1
  · apply List.map_congr_left
    intro a ha
    rw [vr_up_ne (fun q => h a q ha)]
  · apply List.map_congr_left
    intro a ha
    rw [vr_up_in ha]
theorem vr_lay {X rows : va_W} {x : Nat × va_E} {pl : va_W} {D : va_G} {cl : List vw_C} {H : Heap} (hP : va_P D cl (((X ++ pl) ++ [x]) ++ rows) H) : va_P D cl ((X ++ [x]) ++ (pl ++ rows)) H := by
  rw [List.append_assoc (X ++ pl)] at hP
  have h := va_P.swap hP
  rw [← List.append_assoc X] at h
  have h2 := va_P.swap h
  rw [List.append_assoc (X ++ [x])] at h2
  exact h2
theorem vr_layD {X rows : va_W} {x : Nat × va_E} {pl : va_W} {A : Nat → Prop} (hD : va_D A (((X ++ pl) ++ [x]) ++ rows)) : va_D A ((X ++ [x]) ++ (pl ++ rows)) := by
  rw [List.append_assoc (X ++ pl)] at hD
  have h := va_D.swap hD
  rw [← List.append_assoc X] at h
  have h2 := va_D.swap h
  rw [List.append_assoc (X ++ [x])] at h2
  exact h2
theorem vr_outer (c : ClassId) (N h0 : Nat) : ∀ i : Nat, Jvm.Free.Multi.outerC c N h0 i = arrV c N (fun j => va_rf (if j < i then some (h0 + 1 + j) else none))
  | 0 => by
    show ({ cls := c, slots := Array.replicate N .null, vm := .none } : Cell) = _
    rw [arrV_new]
    refine congrArg (arrV c N) (funext fun j => ?_)
    simp [va_rf]
  | i + 1 => by
    show (Jvm.Free.Multi.outerC c N h0 i).setSlot i (.ref (h0 + 1 + i)) = _
    rw [vr_outer c N h0 i, arrV_store]
    refine congrArg (arrV c N) (funext fun j => ?_)
    by_cases e : j = i
    · subst e
      simp [updV, va_rf]
    · by_cases h : j < i
      · simp [updV, e, h, Nat.lt_succ_of_lt h]
      · simp [updV, e, h, show ¬ j < i + 1 by omega]
section VGM
variable {p : Program} {l : Launch} {e : Env} {R : Room} {s : State} {m : MethodId} {args : Array Value} {below : List Frame} {meth : Method} {c : Code} {H : Heap} {locs : List Loc} {cells slots : Nat} {Q : State → Prop}
variable {cc : ByteArray} {pc : Nat} {ls : Array Slot} {rest : List Value} {D : va_G} {cl : List vw_C} {A : Nat → Prop} {a : Nat} {tys : List (ClassId × FieldType)} {ws : va_W} {H0 : Heap}
theorem va_mna {X : va_W} {L : List Nat} {f : Nat → va_E} {cc : ByteArray} (hexec : p.tables.exec = Jvm.exec) (hb : c.code = cc) {own : String} {index : Nat} {ty : FieldType} {cy : ClassId} (hown : s.vm.findClass own = some m.cls) (hclink : (Cond.classLink own index ("[" ++ (FieldType.array ty).toString)).before args s = true) (hover : va_AOA ty s) (harr : (Cond.arrayClass ty).before args s = true) (hcy : s.vm.findClass (FieldType.array ty).toString = some cy)
    (hK : va_K D cl tys s) (hP : va_P D cl (X ++ va_pl L f) H) (hD : va_D A (X ++ va_pl L f)) (hS : va_S A H0 H locs) (hA : ∀ q, H0.size ≤ q → A q) {n k : Int32} {N' K' : Nat} {z : vp_A} (hn : ¬ n < 0) (hk : ¬ k < 0) (hN : n.toNatClampNeg = N') (hM : k.toNatClampNeg = K')
    (hb1 : N' * 4 ≤ 536870912) (hb2 : K' * componentBytes ty ≤ 536870912) (hb3 : K' ≤ 536870912) (hdf : fits ty (defaultValue ty) = true) (hdd : (defaultValue ty).isDefault = true) (hcells : cells + (1 + N') ≤ R.cells) (hslots : slots + (N' + N' * K') ≤ R.slots) (hz : ∀ c : ClassId, Jvm.Free.Multi.innerC c K' (defaultValue ty) = vp_cell c z) (hdg : decode cc pc = .ok (.multianewarray index 2, 4))
    (kk : ∀ (q : Nat) (r : Nat → Nat) (cA : ClassId) (H1 : Heap), (∀ i j : Nat, i < N' → j < N' → r i = r j → i = j) → (∀ i : Nat, i < N' → r i ∉ L) → va_K D cl (tys ++ [(cA, .array ty)]) s →
      va_P D cl ((X ++ [(q, .inl (cA, N', .inr (.inr (.inr (.inr (fun i => if i < N' then some (r i) else none))))))]) ++ va_pl (L ++ (List.range N').map r) (vr_up f ((List.range N').map r) (.inl (cy, z)))) H1 → va_D A ((X ++ [(q, .inl (cA, N', .inr (.inr (.inr (.inr (fun i => if i < N' then some (r i) else none))))))]) ++ va_pl (L ++ (List.range N').map r) (vr_up f ((List.range N').map r) (.inl (cy, z)))) → va_S A H0 H1 locs →
      W p l e R s m args below meth c H1 locs (cells + 1 + N') (slots + N' + N' * K') Q (F0 m (pc + 4) ls (.ref q :: rest))) : W p l e R s m args below meth c H locs cells slots Q (F0 m pc ls (.int k :: .int n :: rest)) := by
  subst hN
  subst hM
  intro T hT Xs
  obtain ⟨vm₁, cA, comp, -, fA, fC, hO, -, X', step⟩ := Xs.multianewarray2F hexec hown hclink (va_AOA.use hover) harr (g := F0 m pc ls (.int k :: .int n :: rest)) rfl (by rw [hb]; exact hdg) rfl hn hk hb1 hb2 hb3 hdf hdd hcells hslots
  have ec : some cy = some comp := hcy.symm.trans fC
  cases ec
  generalize hF : Jvm.Free.Multi.fill (T.setVm vm₁) cA cy n.toNatClampNeg k.toNatClampNeg (defaultValue ty) n.toNatClampNeg = F at X' step
  have hTh : (T.setVm vm₁).heap = H := hT
  obtain ⟨f1, f2, -, -⟩ := Jvm.Free.Multi.fill_facts (T.setVm vm₁) cA cy n.toNatClampNeg k.toNatClampNeg (defaultValue ty) n.toNatClampNeg
  rw [hF, hTh] at f1 f2
  have hold : ∀ x : Nat, x < H.size → F.heap[x]? = H[x]? := fun x hx => by
    have := Jvm.Free.Multi.fill_old (T.setVm vm₁) cA cy n.toNatClampNeg k.toNatClampNeg (defaultValue ty) (a := x) (by rw [hTh]; exact hx) n.toNatClampNeg
    rw [hF, hTh] at this
    exact this
  have hrow : ∀ j : Nat, j < n.toNatClampNeg → F.heap[H.size + 1 + j]? = some (vp_cell cy z) := fun j hj => by
    have := Jvm.Free.Multi.fill_inner (T.setVm vm₁) cA cy n.toNatClampNeg k.toNatClampNeg (defaultValue ty) n.toNatClampNeg j hj
    rw [hF, hTh, hz] at this
    exact this
  have hout : Jvm.Free.Multi.outerC cA n.toNatClampNeg H.size n.toNatClampNeg = vp_cell cA (n.toNatClampNeg, .inr (.inr (.inr (.inr (fun i => if i < n.toNatClampNeg then some (H.size + 1 + i) else none))))) := by
    rw [vp_cell_q]
    exact vr_outer cA n.toNatClampNeg H.size n.toNatClampNeg
  rw [hout] at f2
  have hlt : ∀ a, a ∈ L → a < H.size := fun a ha => by
    obtain ⟨k9, hk9⟩ := va_pl_get (X := X) (f := f) ha
    exact (hP k9 _ hk9).lt
  have hnl : ∀ i : Nat, i < n.toNatClampNeg → H.size + 1 + i ∉ L := fun i _ h => by
    have := hlt _ h
    omega
  have hnm : ∀ a, a ∈ (List.range n.toNatClampNeg).map (fun i => H.size + 1 + i) → a ∉ L := fun a ha h => by
    obtain ⟨i, -, rfl⟩ := List.mem_map.mp ha
    have := hlt _ h
    omega
  have hP0 : va_P D cl (X ++ va_pl L f) F.heap := hP.kept (fun k9 x hx => hold x.1 ((hP k9 x hx).lt))
  have hP1 : va_P D cl ((X ++ va_pl L f) ++ [(H.size, .inl (cA, n.toNatClampNeg, .inr (.inr (.inr (.inr (fun i => if i < n.toNatClampNeg then some (H.size + 1 + i) else none))))))]) F.heap := hP0.app (fun k9 x hx => by
    have h0 : k9 < 1 := (List.getElem?_eq_some_iff.mp hx).1
    rw [show k9 = 0 by omega] at hx
    cases hx
    exact f2)
  have hP2 : va_P D cl (((X ++ va_pl L f) ++ [(H.size, .inl (cA, n.toNatClampNeg, .inr (.inr (.inr (.inr (fun i => if i < n.toNatClampNeg then some (H.size + 1 + i) else none))))))]) ++ ((List.range n.toNatClampNeg).map (fun i => H.size + 1 + i)).map (fun a => (a, .inl (cy, z)))) F.heap := hP1.app (fun k9 x hx => by
    obtain ⟨a, ha, rfl⟩ := List.mem_map.mp (List.mem_of_getElem? hx)
    obtain ⟨i, hi, rfl⟩ := List.mem_map.mp ha
    exact hrow i (List.mem_range.mp hi))
  have hD2 : va_D A (((X ++ va_pl L f) ++ [(H.size, .inl (cA, n.toNatClampNeg, .inr (.inr (.inr (.inr (fun i => if i < n.toNatClampNeg then some (H.size + 1 + i) else none))))))]) ++ ((List.range n.toNatClampNeg).map (fun i => H.size + 1 + i)).map (fun a => (a, .inl (cy, z)))) := by
    have hD1 := hD.push (e := .inl (cA, n.toNatClampNeg, .inr (.inr (.inr (.inr (fun i => if i < n.toNatClampNeg then some (H.size + 1 + i) else none)))))) hP rfl (hA _ hS.1)
    generalize hW1 : (X ++ va_pl L f) ++ [(H.size, .inl (cA, n.toNatClampNeg, .inr (.inr (.inr (.inr (fun i => if i < n.toNatClampNeg then some (H.size + 1 + i) else none))))))] = W1 at hD1 hP1 ⊢
    have hle : ∀ (k9 : Nat) (x : Nat × va_E), W1[k9]? = some x → x.1 ≤ H.size := fun k9 x hx => by
      rw [← hW1] at hx
      by_cases hl : k9 < (X ++ va_pl L f).length
      · rw [List.getElem?_append_left hl] at hx
        exact Nat.le_of_lt ((hP k9 x hx).lt)
      · rw [List.getElem?_append_right (by omega)] at hx
        have h0 : k9 - (X ++ va_pl L f).length < 1 := (List.getElem?_eq_some_iff.mp hx).1
        rw [show k9 - (X ++ va_pl L f).length = 0 by omega] at hx
        cases hx
        exact Nat.le_refl _
    have hr : ∀ (k9 : Nat) (x : Nat × va_E), (((List.range n.toNatClampNeg).map (fun i => H.size + 1 + i)).map (fun a => ((a, .inl (cy, z)) : Nat × va_E)))[k9]? = some x → x.1 = H.size + 1 + k9 := fun k9 x hx => by
      rw [List.getElem?_map, List.getElem?_map] at hx
      by_cases h9 : k9 < n.toNatClampNeg
      · rw [List.getElem?_range h9] at hx
        cases hx
        rfl
      · have hn0 : (List.range n.toNatClampNeg)[k9]? = none := List.getElem?_eq_none (by rw [List.length_range]; omega)
        rw [hn0] at hx
        cases hx
    refine ⟨fun i j x y hi hj hxy => ?_, fun k9 x hx => ?_⟩
    · by_cases h1 : i < W1.length <;> by_cases h2 : j < W1.length
      · rw [List.getElem?_append_left h1] at hi
        rw [List.getElem?_append_left h2] at hj
        exact hD1.1 i j x y hi hj hxy
      · rw [List.getElem?_append_left h1] at hi
        rw [List.getElem?_append_right (by omega)] at hj
        have := hle _ _ hi
        have := hr _ _ hj
        omega
      · rw [List.getElem?_append_right (by omega)] at hi
        rw [List.getElem?_append_left h2] at hj
        have := hle _ _ hj
        have := hr _ _ hi
        omega
      · rw [List.getElem?_append_right (by omega)] at hi hj
        have := hr _ _ hi
        have := hr _ _ hj
        omega
    · by_cases h1 : k9 < W1.length
      · rw [List.getElem?_append_left h1] at hx
        exact hD1.2 k9 x hx
      · rw [List.getElem?_append_right (by omega)] at hx
        have := hr _ _ hx
        exact hA _ (by have := hS.1; omega)
  have hAr : ArrOfT s cA (.array ty) := fun N9 z9 => by
    obtain ⟨-, k9, hk9, cm9, hkk9⟩ := (hO 0 0 0).1
    exact ⟨(fun q hq => by cases hq), k9, hk9, cm9, hkk9⟩
  have hK2 : va_K D cl (tys ++ [(cA, .array ty)]) s := ⟨hK.1, fun k9 x hx => by
    by_cases hl : k9 < tys.length
    · rw [List.getElem?_append_left hl] at hx
      exact hK.2 k9 x hx
    · rw [List.getElem?_append_right (by omega)] at hx
      have h0 : k9 - tys.length < 1 := (List.getElem?_eq_some_iff.mp hx).1
      rw [show k9 - tys.length = 0 by omega] at hx
      cases hx
      exact ⟨hAr, fA⟩⟩
  obtain ⟨t, a1, b1⟩ := kk H.size (fun i => H.size + 1 + i) cA F.heap (fun i j _ _ h => by have h9 : H.size + 1 + i = H.size + 1 + j := h; omega) hnl hK2 (by rw [← vr_rows hnm]; exact vr_lay hP2) (by rw [← vr_rows hnm]; exact vr_layD hD2) ⟨by rw [f1]; have := hS.1; omega, fun x h1 h2 => (hold x (Nat.lt_of_lt_of_le h1 hS.1)).trans (hS.2.1 x h1 h2), hS.2.2⟩ F rfl X'
  refine ⟨t, step t ?_, b1⟩
  have e : T.heap.size = H.size := by rw [hT]
  rw [e]
  exact a1
end VGM
/-! ===== END ===== -/
end
section
/-! ===== BEGIN printed: names, fields, word lists, decode rows ===== -/
def RX0 : String := "FurPosts$Canoe"
def TX0 : u_T := fun k => match k with
  | 0 => ("FurPosts$Canoe", "from", "I", true)
  | 1 => ("FurPosts$Canoe", "to", "I", true)
  | 2 => ("FurPosts$Canoe", "way", "I", true)
  | 3 => ("FurPosts$Canoe", "daySent", "I", true)
  | 4 => ("FurPosts$Canoe", "waresSent", "[I", true)
  | 5 => ("FurPosts$Canoe", "wares", "[I", true)
  | 6 => ("FurPosts$Canoe", "lettersSent", "I", false)
  | 7 => ("FurPosts$Canoe", "daysToGo", "I", false)
  | 8 => ("FurPosts$Canoe", "dayCame", "I", false)
  | 9 => ("FurPosts$Canoe", "state", "I", false)
  | _ => ("FurPosts$Canoe", "spoilt", "Z", false)
def tyX0 : Nat → FieldType := fun k => match k with
  | 0 => .int
  | 1 => .int
  | 2 => .int
  | 3 => .int
  | 4 => .array .int
  | 5 => .array .int
  | 6 => .int
  | 7 => .int
  | 8 => .int
  | 9 => .int
  | _ => .boolean
abbrev wsX00 : List Cond := u_ws RX0 TX0 11
theorem nmX0 : ∀ a, a < 11 → ∀ b, b < 11 → a ≠ b → (TX0 a).2.1 ≠ (TX0 b).2.1 := by decide +kernel
theorem tyX0_ok : ∀ k, k < 11 → parseFieldDescriptor (TX0 k).2.2.1 = some (tyX0 k) := by decide +kernel
abbrev cX0_init : ByteArray := prog_2_method_1_code
def yX0_init : MethodName := ⟨RX0, "<init>", "(IIIII[I)V"⟩
abbrev cX0_isBetween : ByteArray := prog_2_method_2_code
def yX0_isBetween : MethodName := ⟨RX0, "isBetween", "(II)Z"⟩
abbrev cX0_partsBooks : ByteArray := prog_2_method_3_code
def yX0_partsBooks : MethodName := ⟨RX0, "partsBooks", "()Z"⟩
def RX1 : String := "FurPosts$Debt"
def TX1 : u_T := fun k => match k with
  | 0 => ("FurPosts$Letter", "from", "I", true)
  | 1 => ("FurPosts$Letter", "to", "I", true)
  | 2 => ("FurPosts$Letter", "bag", "I", false)
  | 3 => ("FurPosts$Letter", "carrier", "I", false)
  | 4 => ("FurPosts$Debt", "hunter", "I", true)
  | _ => ("FurPosts$Debt", "coins", "I", true)
def tyX1 : Nat → FieldType := fun k => match k with
  | 0 => .int
  | 1 => .int
  | 2 => .int
  | 3 => .int
  | 4 => .int
  | _ => .int
abbrev wsX10 : List Cond := u_ws RX1 TX1 6
theorem nmX1 : ∀ a, a < 6 → ∀ b, b < 6 → a ≠ b → (TX1 a).2.1 ≠ (TX1 b).2.1 := by decide +kernel
theorem tyX1_ok : ∀ k, k < 6 → parseFieldDescriptor (TX1 k).2.2.1 = some (tyX1 k) := by decide +kernel
abbrev cX1_init : ByteArray := prog_3_method_1_code
def yX1_init : MethodName := ⟨RX1, "<init>", "(IIII)V"⟩
abbrev cX1_readAt : ByteArray := prog_3_method_2_code
def yX1_readAt : MethodName := ⟨RX1, "readAt", "(LFurPosts$Post;)V"⟩
def RX2 : String := "FurPosts$Letter"
def TX2 : u_T := fun k => match k with
  | _ => ("", "", "", false)
def tyX2 : Nat → FieldType := fun k => match k with
  | _ => .int
abbrev wsX20 : List Cond := u_ws RX2 TX2 0
theorem nmX2 : ∀ a, a < 0 → ∀ b, b < 0 → a ≠ b → (TX2 a).2.1 ≠ (TX2 b).2.1 := by decide +kernel
theorem tyX2_ok : ∀ k, k < 0 → parseFieldDescriptor (TX2 k).2.2.1 = some (tyX2 k) := by decide +kernel
abbrev cX2_init : ByteArray := prog_4_method_1_code
def yX2_init : MethodName := ⟨RX2, "<init>", "(II)V"⟩
def RX3 : String := "FurPosts$Order"
def TX3 : u_T := fun k => match k with
  | 0 => ("FurPosts$Letter", "from", "I", true)
  | 1 => ("FurPosts$Letter", "to", "I", true)
  | 2 => ("FurPosts$Letter", "bag", "I", false)
  | 3 => ("FurPosts$Letter", "carrier", "I", false)
  | 4 => ("FurPosts$Order", "ware", "I", true)
  | _ => ("FurPosts$Order", "asked", "I", true)
def tyX3 : Nat → FieldType := fun k => match k with
  | 0 => .int
  | 1 => .int
  | 2 => .int
  | 3 => .int
  | 4 => .int
  | _ => .int
abbrev wsX30 : List Cond := u_ws RX3 TX3 6
theorem nmX3 : ∀ a, a < 6 → ∀ b, b < 6 → a ≠ b → (TX3 a).2.1 ≠ (TX3 b).2.1 := by decide +kernel
theorem tyX3_ok : ∀ k, k < 6 → parseFieldDescriptor (TX3 k).2.2.1 = some (tyX3 k) := by decide +kernel
abbrev cX3_init : ByteArray := prog_5_method_1_code
def yX3_init : MethodName := ⟨RX3, "<init>", "(IIII)V"⟩
abbrev cX3_readAt : ByteArray := prog_5_method_2_code
def yX3_readAt : MethodName := ⟨RX3, "readAt", "(LFurPosts$Post;)V"⟩
def RX4 : String := "FurPosts$Post"
def TX4 : u_T := fun k => match k with
  | 0 => ("FurPosts$Post", "stock", "[I", true)
  | 1 => ("FurPosts$Post", "prices", "[I", true)
  | 2 => ("FurPosts$Post", "owed", "[I", true)
  | _ => ("FurPosts$Post", "reports", "[LFurPosts$Report;", true)
def tyX4 : Nat → FieldType := fun k => match k with
  | 0 => .array .int
  | 1 => .array .int
  | 2 => .array .int
  | _ => .array (.object "FurPosts$Report")
abbrev wsX40 : List Cond := u_ws RX4 TX4 4
theorem nmX4 : ∀ a, a < 4 → ∀ b, b < 4 → a ≠ b → (TX4 a).2.1 ≠ (TX4 b).2.1 := by decide +kernel
theorem tyX4_ok : ∀ k, k < 4 → parseFieldDescriptor (TX4 k).2.2.1 = some (tyX4 k) := by decide +kernel
abbrev cX4_init : ByteArray := prog_6_method_1_code
def yX4_init : MethodName := ⟨RX4, "<init>", "()V"⟩
abbrev cX4_reportOf : ByteArray := prog_6_method_2_code
def yX4_reportOf : MethodName := ⟨RX4, "reportOf", "(I)LFurPosts$Report;"⟩
abbrev cX4_owedByAll : ByteArray := prog_6_method_3_code
def yX4_owedByAll : MethodName := ⟨RX4, "owedByAll", "()I"⟩
def RX5 : String := "FurPosts$Report"
def TX5 : u_T := fun k => match k with
  | 0 => ("FurPosts$Letter", "from", "I", true)
  | 1 => ("FurPosts$Letter", "to", "I", true)
  | 2 => ("FurPosts$Letter", "bag", "I", false)
  | 3 => ("FurPosts$Letter", "carrier", "I", false)
  | 4 => ("FurPosts$Report", "day", "I", true)
  | _ => ("FurPosts$Report", "stock", "[I", true)
def tyX5 : Nat → FieldType := fun k => match k with
  | 0 => .int
  | 1 => .int
  | 2 => .int
  | 3 => .int
  | 4 => .int
  | _ => .array .int
abbrev wsX50 : List Cond := u_ws RX5 TX5 6
theorem nmX5 : ∀ a, a < 6 → ∀ b, b < 6 → a ≠ b → (TX5 a).2.1 ≠ (TX5 b).2.1 := by decide +kernel
theorem tyX5_ok : ∀ k, k < 6 → parseFieldDescriptor (TX5 k).2.2.1 = some (tyX5 k) := by decide +kernel
abbrev cX5_init : ByteArray := prog_7_method_1_code
def yX5_init : MethodName := ⟨RX5, "<init>", "(III[I)V"⟩
abbrev cX5_readAt : ByteArray := prog_7_method_2_code
def yX5_readAt : MethodName := ⟨RX5, "readAt", "(LFurPosts$Post;)V"⟩
def RX6 : String := "FurPosts$Way"
def TX6 : u_T := fun k => match k with
  | 0 => ("FurPosts$Way", "a", "I", true)
  | 1 => ("FurPosts$Way", "b", "I", true)
  | 2 => ("FurPosts$Way", "days", "I", true)
  | 3 => ("FurPosts$Way", "firstOpen", "I", true)
  | 4 => ("FurPosts$Way", "lastOpen", "I", true)
  | _ => ("FurPosts$Way", "bears", "I", true)
def tyX6 : Nat → FieldType := fun k => match k with
  | 0 => .int
  | 1 => .int
  | 2 => .int
  | 3 => .int
  | 4 => .int
  | _ => .int
abbrev wsX60 : List Cond := u_ws RX6 TX6 6
theorem nmX6 : ∀ a, a < 6 → ∀ b, b < 6 → a ≠ b → (TX6 a).2.1 ≠ (TX6 b).2.1 := by decide +kernel
theorem tyX6_ok : ∀ k, k < 6 → parseFieldDescriptor (TX6 k).2.2.1 = some (tyX6 k) := by decide +kernel
abbrev cX6_init : ByteArray := prog_8_method_1_code
def yX6_init : MethodName := ⟨RX6, "<init>", "(IIIIII)V"⟩
abbrev cX6_startsAt : ByteArray := prog_8_method_2_code
def yX6_startsAt : MethodName := ⟨RX6, "startsAt", "(I)Z"⟩
abbrev cX6_otherEnd : ByteArray := prog_8_method_3_code
def yX6_otherEnd : MethodName := ⟨RX6, "otherEnd", "(I)I"⟩
abbrev cX6_isOpenOn : ByteArray := prog_8_method_4_code
def yX6_isOpenOn : MethodName := ⟨RX6, "isOpenOn", "(I)Z"⟩
def RX7 : String := "FurPosts"
def TX7 : u_T := fun k => match k with
  | 0 => ("FurPosts", "posts", "[LFurPosts$Post;", true)
  | 1 => ("FurPosts", "ways", "[LFurPosts$Way;", true)
  | 2 => ("FurPosts", "canoes", "[LFurPosts$Canoe;", true)
  | 3 => ("FurPosts", "letters", "[LFurPosts$Letter;", true)
  | 4 => ("FurPosts", "distances", "[[I", true)
  | 5 => ("FurPosts", "wants", "[[I", true)
  | 6 => ("FurPosts", "tallies", "[[I", true)
  | 7 => ("FurPosts", "loaded", "[I", true)
  | 8 => ("FurPosts", "now", "I", false)
  | 9 => ("FurPosts", "postCount", "I", false)
  | 10 => ("FurPosts", "wayCount", "I", false)
  | 11 => ("FurPosts", "canoeCount", "I", false)
  | 12 => ("FurPosts", "letterCount", "I", false)
  | _ => ("FurPosts", "debtsLost", "I", false)
def tyX7 : Nat → FieldType := fun k => match k with
  | 0 => .array (.object "FurPosts$Post")
  | 1 => .array (.object "FurPosts$Way")
  | 2 => .array (.object "FurPosts$Canoe")
  | 3 => .array (.object "FurPosts$Letter")
  | 4 => .array (.array .int)
  | 5 => .array (.array .int)
  | 6 => .array (.array .int)
  | 7 => .array .int
  | 8 => .int
  | 9 => .int
  | 10 => .int
  | 11 => .int
  | 12 => .int
  | _ => .int
abbrev wsX70 : List Cond := u_ws RX7 TX7 14
theorem nmX7 : ∀ a, a < 14 → ∀ b, b < 14 → a ≠ b → (TX7 a).2.1 ≠ (TX7 b).2.1 := by decide +kernel
theorem tyX7_ok : ∀ k, k < 14 → parseFieldDescriptor (TX7 k).2.2.1 = some (tyX7 k) := by decide +kernel
abbrev cX7_init : ByteArray := prog_1_method_1_code
def yX7_init : MethodName := ⟨RX7, "<init>", "()V"⟩
abbrev cX7_post : ByteArray := prog_1_method_2_code
def yX7_post : MethodName := ⟨RX7, "post", "()I"⟩
abbrev cX7_way : ByteArray := prog_1_method_3_code
def yX7_way : MethodName := ⟨RX7, "way", "(IIII)I"⟩
abbrev cX7_next : ByteArray := prog_1_method_4_code
def yX7_next : MethodName := ⟨RX7, "next", "(II)I"⟩
abbrev cX7_shortenDistances : ByteArray := prog_1_method_5_code
def yX7_shortenDistances : MethodName := ⟨RX7, "shortenDistances", "(II)V"⟩
abbrev cX7_store : ByteArray := prog_1_method_6_code
def yX7_store : MethodName := ⟨RX7, "store", "(III)I"⟩
abbrev cX7_load : ByteArray := prog_1_method_7_code
def yX7_load : MethodName := ⟨RX7, "load", "(II)Z"⟩
abbrev cX7_send : ByteArray := prog_1_method_8_code
def yX7_send : MethodName := ⟨RX7, "send", "(II)I"⟩
abbrev cX7_lose : ByteArray := prog_1_method_9_code
def yX7_lose : MethodName := ⟨RX7, "lose", "(I)I"⟩
abbrev cX7_spoil : ByteArray := prog_1_method_10_code
def yX7_spoil : MethodName := ⟨RX7, "spoil", "(III)Z"⟩
abbrev cX7_go : ByteArray := prog_1_method_11_code
def yX7_go : MethodName := ⟨RX7, "go", "(I)I"⟩
abbrev cX7_canLoad : ByteArray := prog_1_method_12_code
def yX7_canLoad : MethodName := ⟨RX7, "canLoad", "(LFurPosts$Post;LFurPosts$Way;)Z"⟩
abbrev cX7_takeLetters : ByteArray := prog_1_method_13_code
def yX7_takeLetters : MethodName := ⟨RX7, "takeLetters", "(ILFurPosts$Canoe;)I"⟩
abbrev cX7_loseLetters : ByteArray := prog_1_method_14_code
def yX7_loseLetters : MethodName := ⟨RX7, "loseLetters", "(I)V"⟩
abbrev cX7_moveCanoe : ByteArray := prog_1_method_15_code
def yX7_moveCanoe : MethodName := ⟨RX7, "moveCanoe", "(I)V"⟩
abbrev cX7_landCanoe : ByteArray := prog_1_method_16_code
def yX7_landCanoe : MethodName := ⟨RX7, "landCanoe", "(LFurPosts$Canoe;LFurPosts$Post;)V"⟩
abbrev cX7_landLetters : ByteArray := prog_1_method_17_code
def yX7_landLetters : MethodName := ⟨RX7, "landLetters", "(IILFurPosts$Post;)V"⟩
abbrev cX7_sell : ByteArray := prog_1_method_18_code
def yX7_sell : MethodName := ⟨RX7, "sell", "(IIII)I"⟩
abbrev cX7_buy : ByteArray := prog_1_method_19_code
def yX7_buy : MethodName := ⟨RX7, "buy", "(IIII)I"⟩
abbrev cX7_give : ByteArray := prog_1_method_20_code
def yX7_give : MethodName := ⟨RX7, "give", "(IIII)I"⟩
abbrev cX7_owes : ByteArray := prog_1_method_21_code
def yX7_owes : MethodName := ⟨RX7, "owes", "(II)I"⟩
abbrev cX7_price : ByteArray := prog_1_method_22_code
def yX7_price : MethodName := ⟨RX7, "price", "(II)I"⟩
abbrev cX7_isTrade : ByteArray := prog_1_method_23_code
def yX7_isTrade : MethodName := ⟨RX7, "isTrade", "(III)Z"⟩
abbrev cX7_order : ByteArray := prog_1_method_24_code
def yX7_order : MethodName := ⟨RX7, "order", "(IIII)I"⟩
abbrev cX7_debt : ByteArray := prog_1_method_25_code
def yX7_debt : MethodName := ⟨RX7, "debt", "(III)I"⟩
abbrev cX7_report : ByteArray := prog_1_method_26_code
def yX7_report : MethodName := ⟨RX7, "report", "(II)I"⟩
abbrev cX7_known : ByteArray := prog_1_method_27_code
def yX7_known : MethodName := ⟨RX7, "known", "(III)I"⟩
abbrev cX7_knownDay : ByteArray := prog_1_method_28_code
def yX7_knownDay : MethodName := ⟨RX7, "knownDay", "(II)I"⟩
abbrev cX7_canWrite : ByteArray := prog_1_method_29_code
def yX7_canWrite : MethodName := ⟨RX7, "canWrite", "(II)Z"⟩
abbrev cX7_putInBag : ByteArray := prog_1_method_30_code
def yX7_putInBag : MethodName := ⟨RX7, "putInBag", "(LFurPosts$Letter;)I"⟩
abbrev cX7_want : ByteArray := prog_1_method_31_code
def yX7_want : MethodName := ⟨RX7, "want", "(III)Z"⟩
abbrev cX7_indent : ByteArray := prog_1_method_32_code
def yX7_indent : MethodName := ⟨RX7, "indent", "(IIII)I"⟩
abbrev cX7_cost : ByteArray := prog_1_method_33_code
def yX7_cost : MethodName := ⟨RX7, "cost", "(IIIII)I"⟩
abbrev cX7_areWantsRight : ByteArray := prog_1_method_34_code
def yX7_areWantsRight : MethodName := ⟨RX7, "areWantsRight", "(I)Z"⟩
abbrev cX7_quarrel : ByteArray := prog_1_method_35_code
def yX7_quarrel : MethodName := ⟨RX7, "quarrel", "(II)I"⟩
abbrev cX7_canoe : ByteArray := prog_1_method_36_code
def yX7_canoe : MethodName := ⟨RX7, "canoe", "(II)I"⟩
abbrev cX7_told : ByteArray := prog_1_method_37_code
def yX7_told : MethodName := ⟨RX7, "told", "(II)I"⟩
abbrev cX7_count : ByteArray := prog_1_method_38_code
def yX7_count : MethodName := ⟨RX7, "count", "(II)I"⟩
abbrev cX7_countBag : ByteArray := prog_1_method_39_code
def yX7_countBag : MethodName := ⟨RX7, "countBag", "(I)I"⟩
abbrev cX7_countOfAll : ByteArray := prog_1_method_40_code
def yX7_countOfAll : MethodName := ⟨RX7, "countOfAll", "(I)I"⟩
abbrev cX7_isWithin : ByteArray := prog_1_method_41_code
def yX7_isWithin : MethodName := ⟨RX7, "isWithin", "(III)Z"⟩
abbrev cX7_isWare : ByteArray := prog_1_method_42_code
def yX7_isWare : MethodName := ⟨RX7, "isWare", "(I)Z"⟩
abbrev cX7_isHunter : ByteArray := prog_1_method_43_code
def yX7_isHunter : MethodName := ⟨RX7, "isHunter", "(I)Z"⟩
abbrev cX7_areTwoPosts : ByteArray := prog_1_method_44_code
def yX7_areTwoPosts : MethodName := ⟨RX7, "areTwoPosts", "(II)Z"⟩
abbrev cX7_postAt : ByteArray := prog_1_method_45_code
def yX7_postAt : MethodName := ⟨RX7, "postAt", "(I)LFurPosts$Post;"⟩
abbrev cX7_wayAt : ByteArray := prog_1_method_46_code
def yX7_wayAt : MethodName := ⟨RX7, "wayAt", "(I)LFurPosts$Way;"⟩
abbrev cX7_canoeAt : ByteArray := prog_1_method_47_code
def yX7_canoeAt : MethodName := ⟨RX7, "canoeAt", "(I)LFurPosts$Canoe;"⟩
abbrev cX7_letterAt : ByteArray := prog_1_method_48_code
def yX7_letterAt : MethodName := ⟨RX7, "letterAt", "(I)LFurPosts$Letter;"⟩
def RX8 : String := "FurPostsModel"
def TX8 : u_T := fun k => match k with
  | 0 => ("FurPostsModel", "now", "I", false)
  | 1 => ("FurPostsModel", "posts", "I", false)
  | 2 => ("FurPostsModel", "store", "[I", true)
  | 3 => ("FurPostsModel", "price", "[I", true)
  | 4 => ("FurPostsModel", "owes", "[I", true)
  | 5 => ("FurPostsModel", "ways", "I", false)
  | 6 => ("FurPostsModel", "wayA", "[I", true)
  | 7 => ("FurPostsModel", "wayB", "[I", true)
  | 8 => ("FurPostsModel", "wayLong", "[I", true)
  | 9 => ("FurPostsModel", "opens", "[I", true)
  | 10 => ("FurPostsModel", "shuts", "[I", true)
  | 11 => ("FurPostsModel", "bears", "[I", true)
  | 12 => ("FurPostsModel", "loaded", "[I", true)
  | 13 => ("FurPostsModel", "canoes", "I", false)
  | 14 => ("FurPostsModel", "from", "[I", true)
  | 15 => ("FurPostsModel", "to", "[I", true)
  | 16 => ("FurPostsModel", "wayOf", "[I", true)
  | 17 => ("FurPostsModel", "toGo", "[I", true)
  | 18 => ("FurPostsModel", "state", "[I", true)
  | 19 => ("FurPostsModel", "sentOn", "[I", true)
  | 20 => ("FurPostsModel", "cameOn", "[I", true)
  | 21 => ("FurPostsModel", "withLetters", "[I", true)
  | 22 => ("FurPostsModel", "has", "[I", true)
  | 23 => ("FurPostsModel", "sent", "[I", true)
  | 24 => ("FurPostsModel", "isOther", "[Z", true)
  | 25 => ("FurPostsModel", "letters", "I", false)
  | 26 => ("FurPostsModel", "letterKind", "[I", true)
  | 27 => ("FurPostsModel", "letterTo", "[I", true)
  | 28 => ("FurPostsModel", "letterAt", "[I", true)
  | 29 => ("FurPostsModel", "letterOne", "[I", true)
  | 30 => ("FurPostsModel", "letterTwo", "[I", true)
  | 31 => ("FurPostsModel", "letterStore", "[I", true)
  | 32 => ("FurPostsModel", "reported", "[I", true)
  | 33 => ("FurPostsModel", "parts", "[I", true)
  | 34 => ("FurPostsModel", "sums", "[I", true)
  | 35 => ("FurPostsModel", "debtsLost", "I", false)
  | _ => ("FurPostsModel", "far", "[I", true)
def tyX8 : Nat → FieldType := fun k => match k with
  | 0 => .int
  | 1 => .int
  | 2 => .array .int
  | 3 => .array .int
  | 4 => .array .int
  | 5 => .int
  | 6 => .array .int
  | 7 => .array .int
  | 8 => .array .int
  | 9 => .array .int
  | 10 => .array .int
  | 11 => .array .int
  | 12 => .array .int
  | 13 => .int
  | 14 => .array .int
  | 15 => .array .int
  | 16 => .array .int
  | 17 => .array .int
  | 18 => .array .int
  | 19 => .array .int
  | 20 => .array .int
  | 21 => .array .int
  | 22 => .array .int
  | 23 => .array .int
  | 24 => .array .boolean
  | 25 => .int
  | 26 => .array .int
  | 27 => .array .int
  | 28 => .array .int
  | 29 => .array .int
  | 30 => .array .int
  | 31 => .array .int
  | 32 => .array .int
  | 33 => .array .int
  | 34 => .array .int
  | 35 => .int
  | _ => .array .int
abbrev wsX80 : List Cond := u_ws RX8 TX8 37
theorem nmX8 : ∀ a, a < 37 → ∀ b, b < 37 → a ≠ b → (TX8 a).2.1 ≠ (TX8 b).2.1 := by decide +kernel
theorem tyX8_ok : ∀ k, k < 37 → parseFieldDescriptor (TX8 k).2.2.1 = some (tyX8 k) := by decide +kernel
abbrev cX8_init : ByteArray := prog_10_method_1_code
def yX8_init : MethodName := ⟨RX8, "<init>", "()V"⟩
abbrev cX8_in : ByteArray := prog_10_method_2_code
def yX8_in : MethodName := ⟨RX8, "in", "(III)Z"⟩
abbrev cX8_isPost : ByteArray := prog_10_method_3_code
def yX8_isPost : MethodName := ⟨RX8, "isPost", "(I)Z"⟩
abbrev cX8_isWare : ByteArray := prog_10_method_4_code
def yX8_isWare : MethodName := ⟨RX8, "isWare", "(I)Z"⟩
abbrev cX8_isCanoe : ByteArray := prog_10_method_5_code
def yX8_isCanoe : MethodName := ⟨RX8, "isCanoe", "(I)Z"⟩
abbrev cX8_post : ByteArray := prog_10_method_6_code
def yX8_post : MethodName := ⟨RX8, "post", "()I"⟩
abbrev cX8_between : ByteArray := prog_10_method_7_code
def yX8_between : MethodName := ⟨RX8, "between", "(II)I"⟩
abbrev cX8_way : ByteArray := prog_10_method_8_code
def yX8_way : MethodName := ⟨RX8, "way", "(IIII)I"⟩
abbrev cX8_isOpen : ByteArray := prog_10_method_9_code
def yX8_isOpen : MethodName := ⟨RX8, "isOpen", "(II)Z"⟩
abbrev cX8_stored : ByteArray := prog_10_method_10_code
def yX8_stored : MethodName := ⟨RX8, "stored", "(II)I"⟩
abbrev cX8_sums : ByteArray := prog_10_method_11_code
def yX8_sums : MethodName := ⟨RX8, "sums", "(III)V"⟩
abbrev cX8_store : ByteArray := prog_10_method_12_code
def yX8_store : MethodName := ⟨RX8, "store", "(III)I"⟩
abbrev cX8_load : ByteArray := prog_10_method_13_code
def yX8_load : MethodName := ⟨RX8, "load", "(II)Z"⟩
abbrev cX8_send : ByteArray := prog_10_method_14_code
def yX8_send : MethodName := ⟨RX8, "send", "(II)I"⟩
abbrev cX8_isAway : ByteArray := prog_10_method_15_code
def yX8_isAway : MethodName := ⟨RX8, "isAway", "(I)Z"⟩
abbrev cX8_lose : ByteArray := prog_10_method_16_code
def yX8_lose : MethodName := ⟨RX8, "lose", "(I)I"⟩
abbrev cX8_spoil : ByteArray := prog_10_method_17_code
def yX8_spoil : MethodName := ⟨RX8, "spoil", "(III)Z"⟩
abbrev cX8_comes : ByteArray := prog_10_method_18_code
def yX8_comes : MethodName := ⟨RX8, "comes", "(I)V"⟩
abbrev cX8_reads : ByteArray := prog_10_method_19_code
def yX8_reads : MethodName := ⟨RX8, "reads", "(I)V"⟩
abbrev cX8_go : ByteArray := prog_10_method_20_code
def yX8_go : MethodName := ⟨RX8, "go", "(I)I"⟩
abbrev cX8_isDeal : ByteArray := prog_10_method_21_code
def yX8_isDeal : MethodName := ⟨RX8, "isDeal", "(IIII)Z"⟩
abbrev cX8_sell : ByteArray := prog_10_method_22_code
def yX8_sell : MethodName := ⟨RX8, "sell", "(IIII)I"⟩
abbrev cX8_buy : ByteArray := prog_10_method_23_code
def yX8_buy : MethodName := ⟨RX8, "buy", "(IIII)I"⟩
abbrev cX8_give : ByteArray := prog_10_method_24_code
def yX8_give : MethodName := ⟨RX8, "give", "(IIII)I"⟩
abbrev cX8_owes : ByteArray := prog_10_method_25_code
def yX8_owes : MethodName := ⟨RX8, "owes", "(II)I"⟩
abbrev cX8_price : ByteArray := prog_10_method_26_code
def yX8_price : MethodName := ⟨RX8, "price", "(II)I"⟩
abbrev cX8_canWrite : ByteArray := prog_10_method_27_code
def yX8_canWrite : MethodName := ⟨RX8, "canWrite", "(II)Z"⟩
abbrev cX8_writes : ByteArray := prog_10_method_28_code
def yX8_writes : MethodName := ⟨RX8, "writes", "(IIIII)I"⟩
abbrev cX8_order : ByteArray := prog_10_method_29_code
def yX8_order : MethodName := ⟨RX8, "order", "(IIII)I"⟩
abbrev cX8_debt : ByteArray := prog_10_method_30_code
def yX8_debt : MethodName := ⟨RX8, "debt", "(III)I"⟩
abbrev cX8_report : ByteArray := prog_10_method_31_code
def yX8_report : MethodName := ⟨RX8, "report", "(II)I"⟩
abbrev cX8_known : ByteArray := prog_10_method_32_code
def yX8_known : MethodName := ⟨RX8, "known", "(III)I"⟩
abbrev cX8_knownDay : ByteArray := prog_10_method_33_code
def yX8_knownDay : MethodName := ⟨RX8, "knownDay", "(II)I"⟩
abbrev cX8_next : ByteArray := prog_10_method_34_code
def yX8_next : MethodName := ⟨RX8, "next", "(II)I"⟩
abbrev cX8_want : ByteArray := prog_10_method_35_code
def yX8_want : MethodName := ⟨RX8, "want", "(III)Z"⟩
abbrev cX8_cost : ByteArray := prog_10_method_36_code
def yX8_cost : MethodName := ⟨RX8, "cost", "(IIIII)I"⟩
abbrev cX8_indent : ByteArray := prog_10_method_37_code
def yX8_indent : MethodName := ⟨RX8, "indent", "(IIII)I"⟩
abbrev cX8_quarrel : ByteArray := prog_10_method_38_code
def yX8_quarrel : MethodName := ⟨RX8, "quarrel", "(II)I"⟩
abbrev cX8_canoe : ByteArray := prog_10_method_39_code
def yX8_canoe : MethodName := ⟨RX8, "canoe", "(II)I"⟩
abbrev cX8_told : ByteArray := prog_10_method_40_code
def yX8_told : MethodName := ⟨RX8, "told", "(II)I"⟩
abbrev cX8_count : ByteArray := prog_10_method_41_code
def yX8_count : MethodName := ⟨RX8, "count", "(II)I"⟩
def RJx8e188 : String := "java/lang/Cloneable"
def TJx8e188 : u_T := fun k => match k with
  | _ => ("", "", "", false)
def tyJx8e188 : Nat → FieldType := fun k => match k with
  | _ => .int
abbrev wsJx8e1880 : List Cond := u_ws RJx8e188 TJx8e188 0
theorem nmJx8e188 : ∀ a, a < 0 → ∀ b, b < 0 → a ≠ b → (TJx8e188 a).2.1 ≠ (TJx8e188 b).2.1 := by decide +kernel
theorem tyJx8e188_ok : ∀ k, k < 0 → parseFieldDescriptor (TJx8e188 k).2.2.1 = some (tyJx8e188 k) := by decide +kernel
def RJ9 : String := "java/lang/Math"
def TJ9 : u_T := fun k => match k with
  | _ => ("", "", "", false)
def tyJ9 : Nat → FieldType := fun k => match k with
  | _ => .int
abbrev wsJ90 : List Cond := u_ws RJ9 TJ9 0
theorem nmJ9 : ∀ a, a < 0 → ∀ b, b < 0 → a ≠ b → (TJ9 a).2.1 ≠ (TJ9 b).2.1 := by decide +kernel
theorem tyJ9_ok : ∀ k, k < 0 → parseFieldDescriptor (TJ9 k).2.2.1 = some (tyJ9 k) := by decide +kernel
abbrev cJ9_min_7cf53 : ByteArray := prog_12_method_69_code
def yJ9_min_7cf53 : MethodName := ⟨RJ9, "min", "(II)I"⟩
def RJ7 : String := "java/util/Arrays"
def TJ7 : u_T := fun k => match k with
  | _ => ("", "", "", false)
def tyJ7 : Nat → FieldType := fun k => match k with
  | _ => .int
abbrev wsJ70 : List Cond := u_ws RJ7 TJ7 0
theorem nmJ7 : ∀ a, a < 0 → ∀ b, b < 0 → a ≠ b → (TJ7 a).2.1 ≠ (TJ7 b).2.1 := by decide +kernel
theorem tyJ7_ok : ∀ k, k < 0 → parseFieldDescriptor (TJ7 k).2.2.1 = some (tyJ7 k) := by decide +kernel
abbrev cJ7_fill_53178 : ByteArray := prog_13_method_103_code
def yJ7_fill_53178 : MethodName := ⟨RJ7, "fill", "([II)V"⟩
def RL : String := "FurPostsLaw"
abbrev cL_law : ByteArray := code
def yL_law : MethodName := ⟨RL, "law", "([I)Z"⟩
def wsX0_init : List Cond := .code yX0_init cX0_init 7 none :: ([.methodLink RX0 3 objectInit, .instanceMethod objectInit, .code objectInit ⟨#[0xb1]⟩ 1 none, .fieldLink RX0 9 "FurPosts$Canoe" "dayCame" "I", .fieldLink RX0 15 "FurPosts$Canoe" "state" "I", .fieldLink RX0 18 "FurPosts$Canoe" "from" "I", .fieldLink RX0 21 "FurPosts$Canoe" "to" "I", .fieldLink RX0 24 "FurPosts$Canoe" "way" "I", .fieldLink RX0 27 "FurPosts$Canoe" "daysToGo" "I", .fieldLink RX0 30 "FurPosts$Canoe" "daySent" "I", .fieldLink RX0 33 "FurPosts$Canoe" "waresSent" "[I", .methodLink RX0 37 ⟨"[I", "clone", "()Ljava/lang/Object;"⟩, .sameMethod "[I" "java/lang/Object" "clone" "()Ljava/lang/Object;", .native ⟨"java/lang/Object", "clone", "()Ljava/lang/Object;"⟩, .instanceMethod ⟨"java/lang/Object", "clone", "()Ljava/lang/Object;"⟩, .selects "[I" ⟨"[I", "clone", "()Ljava/lang/Object;"⟩ ⟨"java/lang/Object", "clone", "()Ljava/lang/Object;"⟩, .classLink RX0 38 "[I", .fieldLink RX0 42 "FurPosts$Canoe" "wares" "[I"] ++ wsX00)
def wsX0_isBetween : List Cond := .code yX0_isBetween cX0_isBetween 3 (some .boolean) :: ([.fieldLink RX0 18 "FurPosts$Canoe" "from" "I", .fieldLink RX0 21 "FurPosts$Canoe" "to" "I"] ++ wsX00)
def wsX0_partsBooks : List Cond := .code yX0_partsBooks cX0_partsBooks 1 (some .boolean) :: ([.fieldLink RX0 15 "FurPosts$Canoe" "state" "I", .fieldLink RX0 45 "FurPosts$Canoe" "spoilt" "Z"] ++ wsX00)
def wsX2_init : List Cond := .code yX2_init cX2_init 3 none :: ([.methodLink RX2 3 objectInit, .instanceMethod objectInit, .code objectInit ⟨#[0xb1]⟩ 1 none, .fieldLink RX2 9 "FurPosts$Letter" "carrier" "I", .fieldLink RX2 15 "FurPosts$Letter" "from" "I", .fieldLink RX2 18 "FurPosts$Letter" "to" "I", .fieldLink RX2 21 "FurPosts$Letter" "bag" "I"] ++ wsX10 ++ wsX30 ++ wsX50)
def wsX1_init : List Cond := .code yX1_init cX1_init 5 none :: ([.fieldLink RX1 7 "FurPosts$Debt" "hunter" "I", .fieldLink RX1 13 "FurPosts$Debt" "coins" "I", .methodLink RX1 1 yX2_init, .instanceMethod yX2_init, .initialized RX2, .code yX2_init cX2_init 3 none, .methodLink RX2 3 objectInit, .instanceMethod objectInit, .code objectInit ⟨#[0xb1]⟩ 1 none, .fieldLink RX2 9 "FurPosts$Letter" "carrier" "I", .fieldLink RX2 15 "FurPosts$Letter" "from" "I", .fieldLink RX2 18 "FurPosts$Letter" "to" "I", .fieldLink RX2 21 "FurPosts$Letter" "bag" "I"] ++ wsX10 ++ wsX30 ++ wsX50)
def wsX7_isHunter : List Cond := .code yX7_isHunter cX7_isHunter 1 (some .boolean) :: ([])
def wsX1_readAt : List Cond := .code yX1_readAt cX1_readAt 2 none :: ([.fieldLink RX1 7 "FurPosts$Debt" "hunter" "I", .fieldLink RX1 22 "FurPosts$Post" "owed" "[I", .fieldLink RX1 13 "FurPosts$Debt" "coins" "I", .static yX7_isHunter, .initialized RX7, .code yX7_isHunter cX7_isHunter 1 (some .boolean)] ++ wsX10 ++ wsX40)
def wsX3_init : List Cond := .code yX3_init cX3_init 5 none :: ([.fieldLink RX3 7 "FurPosts$Order" "ware" "I", .fieldLink RX3 13 "FurPosts$Order" "asked" "I", .methodLink RX3 1 yX2_init, .instanceMethod yX2_init, .initialized RX2, .code yX2_init cX2_init 3 none, .methodLink RX2 3 objectInit, .instanceMethod objectInit, .code objectInit ⟨#[0xb1]⟩ 1 none, .fieldLink RX2 9 "FurPosts$Letter" "carrier" "I", .fieldLink RX2 15 "FurPosts$Letter" "from" "I", .fieldLink RX2 18 "FurPosts$Letter" "to" "I", .fieldLink RX2 21 "FurPosts$Letter" "bag" "I"] ++ wsX30 ++ wsX10 ++ wsX50)
def wsX7_isWare : List Cond := .code yX7_isWare cX7_isWare 1 (some .boolean) :: ([])
def wsX3_readAt : List Cond := .code yX3_readAt cX3_readAt 2 none :: ([.fieldLink RX3 7 "FurPosts$Order" "ware" "I", .fieldLink RX3 22 "FurPosts$Post" "prices" "[I", .fieldLink RX3 13 "FurPosts$Order" "asked" "I", .static yX7_isWare, .initialized RX7, .code yX7_isWare cX7_isWare 1 (some .boolean)] ++ wsX30 ++ wsX40)
def wsJ7_fill_53178 : List Cond := .code yJ7_fill_53178 cJ7_fill_53178 4 none :: ([])
def wsX4_init : List Cond := .code yX4_init cX4_init 1 none :: ([.methodLink RX4 3 objectInit, .instanceMethod objectInit, .code objectInit ⟨#[0xb1]⟩ 1 none, .arrayClass .int, .fieldLink RX4 9 "FurPosts$Post" "stock" "[I", .fieldLink RX4 15 "FurPosts$Post" "prices" "[I", .fieldLink RX4 18 "FurPosts$Post" "owed" "[I", .classLink RX4 21 RX5, .fieldLink RX4 23 "FurPosts$Post" "reports" "[LFurPosts$Report;", .methodLink RX4 27 yJ7_fill_53178, .static yJ7_fill_53178, .initialized RJ7, .code yJ7_fill_53178 cJ7_fill_53178 4 none] ++ wsX40)
def wsX4_reportOf : List Cond := .code yX4_reportOf cX4_reportOf 2 (some (.object "FurPosts$Report")) :: ([.fieldLink RX4 23 "FurPosts$Post" "reports" "[LFurPosts$Report;"] ++ wsX40)
def wsX4_owedByAll : List Cond := .code yX4_owedByAll cX4_owedByAll 3 (some .int) :: ([.fieldLink RX4 18 "FurPosts$Post" "owed" "[I"] ++ wsX40)
def wsX5_init : List Cond := .code yX5_init cX5_init 5 none :: ([.fieldLink RX5 9 "FurPosts$Report" "day" "I", .fieldLink RX5 15 "FurPosts$Report" "stock" "[I", .methodLink RX5 3 yX2_init, .instanceMethod yX2_init, .initialized RX2, .code yX2_init cX2_init 3 none, .methodLink RX2 3 objectInit, .instanceMethod objectInit, .code objectInit ⟨#[0xb1]⟩ 1 none, .fieldLink RX2 9 "FurPosts$Letter" "carrier" "I", .fieldLink RX2 15 "FurPosts$Letter" "from" "I", .fieldLink RX2 18 "FurPosts$Letter" "to" "I", .fieldLink RX2 21 "FurPosts$Letter" "bag" "I"] ++ wsX50 ++ wsX10 ++ wsX30)
def wsX5_readAt : List Cond := .code yX5_readAt cX5_readAt 3 none :: ([.fieldLink RX5 19 "FurPosts$Report" "from" "I", .sameField "FurPosts$Report" "FurPosts$Letter" "from" "I", .fieldLink RX5 9 "FurPosts$Report" "day" "I", .fieldLink RX5 28 "FurPosts$Post" "reports" "[LFurPosts$Report;", .methodLink RX5 22 yX4_reportOf, .instanceMethod yX4_reportOf, .selects RX4 yX4_reportOf yX4_reportOf, .initialized RX4, .code yX4_reportOf cX4_reportOf 2 (some (.object "FurPosts$Report")), .fieldLink RX4 23 "FurPosts$Post" "reports" "[LFurPosts$Report;"] ++ wsX10 ++ wsX30 ++ wsX50 ++ wsX40)
def wsX6_init : List Cond := .code yX6_init cX6_init 7 none :: ([.methodLink RX6 3 objectInit, .instanceMethod objectInit, .code objectInit ⟨#[0xb1]⟩ 1 none, .fieldLink RX6 9 "FurPosts$Way" "a" "I", .fieldLink RX6 15 "FurPosts$Way" "b" "I", .fieldLink RX6 18 "FurPosts$Way" "days" "I", .fieldLink RX6 21 "FurPosts$Way" "firstOpen" "I", .fieldLink RX6 24 "FurPosts$Way" "lastOpen" "I", .fieldLink RX6 27 "FurPosts$Way" "bears" "I"] ++ wsX60)
def wsX6_startsAt : List Cond := .code yX6_startsAt cX6_startsAt 2 (some .boolean) :: ([.fieldLink RX6 9 "FurPosts$Way" "a" "I", .fieldLink RX6 15 "FurPosts$Way" "b" "I"] ++ wsX60)
def wsX6_otherEnd : List Cond := .code yX6_otherEnd cX6_otherEnd 2 (some .int) :: ([.fieldLink RX6 9 "FurPosts$Way" "a" "I", .fieldLink RX6 15 "FurPosts$Way" "b" "I"] ++ wsX60)
def wsX7_isWithin : List Cond := .code yX7_isWithin cX7_isWithin 3 (some .boolean) :: ([])
def wsX6_isOpenOn : List Cond := .code yX6_isOpenOn cX6_isOpenOn 2 (some .boolean) :: ([.fieldLink RX6 21 "FurPosts$Way" "firstOpen" "I", .fieldLink RX6 24 "FurPosts$Way" "lastOpen" "I", .static yX7_isWithin, .initialized RX7, .code yX7_isWithin cX7_isWithin 3 (some .boolean)] ++ wsX60)
def wsX7_init : List Cond := .code yX7_init cX7_init 2 none :: ([.methodLink RX7 1 objectInit, .instanceMethod objectInit, .code objectInit ⟨#[0xb1]⟩ 1 none, .classLink RX7 9 RX4, .fieldLink RX7 11 "FurPosts" "posts" "[LFurPosts$Post;", .classLink RX7 15 RX6, .fieldLink RX7 17 "FurPosts" "ways" "[LFurPosts$Way;", .classLink RX7 21 RX0, .fieldLink RX7 23 "FurPosts" "canoes" "[LFurPosts$Canoe;", .classLink RX7 27 RX2, .fieldLink RX7 29 "FurPosts" "letters" "[LFurPosts$Letter;", .classLink RX7 33 "[[I", .arrayClass .int, .fieldLink RX7 35 "FurPosts" "distances" "[[I", .fieldLink RX7 38 "FurPosts" "wants" "[[I", .fieldLink RX7 41 "FurPosts" "tallies" "[[I", .fieldLink RX7 44 "FurPosts" "loaded" "[I", .methodLink RX7 48 yJ7_fill_53178, .static yJ7_fill_53178, .initialized RJ7, .code yJ7_fill_53178 cJ7_fill_53178 4 none] ++ wsX70)
def wsX7_post : List Cond := .code yX7_post cX7_post 1 (some .int) :: ([.fieldLink RX7 54 "FurPosts" "postCount" "I", .fieldLink RX7 11 "FurPosts" "posts" "[LFurPosts$Post;", .classLink RX7 9 RX4, .instantiable RX4 4, .initialized RX4, .methodLink RX7 58 yX4_init, .instanceMethod yX4_init, .code yX4_init cX4_init 1 none, .methodLink RX4 3 objectInit, .instanceMethod objectInit, .code objectInit ⟨#[0xb1]⟩ 1 none, .arrayClass .int, .fieldLink RX4 9 "FurPosts$Post" "stock" "[I", .fieldLink RX4 15 "FurPosts$Post" "prices" "[I", .fieldLink RX4 18 "FurPosts$Post" "owed" "[I", .classLink RX4 21 RX5, .fieldLink RX4 23 "FurPosts$Post" "reports" "[LFurPosts$Report;", .methodLink RX4 27 yJ7_fill_53178, .static yJ7_fill_53178, .initialized RJ7, .code yJ7_fill_53178 cJ7_fill_53178 4 none] ++ wsX70 ++ wsX40)
def wsX7_postAt : List Cond := .code yX7_postAt cX7_postAt 2 (some (.object "FurPosts$Post")) :: ([.fieldLink RX7 11 "FurPosts" "posts" "[LFurPosts$Post;"] ++ wsX70)
def wsX7_areTwoPosts : List Cond := .code yX7_areTwoPosts cX7_areTwoPosts 3 (some .boolean) :: ([.methodLink RX7 84 yX7_postAt, .instanceMethod yX7_postAt, .selects RX7 yX7_postAt yX7_postAt, .initialized RX7, .code yX7_postAt cX7_postAt 2 (some (.object "FurPosts$Post")), .fieldLink RX7 11 "FurPosts" "posts" "[LFurPosts$Post;"] ++ wsX70)
def wsX7_shortenDistances : List Cond := .code yX7_shortenDistances cX7_shortenDistances 7 none :: ([.fieldLink RX7 35 "FurPosts" "distances" "[[I", .methodLink RX7 78 Lib.Math.min.name, .static Lib.Math.min.name, .initialized "java/lang/Math", .code Lib.Math.min.name Lib.Math.min.code 2 (some .int)] ++ wsX70)
def wsX7_way_r1 : List Cond := [Cond.fieldLink RX7 35 "FurPosts" "distances" "[[I", Cond.fieldLink RX7 63 "FurPosts" "wayCount" "I", Cond.constant RX7 70 (1000000), Cond.fieldLink RX7 17 "FurPosts" "ways" "[LFurPosts$Way;", Cond.classLink RX7 15 RX6, Cond.instantiable RX6 6, Cond.initialized RX6, Cond.methodLink RX7 59 yX7_areTwoPosts, Cond.instanceMethod yX7_areTwoPosts, Cond.selects RX7 yX7_areTwoPosts yX7_areTwoPosts, Cond.initialized RX7, Cond.code yX7_areTwoPosts cX7_areTwoPosts 3 (some .boolean), Cond.methodLink RX7 84 yX7_postAt, Cond.instanceMethod yX7_postAt, Cond.selects RX7 yX7_postAt yX7_postAt, Cond.code yX7_postAt cX7_postAt 2 (some (.object "FurPosts$Post")), Cond.fieldLink RX7 11 "FurPosts" "posts" "[LFurPosts$Post;", Cond.methodLink RX7 66 yX7_isWithin, Cond.static yX7_isWithin, Cond.code yX7_isWithin cX7_isWithin 3 (some .boolean), Cond.methodLink RX7 71 yX6_init, Cond.instanceMethod yX6_init, Cond.code yX6_init cX6_init 7 none, Cond.methodLink RX6 3 objectInit]
def wsX7_way_r2 : List Cond := [Cond.instanceMethod objectInit, Cond.code objectInit ⟨#[0xb1]⟩ 1 none, Cond.fieldLink RX6 9 "FurPosts$Way" "a" "I", Cond.fieldLink RX6 15 "FurPosts$Way" "b" "I", Cond.fieldLink RX6 18 "FurPosts$Way" "days" "I", Cond.fieldLink RX6 21 "FurPosts$Way" "firstOpen" "I", Cond.fieldLink RX6 24 "FurPosts$Way" "lastOpen" "I", Cond.fieldLink RX6 27 "FurPosts$Way" "bears" "I", Cond.methodLink RX7 74 yX7_shortenDistances, Cond.instanceMethod yX7_shortenDistances, Cond.selects RX7 yX7_shortenDistances yX7_shortenDistances, Cond.code yX7_shortenDistances cX7_shortenDistances 7 none, Cond.methodLink RX7 78 Lib.Math.min.name, Cond.static Lib.Math.min.name, Cond.initialized "java/lang/Math", Cond.code Lib.Math.min.name Lib.Math.min.code 2 (some .int)]
def wsX7_way : List Cond := .code yX7_way cX7_way 8 (some .int) :: ((wsX7_way_r1 ++ wsX7_way_r2) ++ wsX70 ++ wsX60)
def wsX7_next : List Cond := .code yX7_next cX7_next 4 (some .int) :: ([.fieldLink RX7 35 "FurPosts" "distances" "[[I", .methodLink RX7 59 yX7_areTwoPosts, .instanceMethod yX7_areTwoPosts, .selects RX7 yX7_areTwoPosts yX7_areTwoPosts, .initialized RX7, .code yX7_areTwoPosts cX7_areTwoPosts 3 (some .boolean), .methodLink RX7 84 yX7_postAt, .instanceMethod yX7_postAt, .selects RX7 yX7_postAt yX7_postAt, .code yX7_postAt cX7_postAt 2 (some (.object "FurPosts$Post")), .fieldLink RX7 11 "FurPosts" "posts" "[LFurPosts$Post;"] ++ wsX70)
def wsX7_store : List Cond := .code yX7_store cX7_store 5 (some .int) :: ([.fieldLink RX7 92 "FurPosts$Post" "stock" "[I", .constant RX7 95 (100000), .fieldLink RX7 41 "FurPosts" "tallies" "[[I", .methodLink RX7 84 yX7_postAt, .instanceMethod yX7_postAt, .selects RX7 yX7_postAt yX7_postAt, .initialized RX7, .code yX7_postAt cX7_postAt 2 (some (.object "FurPosts$Post")), .fieldLink RX7 11 "FurPosts" "posts" "[LFurPosts$Post;", .methodLink RX7 88 yX7_isWare, .static yX7_isWare, .code yX7_isWare cX7_isWare 1 (some .boolean), .methodLink RX7 66 yX7_isWithin, .static yX7_isWithin, .code yX7_isWithin cX7_isWithin 3 (some .boolean)] ++ wsX40 ++ wsX70)
def wsX7_load : List Cond := .code yX7_load cX7_load 3 (some .boolean) :: ([.fieldLink RX7 44 "FurPosts" "loaded" "[I", .methodLink RX7 88 yX7_isWare, .static yX7_isWare, .initialized RX7, .code yX7_isWare cX7_isWare 1 (some .boolean), .methodLink RX7 66 yX7_isWithin, .static yX7_isWithin, .code yX7_isWithin cX7_isWithin 3 (some .boolean)] ++ wsX70)
def wsX7_wayAt : List Cond := .code yX7_wayAt cX7_wayAt 2 (some (.object "FurPosts$Way")) :: ([.fieldLink RX7 17 "FurPosts" "ways" "[LFurPosts$Way;"] ++ wsX70)
def wsX7_canLoad : List Cond := .code yX7_canLoad cX7_canLoad 5 (some .boolean) :: ([.fieldLink RX7 44 "FurPosts" "loaded" "[I", .fieldLink RX7 92 "FurPosts$Post" "stock" "[I", .fieldLink RX7 162 "FurPosts$Way" "bears" "I"] ++ wsX70 ++ wsX40 ++ wsX60)
def wsX7_letterAt : List Cond := .code yX7_letterAt cX7_letterAt 2 (some (.object "FurPosts$Letter")) :: ([.fieldLink RX7 29 "FurPosts" "letters" "[LFurPosts$Letter;"] ++ wsX70)
def wsX7_takeLetters_r1 : List Cond := [Cond.fieldLink RX7 165 "FurPosts" "letterCount" "I", Cond.fieldLink RX7 172 "FurPosts$Letter" "bag" "I", Cond.fieldLink RX7 175 "FurPosts$Canoe" "from" "I", Cond.fieldLink RX7 178 "FurPosts$Letter" "to" "I", Cond.fieldLink RX7 184 "FurPosts$Canoe" "to" "I", Cond.fieldLink RX7 185 "FurPosts$Letter" "carrier" "I", Cond.methodLink RX7 168 yX7_letterAt, Cond.instanceMethod yX7_letterAt, Cond.selects RX7 yX7_letterAt yX7_letterAt, Cond.initialized RX7, Cond.code yX7_letterAt cX7_letterAt 2 (some (.object "FurPosts$Letter")), Cond.fieldLink RX7 29 "FurPosts" "letters" "[LFurPosts$Letter;", Cond.methodLink RX7 181 yX7_next, Cond.instanceMethod yX7_next, Cond.selects RX7 yX7_next yX7_next, Cond.code yX7_next cX7_next 4 (some .int), Cond.fieldLink RX7 35 "FurPosts" "distances" "[[I", Cond.methodLink RX7 59 yX7_areTwoPosts, Cond.instanceMethod yX7_areTwoPosts, Cond.selects RX7 yX7_areTwoPosts yX7_areTwoPosts, Cond.code yX7_areTwoPosts cX7_areTwoPosts 3 (some .boolean), Cond.methodLink RX7 84 yX7_postAt, Cond.instanceMethod yX7_postAt, Cond.selects RX7 yX7_postAt yX7_postAt]
def wsX7_takeLetters_r2 : List Cond := [Cond.code yX7_postAt cX7_postAt 2 (some (.object "FurPosts$Post")), Cond.fieldLink RX7 11 "FurPosts" "posts" "[LFurPosts$Post;"]
def wsX7_takeLetters : List Cond := .code yX7_takeLetters cX7_takeLetters 6 (some .int) :: ((wsX7_takeLetters_r1 ++ wsX7_takeLetters_r2) ++ wsX70 ++ wsX10 ++ wsX30 ++ wsX50 ++ wsX00)
def wsX7_send_r1 : List Cond := [Cond.fieldLink RX7 103 "FurPosts" "now" "I", Cond.fieldLink RX7 113 "FurPosts" "canoeCount" "I", Cond.classLink RX7 21 RX0, Cond.instantiable RX0 11, Cond.initialized RX0, Cond.fieldLink RX7 120 "FurPosts$Way" "days" "I", Cond.fieldLink RX7 44 "FurPosts" "loaded" "[I", Cond.methodLink RX7 123 ⟨"[I", "clone", "()Ljava/lang/Object;"⟩, Cond.sameMethod "[I" "java/lang/Object" "clone" "()Ljava/lang/Object;", Cond.native ⟨"java/lang/Object", "clone", "()Ljava/lang/Object;"⟩, Cond.instanceMethod ⟨"java/lang/Object", "clone", "()Ljava/lang/Object;"⟩, Cond.selects "[I" ⟨"[I", "clone", "()Ljava/lang/Object;"⟩ ⟨"java/lang/Object", "clone", "()Ljava/lang/Object;"⟩, Cond.classLink RX7 124 "[I", Cond.fieldLink RX7 23 "FurPosts" "canoes" "[LFurPosts$Canoe;", Cond.fieldLink RX7 92 "FurPosts$Post" "stock" "[I", Cond.fieldLink RX7 135 "FurPosts$Canoe" "lettersSent" "I", Cond.methodLink RX7 84 yX7_postAt, Cond.instanceMethod yX7_postAt, Cond.selects RX7 yX7_postAt yX7_postAt, Cond.initialized RX7, Cond.code yX7_postAt cX7_postAt 2 (some (.object "FurPosts$Post")), Cond.fieldLink RX7 11 "FurPosts" "posts" "[LFurPosts$Post;", Cond.methodLink RX7 96 yX7_wayAt, Cond.instanceMethod yX7_wayAt]
def wsX7_send_r2 : List Cond := [Cond.selects RX7 yX7_wayAt yX7_wayAt, Cond.code yX7_wayAt cX7_wayAt 2 (some (.object "FurPosts$Way")), Cond.fieldLink RX7 17 "FurPosts" "ways" "[LFurPosts$Way;", Cond.methodLink RX7 100 yX6_startsAt, Cond.instanceMethod yX6_startsAt, Cond.selects RX6 yX6_startsAt yX6_startsAt, Cond.initialized RX6, Cond.code yX6_startsAt cX6_startsAt 2 (some .boolean), Cond.fieldLink RX6 9 "FurPosts$Way" "a" "I", Cond.fieldLink RX6 15 "FurPosts$Way" "b" "I", Cond.methodLink RX7 106 yX6_isOpenOn, Cond.instanceMethod yX6_isOpenOn, Cond.selects RX6 yX6_isOpenOn yX6_isOpenOn, Cond.code yX6_isOpenOn cX6_isOpenOn 2 (some .boolean), Cond.fieldLink RX6 21 "FurPosts$Way" "firstOpen" "I", Cond.fieldLink RX6 24 "FurPosts$Way" "lastOpen" "I", Cond.static yX7_isWithin, Cond.code yX7_isWithin cX7_isWithin 3 (some .boolean), Cond.methodLink RX7 109 yX7_canLoad, Cond.instanceMethod yX7_canLoad, Cond.selects RX7 yX7_canLoad yX7_canLoad, Cond.code yX7_canLoad cX7_canLoad 5 (some .boolean), Cond.fieldLink RX7 162 "FurPosts$Way" "bears" "I", Cond.methodLink RX7 116 yX6_otherEnd]
def wsX7_send_r3 : List Cond := [Cond.instanceMethod yX6_otherEnd, Cond.selects RX6 yX6_otherEnd yX6_otherEnd, Cond.code yX6_otherEnd cX6_otherEnd 2 (some .int), Cond.methodLink RX7 128 yX0_init, Cond.instanceMethod yX0_init, Cond.code yX0_init cX0_init 7 none, Cond.methodLink RX0 3 objectInit, Cond.instanceMethod objectInit, Cond.code objectInit ⟨#[0xb1]⟩ 1 none, Cond.fieldLink RX0 9 "FurPosts$Canoe" "dayCame" "I", Cond.fieldLink RX0 15 "FurPosts$Canoe" "state" "I", Cond.fieldLink RX0 18 "FurPosts$Canoe" "from" "I", Cond.fieldLink RX0 21 "FurPosts$Canoe" "to" "I", Cond.fieldLink RX0 24 "FurPosts$Canoe" "way" "I", Cond.fieldLink RX0 27 "FurPosts$Canoe" "daysToGo" "I", Cond.fieldLink RX0 30 "FurPosts$Canoe" "daySent" "I", Cond.fieldLink RX0 33 "FurPosts$Canoe" "waresSent" "[I", Cond.methodLink RX0 37 ⟨"[I", "clone", "()Ljava/lang/Object;"⟩, Cond.classLink RX0 38 "[I", Cond.fieldLink RX0 42 "FurPosts$Canoe" "wares" "[I", Cond.methodLink RX7 131 yX7_takeLetters, Cond.instanceMethod yX7_takeLetters, Cond.selects RX7 yX7_takeLetters yX7_takeLetters, Cond.code yX7_takeLetters cX7_takeLetters 6 (some .int)]
def wsX7_send_r4 : List Cond := [Cond.fieldLink RX7 165 "FurPosts" "letterCount" "I", Cond.fieldLink RX7 172 "FurPosts$Letter" "bag" "I", Cond.fieldLink RX7 175 "FurPosts$Canoe" "from" "I", Cond.fieldLink RX7 178 "FurPosts$Letter" "to" "I", Cond.fieldLink RX7 184 "FurPosts$Canoe" "to" "I", Cond.fieldLink RX7 185 "FurPosts$Letter" "carrier" "I", Cond.methodLink RX7 168 yX7_letterAt, Cond.instanceMethod yX7_letterAt, Cond.selects RX7 yX7_letterAt yX7_letterAt, Cond.code yX7_letterAt cX7_letterAt 2 (some (.object "FurPosts$Letter")), Cond.fieldLink RX7 29 "FurPosts" "letters" "[LFurPosts$Letter;", Cond.methodLink RX7 181 yX7_next, Cond.instanceMethod yX7_next, Cond.selects RX7 yX7_next yX7_next, Cond.code yX7_next cX7_next 4 (some .int), Cond.fieldLink RX7 35 "FurPosts" "distances" "[[I", Cond.methodLink RX7 59 yX7_areTwoPosts, Cond.instanceMethod yX7_areTwoPosts, Cond.selects RX7 yX7_areTwoPosts yX7_areTwoPosts, Cond.code yX7_areTwoPosts cX7_areTwoPosts 3 (some .boolean)]
def wsX7_send : List Cond := .code yX7_send cX7_send 8 (some .int) :: ((wsX7_send_r1 ++ (wsX7_send_r2 ++ (wsX7_send_r3 ++ wsX7_send_r4))) ++ wsX70 ++ wsX00 ++ wsX60 ++ wsX40 ++ wsX10 ++ wsX30 ++ wsX50)
def wsX7_canoeAt : List Cond := .code yX7_canoeAt cX7_canoeAt 2 (some (.object "FurPosts$Canoe")) :: ([.fieldLink RX7 23 "FurPosts" "canoes" "[LFurPosts$Canoe;"] ++ wsX70)
def wsX7_loseLetters : List Cond := .code yX7_loseLetters cX7_loseLetters 4 none :: ([.fieldLink RX7 165 "FurPosts" "letterCount" "I", .fieldLink RX7 185 "FurPosts$Letter" "carrier" "I", .classLink RX7 188 "FurPosts$Debt", .fieldLink RX7 190 "FurPosts" "debtsLost" "I", .methodLink RX7 168 yX7_letterAt, .instanceMethod yX7_letterAt, .selects RX7 yX7_letterAt yX7_letterAt, .initialized RX7, .code yX7_letterAt cX7_letterAt 2 (some (.object "FurPosts$Letter")), .fieldLink RX7 29 "FurPosts" "letters" "[LFurPosts$Letter;"] ++ wsX70 ++ wsX10 ++ wsX30 ++ wsX50)
def wsX7_lose : List Cond := .code yX7_lose cX7_lose 5 (some .int) :: ([.fieldLink RX7 142 "FurPosts$Canoe" "state" "I", .fieldLink RX7 145 "FurPosts$Canoe" "daysToGo" "I", .fieldLink RX7 148 "FurPosts$Canoe" "wares" "[I", .fieldLink RX7 41 "FurPosts" "tallies" "[[I", .methodLink RX7 138 yX7_canoeAt, .instanceMethod yX7_canoeAt, .selects RX7 yX7_canoeAt yX7_canoeAt, .initialized RX7, .code yX7_canoeAt cX7_canoeAt 2 (some (.object "FurPosts$Canoe")), .fieldLink RX7 23 "FurPosts" "canoes" "[LFurPosts$Canoe;", .methodLink RX7 151 yX7_loseLetters, .instanceMethod yX7_loseLetters, .selects RX7 yX7_loseLetters yX7_loseLetters, .code yX7_loseLetters cX7_loseLetters 4 none, .fieldLink RX7 165 "FurPosts" "letterCount" "I", .fieldLink RX7 185 "FurPosts$Letter" "carrier" "I", .classLink RX7 188 "FurPosts$Debt", .fieldLink RX7 190 "FurPosts" "debtsLost" "I", .methodLink RX7 168 yX7_letterAt, .instanceMethod yX7_letterAt, .selects RX7 yX7_letterAt yX7_letterAt, .code yX7_letterAt cX7_letterAt 2 (some (.object "FurPosts$Letter")), .fieldLink RX7 29 "FurPosts" "letters" "[LFurPosts$Letter;"] ++ wsX00 ++ wsX70 ++ wsX10 ++ wsX30 ++ wsX50)
def wsX7_spoil : List Cond := .code yX7_spoil cX7_spoil 5 (some .boolean) :: ([.fieldLink RX7 142 "FurPosts$Canoe" "state" "I", .fieldLink RX7 148 "FurPosts$Canoe" "wares" "[I", .fieldLink RX7 155 "FurPosts$Canoe" "spoilt" "Z", .fieldLink RX7 41 "FurPosts" "tallies" "[[I", .methodLink RX7 138 yX7_canoeAt, .instanceMethod yX7_canoeAt, .selects RX7 yX7_canoeAt yX7_canoeAt, .initialized RX7, .code yX7_canoeAt cX7_canoeAt 2 (some (.object "FurPosts$Canoe")), .fieldLink RX7 23 "FurPosts" "canoes" "[LFurPosts$Canoe;", .methodLink RX7 88 yX7_isWare, .static yX7_isWare, .code yX7_isWare cX7_isWare 1 (some .boolean), .methodLink RX7 66 yX7_isWithin, .static yX7_isWithin, .code yX7_isWithin cX7_isWithin 3 (some .boolean)] ++ wsX00 ++ wsX70)
def wsX7_landCanoe : List Cond := .code yX7_landCanoe cX7_landCanoe 4 none :: ([.fieldLink RX7 142 "FurPosts$Canoe" "state" "I", .fieldLink RX7 103 "FurPosts" "now" "I", .fieldLink RX7 204 "FurPosts$Canoe" "dayCame" "I", .fieldLink RX7 92 "FurPosts$Post" "stock" "[I", .fieldLink RX7 148 "FurPosts$Canoe" "wares" "[I"] ++ wsX00 ++ wsX70 ++ wsX40)
def wsX7_landLetters_r1 : List Cond := [Cond.fieldLink RX7 165 "FurPosts" "letterCount" "I", Cond.fieldLink RX7 185 "FurPosts$Letter" "carrier" "I", Cond.fieldLink RX7 178 "FurPosts$Letter" "to" "I", Cond.fieldLink RX7 172 "FurPosts$Letter" "bag" "I", Cond.methodLink RX7 168 yX7_letterAt, Cond.instanceMethod yX7_letterAt, Cond.selects RX7 yX7_letterAt yX7_letterAt, Cond.initialized RX7, Cond.code yX7_letterAt cX7_letterAt 2 (some (.object "FurPosts$Letter")), Cond.fieldLink RX7 29 "FurPosts" "letters" "[LFurPosts$Letter;", Cond.methodLink RX7 207 ⟨"FurPosts$Letter", "readAt", "(LFurPosts$Post;)V"⟩, Cond.sameMethod "FurPosts$Letter" "FurPosts$Letter" "readAt" "(LFurPosts$Post;)V", Cond.selects RX1 ⟨"FurPosts$Letter", "readAt", "(LFurPosts$Post;)V"⟩ yX1_readAt, Cond.instanceMethod yX1_readAt, Cond.initialized RX1, Cond.code yX1_readAt cX1_readAt 2 none, Cond.fieldLink RX1 7 "FurPosts$Debt" "hunter" "I", Cond.fieldLink RX1 22 "FurPosts$Post" "owed" "[I", Cond.fieldLink RX1 13 "FurPosts$Debt" "coins" "I", Cond.static yX7_isHunter, Cond.code yX7_isHunter cX7_isHunter 1 (some .boolean), Cond.selects RX3 ⟨"FurPosts$Letter", "readAt", "(LFurPosts$Post;)V"⟩ yX3_readAt, Cond.instanceMethod yX3_readAt, Cond.initialized RX3]
def wsX7_landLetters_r2 : List Cond := [Cond.code yX3_readAt cX3_readAt 2 none, Cond.fieldLink RX3 7 "FurPosts$Order" "ware" "I", Cond.fieldLink RX3 22 "FurPosts$Post" "prices" "[I", Cond.fieldLink RX3 13 "FurPosts$Order" "asked" "I", Cond.static yX7_isWare, Cond.code yX7_isWare cX7_isWare 1 (some .boolean), Cond.selects RX5 ⟨"FurPosts$Letter", "readAt", "(LFurPosts$Post;)V"⟩ yX5_readAt, Cond.instanceMethod yX5_readAt, Cond.initialized RX5, Cond.code yX5_readAt cX5_readAt 3 none, Cond.fieldLink RX5 19 "FurPosts$Report" "from" "I", Cond.sameField "FurPosts$Report" "FurPosts$Letter" "from" "I", Cond.fieldLink RX5 9 "FurPosts$Report" "day" "I", Cond.fieldLink RX5 28 "FurPosts$Post" "reports" "[LFurPosts$Report;", Cond.methodLink RX5 22 yX4_reportOf, Cond.instanceMethod yX4_reportOf, Cond.selects RX4 yX4_reportOf yX4_reportOf, Cond.initialized RX4, Cond.code yX4_reportOf cX4_reportOf 2 (some (.object "FurPosts$Report")), Cond.fieldLink RX4 23 "FurPosts$Post" "reports" "[LFurPosts$Report;"]
def wsX7_landLetters : List Cond := .code yX7_landLetters cX7_landLetters 6 none :: ((wsX7_landLetters_r1 ++ wsX7_landLetters_r2) ++ wsX70 ++ wsX10 ++ wsX30 ++ wsX50 ++ wsX40)
def wsX7_moveCanoe_r1 : List Cond := [Cond.fieldLink RX7 142 "FurPosts$Canoe" "state" "I", Cond.fieldLink RX7 193 "FurPosts$Canoe" "way" "I", Cond.fieldLink RX7 184 "FurPosts$Canoe" "to" "I", Cond.fieldLink RX7 103 "FurPosts" "now" "I", Cond.fieldLink RX7 145 "FurPosts$Canoe" "daysToGo" "I", Cond.methodLink RX7 138 yX7_canoeAt, Cond.instanceMethod yX7_canoeAt, Cond.selects RX7 yX7_canoeAt yX7_canoeAt, Cond.initialized RX7, Cond.code yX7_canoeAt cX7_canoeAt 2 (some (.object "FurPosts$Canoe")), Cond.fieldLink RX7 23 "FurPosts" "canoes" "[LFurPosts$Canoe;", Cond.methodLink RX7 96 yX7_wayAt, Cond.instanceMethod yX7_wayAt, Cond.selects RX7 yX7_wayAt yX7_wayAt, Cond.code yX7_wayAt cX7_wayAt 2 (some (.object "FurPosts$Way")), Cond.fieldLink RX7 17 "FurPosts" "ways" "[LFurPosts$Way;", Cond.methodLink RX7 84 yX7_postAt, Cond.instanceMethod yX7_postAt, Cond.selects RX7 yX7_postAt yX7_postAt, Cond.code yX7_postAt cX7_postAt 2 (some (.object "FurPosts$Post")), Cond.fieldLink RX7 11 "FurPosts" "posts" "[LFurPosts$Post;", Cond.methodLink RX7 106 yX6_isOpenOn, Cond.instanceMethod yX6_isOpenOn, Cond.selects RX6 yX6_isOpenOn yX6_isOpenOn]
def wsX7_moveCanoe_r2 : List Cond := [Cond.initialized RX6, Cond.code yX6_isOpenOn cX6_isOpenOn 2 (some .boolean), Cond.fieldLink RX6 21 "FurPosts$Way" "firstOpen" "I", Cond.fieldLink RX6 24 "FurPosts$Way" "lastOpen" "I", Cond.static yX7_isWithin, Cond.code yX7_isWithin cX7_isWithin 3 (some .boolean), Cond.methodLink RX7 196 yX7_landCanoe, Cond.instanceMethod yX7_landCanoe, Cond.selects RX7 yX7_landCanoe yX7_landCanoe, Cond.code yX7_landCanoe cX7_landCanoe 4 none, Cond.fieldLink RX7 204 "FurPosts$Canoe" "dayCame" "I", Cond.fieldLink RX7 92 "FurPosts$Post" "stock" "[I", Cond.fieldLink RX7 148 "FurPosts$Canoe" "wares" "[I", Cond.methodLink RX7 200 yX7_landLetters, Cond.instanceMethod yX7_landLetters, Cond.selects RX7 yX7_landLetters yX7_landLetters, Cond.code yX7_landLetters cX7_landLetters 6 none, Cond.fieldLink RX7 165 "FurPosts" "letterCount" "I", Cond.fieldLink RX7 185 "FurPosts$Letter" "carrier" "I", Cond.fieldLink RX7 178 "FurPosts$Letter" "to" "I", Cond.fieldLink RX7 172 "FurPosts$Letter" "bag" "I", Cond.methodLink RX7 168 yX7_letterAt, Cond.instanceMethod yX7_letterAt, Cond.selects RX7 yX7_letterAt yX7_letterAt]
def wsX7_moveCanoe_r3 : List Cond := [Cond.code yX7_letterAt cX7_letterAt 2 (some (.object "FurPosts$Letter")), Cond.fieldLink RX7 29 "FurPosts" "letters" "[LFurPosts$Letter;", Cond.methodLink RX7 207 ⟨"FurPosts$Letter", "readAt", "(LFurPosts$Post;)V"⟩, Cond.sameMethod "FurPosts$Letter" "FurPosts$Letter" "readAt" "(LFurPosts$Post;)V", Cond.selects RX1 ⟨"FurPosts$Letter", "readAt", "(LFurPosts$Post;)V"⟩ yX1_readAt, Cond.instanceMethod yX1_readAt, Cond.initialized RX1, Cond.code yX1_readAt cX1_readAt 2 none, Cond.fieldLink RX1 7 "FurPosts$Debt" "hunter" "I", Cond.fieldLink RX1 22 "FurPosts$Post" "owed" "[I", Cond.fieldLink RX1 13 "FurPosts$Debt" "coins" "I", Cond.static yX7_isHunter, Cond.code yX7_isHunter cX7_isHunter 1 (some .boolean), Cond.selects RX3 ⟨"FurPosts$Letter", "readAt", "(LFurPosts$Post;)V"⟩ yX3_readAt, Cond.instanceMethod yX3_readAt, Cond.initialized RX3, Cond.code yX3_readAt cX3_readAt 2 none, Cond.fieldLink RX3 7 "FurPosts$Order" "ware" "I", Cond.fieldLink RX3 22 "FurPosts$Post" "prices" "[I", Cond.fieldLink RX3 13 "FurPosts$Order" "asked" "I", Cond.static yX7_isWare, Cond.code yX7_isWare cX7_isWare 1 (some .boolean), Cond.selects RX5 ⟨"FurPosts$Letter", "readAt", "(LFurPosts$Post;)V"⟩ yX5_readAt, Cond.instanceMethod yX5_readAt]
def wsX7_moveCanoe_r4 : List Cond := [Cond.initialized RX5, Cond.code yX5_readAt cX5_readAt 3 none, Cond.fieldLink RX5 19 "FurPosts$Report" "from" "I", Cond.sameField "FurPosts$Report" "FurPosts$Letter" "from" "I", Cond.fieldLink RX5 9 "FurPosts$Report" "day" "I", Cond.fieldLink RX5 28 "FurPosts$Post" "reports" "[LFurPosts$Report;", Cond.methodLink RX5 22 yX4_reportOf, Cond.instanceMethod yX4_reportOf, Cond.selects RX4 yX4_reportOf yX4_reportOf, Cond.initialized RX4, Cond.code yX4_reportOf cX4_reportOf 2 (some (.object "FurPosts$Report")), Cond.fieldLink RX4 23 "FurPosts$Post" "reports" "[LFurPosts$Report;"]
def wsX7_moveCanoe : List Cond := .code yX7_moveCanoe cX7_moveCanoe 5 none :: ((wsX7_moveCanoe_r1 ++ (wsX7_moveCanoe_r2 ++ (wsX7_moveCanoe_r3 ++ wsX7_moveCanoe_r4))) ++ wsX00 ++ wsX70 ++ wsX60 ++ wsX40 ++ wsX10 ++ wsX30 ++ wsX50)
def wsX7_go_r1 : List Cond := [Cond.fieldLink RX7 103 "FurPosts" "now" "I", Cond.fieldLink RX7 113 "FurPosts" "canoeCount" "I", Cond.methodLink RX7 66 yX7_isWithin, Cond.static yX7_isWithin, Cond.initialized RX7, Cond.code yX7_isWithin cX7_isWithin 3 (some .boolean), Cond.methodLink RX7 159 yX7_moveCanoe, Cond.instanceMethod yX7_moveCanoe, Cond.selects RX7 yX7_moveCanoe yX7_moveCanoe, Cond.code yX7_moveCanoe cX7_moveCanoe 5 none, Cond.fieldLink RX7 142 "FurPosts$Canoe" "state" "I", Cond.fieldLink RX7 193 "FurPosts$Canoe" "way" "I", Cond.fieldLink RX7 184 "FurPosts$Canoe" "to" "I", Cond.fieldLink RX7 145 "FurPosts$Canoe" "daysToGo" "I", Cond.methodLink RX7 138 yX7_canoeAt, Cond.instanceMethod yX7_canoeAt, Cond.selects RX7 yX7_canoeAt yX7_canoeAt, Cond.code yX7_canoeAt cX7_canoeAt 2 (some (.object "FurPosts$Canoe")), Cond.fieldLink RX7 23 "FurPosts" "canoes" "[LFurPosts$Canoe;", Cond.methodLink RX7 96 yX7_wayAt, Cond.instanceMethod yX7_wayAt, Cond.selects RX7 yX7_wayAt yX7_wayAt, Cond.code yX7_wayAt cX7_wayAt 2 (some (.object "FurPosts$Way")), Cond.fieldLink RX7 17 "FurPosts" "ways" "[LFurPosts$Way;"]
def wsX7_go_r2 : List Cond := [Cond.methodLink RX7 84 yX7_postAt, Cond.instanceMethod yX7_postAt, Cond.selects RX7 yX7_postAt yX7_postAt, Cond.code yX7_postAt cX7_postAt 2 (some (.object "FurPosts$Post")), Cond.fieldLink RX7 11 "FurPosts" "posts" "[LFurPosts$Post;", Cond.methodLink RX7 106 yX6_isOpenOn, Cond.instanceMethod yX6_isOpenOn, Cond.selects RX6 yX6_isOpenOn yX6_isOpenOn, Cond.initialized RX6, Cond.code yX6_isOpenOn cX6_isOpenOn 2 (some .boolean), Cond.fieldLink RX6 21 "FurPosts$Way" "firstOpen" "I", Cond.fieldLink RX6 24 "FurPosts$Way" "lastOpen" "I", Cond.methodLink RX7 196 yX7_landCanoe, Cond.instanceMethod yX7_landCanoe, Cond.selects RX7 yX7_landCanoe yX7_landCanoe, Cond.code yX7_landCanoe cX7_landCanoe 4 none, Cond.fieldLink RX7 204 "FurPosts$Canoe" "dayCame" "I", Cond.fieldLink RX7 92 "FurPosts$Post" "stock" "[I", Cond.fieldLink RX7 148 "FurPosts$Canoe" "wares" "[I", Cond.methodLink RX7 200 yX7_landLetters, Cond.instanceMethod yX7_landLetters, Cond.selects RX7 yX7_landLetters yX7_landLetters, Cond.code yX7_landLetters cX7_landLetters 6 none, Cond.fieldLink RX7 165 "FurPosts" "letterCount" "I"]
def wsX7_go_r3 : List Cond := [Cond.fieldLink RX7 185 "FurPosts$Letter" "carrier" "I", Cond.fieldLink RX7 178 "FurPosts$Letter" "to" "I", Cond.fieldLink RX7 172 "FurPosts$Letter" "bag" "I", Cond.methodLink RX7 168 yX7_letterAt, Cond.instanceMethod yX7_letterAt, Cond.selects RX7 yX7_letterAt yX7_letterAt, Cond.code yX7_letterAt cX7_letterAt 2 (some (.object "FurPosts$Letter")), Cond.fieldLink RX7 29 "FurPosts" "letters" "[LFurPosts$Letter;", Cond.methodLink RX7 207 ⟨"FurPosts$Letter", "readAt", "(LFurPosts$Post;)V"⟩, Cond.sameMethod "FurPosts$Letter" "FurPosts$Letter" "readAt" "(LFurPosts$Post;)V", Cond.selects RX1 ⟨"FurPosts$Letter", "readAt", "(LFurPosts$Post;)V"⟩ yX1_readAt, Cond.instanceMethod yX1_readAt, Cond.initialized RX1, Cond.code yX1_readAt cX1_readAt 2 none, Cond.fieldLink RX1 7 "FurPosts$Debt" "hunter" "I", Cond.fieldLink RX1 22 "FurPosts$Post" "owed" "[I", Cond.fieldLink RX1 13 "FurPosts$Debt" "coins" "I", Cond.static yX7_isHunter, Cond.code yX7_isHunter cX7_isHunter 1 (some .boolean), Cond.selects RX3 ⟨"FurPosts$Letter", "readAt", "(LFurPosts$Post;)V"⟩ yX3_readAt, Cond.instanceMethod yX3_readAt, Cond.initialized RX3, Cond.code yX3_readAt cX3_readAt 2 none, Cond.fieldLink RX3 7 "FurPosts$Order" "ware" "I"]
def wsX7_go_r4 : List Cond := [Cond.fieldLink RX3 22 "FurPosts$Post" "prices" "[I", Cond.fieldLink RX3 13 "FurPosts$Order" "asked" "I", Cond.static yX7_isWare, Cond.code yX7_isWare cX7_isWare 1 (some .boolean), Cond.selects RX5 ⟨"FurPosts$Letter", "readAt", "(LFurPosts$Post;)V"⟩ yX5_readAt, Cond.instanceMethod yX5_readAt, Cond.initialized RX5, Cond.code yX5_readAt cX5_readAt 3 none, Cond.fieldLink RX5 19 "FurPosts$Report" "from" "I", Cond.sameField "FurPosts$Report" "FurPosts$Letter" "from" "I", Cond.fieldLink RX5 9 "FurPosts$Report" "day" "I", Cond.fieldLink RX5 28 "FurPosts$Post" "reports" "[LFurPosts$Report;", Cond.methodLink RX5 22 yX4_reportOf, Cond.instanceMethod yX4_reportOf, Cond.selects RX4 yX4_reportOf yX4_reportOf, Cond.initialized RX4, Cond.code yX4_reportOf cX4_reportOf 2 (some (.object "FurPosts$Report")), Cond.fieldLink RX4 23 "FurPosts$Post" "reports" "[LFurPosts$Report;"]
def wsX7_go : List Cond := .code yX7_go cX7_go 4 (some .int) :: ((wsX7_go_r1 ++ (wsX7_go_r2 ++ (wsX7_go_r3 ++ wsX7_go_r4))) ++ wsX70 ++ wsX00 ++ wsX60 ++ wsX40 ++ wsX10 ++ wsX30 ++ wsX50)
def wsX7_isTrade : List Cond := .code yX7_isTrade cX7_isTrade 3 (some .boolean) :: ([.methodLink RX7 221 yX7_isHunter, .static yX7_isHunter, .initialized RX7, .code yX7_isHunter cX7_isHunter 1 (some .boolean), .methodLink RX7 88 yX7_isWare, .static yX7_isWare, .code yX7_isWare cX7_isWare 1 (some .boolean), .methodLink RX7 66 yX7_isWithin, .static yX7_isWithin, .code yX7_isWithin cX7_isWithin 3 (some .boolean)])
def wsX7_sell : List Cond := .code yX7_sell cX7_sell 7 (some .int) :: ([.fieldLink RX7 92 "FurPosts$Post" "stock" "[I", .fieldLink RX7 214 "FurPosts$Post" "owed" "[I", .fieldLink RX7 217 "FurPosts$Post" "prices" "[I", .constant RX7 95 (100000), .fieldLink RX7 41 "FurPosts" "tallies" "[[I", .methodLink RX7 84 yX7_postAt, .instanceMethod yX7_postAt, .selects RX7 yX7_postAt yX7_postAt, .initialized RX7, .code yX7_postAt cX7_postAt 2 (some (.object "FurPosts$Post")), .fieldLink RX7 11 "FurPosts" "posts" "[LFurPosts$Post;", .methodLink RX7 211 yX7_isTrade, .static yX7_isTrade, .code yX7_isTrade cX7_isTrade 3 (some .boolean), .methodLink RX7 221 yX7_isHunter, .static yX7_isHunter, .code yX7_isHunter cX7_isHunter 1 (some .boolean), .methodLink RX7 88 yX7_isWare, .static yX7_isWare, .code yX7_isWare cX7_isWare 1 (some .boolean), .methodLink RX7 66 yX7_isWithin, .static yX7_isWithin, .code yX7_isWithin cX7_isWithin 3 (some .boolean)] ++ wsX40 ++ wsX70)
def wsX7_buy : List Cond := .code yX7_buy cX7_buy 7 (some .int) :: ([.fieldLink RX7 92 "FurPosts$Post" "stock" "[I", .constant RX7 95 (100000), .fieldLink RX7 214 "FurPosts$Post" "owed" "[I", .fieldLink RX7 217 "FurPosts$Post" "prices" "[I", .constant RX7 220 (-100000), .fieldLink RX7 41 "FurPosts" "tallies" "[[I", .methodLink RX7 84 yX7_postAt, .instanceMethod yX7_postAt, .selects RX7 yX7_postAt yX7_postAt, .initialized RX7, .code yX7_postAt cX7_postAt 2 (some (.object "FurPosts$Post")), .fieldLink RX7 11 "FurPosts" "posts" "[LFurPosts$Post;", .methodLink RX7 211 yX7_isTrade, .static yX7_isTrade, .code yX7_isTrade cX7_isTrade 3 (some .boolean), .methodLink RX7 221 yX7_isHunter, .static yX7_isHunter, .code yX7_isHunter cX7_isHunter 1 (some .boolean), .methodLink RX7 88 yX7_isWare, .static yX7_isWare, .code yX7_isWare cX7_isWare 1 (some .boolean), .methodLink RX7 66 yX7_isWithin, .static yX7_isWithin, .code yX7_isWithin cX7_isWithin 3 (some .boolean)] ++ wsX40 ++ wsX70)
def wsX7_give : List Cond := .code yX7_give cX7_give 6 (some .int) :: ([.fieldLink RX7 92 "FurPosts$Post" "stock" "[I", .fieldLink RX7 41 "FurPosts" "tallies" "[[I", .methodLink RX7 84 yX7_postAt, .instanceMethod yX7_postAt, .selects RX7 yX7_postAt yX7_postAt, .initialized RX7, .code yX7_postAt cX7_postAt 2 (some (.object "FurPosts$Post")), .fieldLink RX7 11 "FurPosts" "posts" "[LFurPosts$Post;", .methodLink RX7 211 yX7_isTrade, .static yX7_isTrade, .code yX7_isTrade cX7_isTrade 3 (some .boolean), .methodLink RX7 221 yX7_isHunter, .static yX7_isHunter, .code yX7_isHunter cX7_isHunter 1 (some .boolean), .methodLink RX7 88 yX7_isWare, .static yX7_isWare, .code yX7_isWare cX7_isWare 1 (some .boolean), .methodLink RX7 66 yX7_isWithin, .static yX7_isWithin, .code yX7_isWithin cX7_isWithin 3 (some .boolean)] ++ wsX40 ++ wsX70)
def wsX7_owes : List Cond := .code yX7_owes cX7_owes 4 (some .int) :: ([.fieldLink RX7 214 "FurPosts$Post" "owed" "[I", .methodLink RX7 84 yX7_postAt, .instanceMethod yX7_postAt, .selects RX7 yX7_postAt yX7_postAt, .initialized RX7, .code yX7_postAt cX7_postAt 2 (some (.object "FurPosts$Post")), .fieldLink RX7 11 "FurPosts" "posts" "[LFurPosts$Post;", .methodLink RX7 221 yX7_isHunter, .static yX7_isHunter, .code yX7_isHunter cX7_isHunter 1 (some .boolean)] ++ wsX40 ++ wsX70)
def wsX7_price : List Cond := .code yX7_price cX7_price 4 (some .int) :: ([.fieldLink RX7 217 "FurPosts$Post" "prices" "[I", .methodLink RX7 84 yX7_postAt, .instanceMethod yX7_postAt, .selects RX7 yX7_postAt yX7_postAt, .initialized RX7, .code yX7_postAt cX7_postAt 2 (some (.object "FurPosts$Post")), .fieldLink RX7 11 "FurPosts" "posts" "[LFurPosts$Post;", .methodLink RX7 88 yX7_isWare, .static yX7_isWare, .code yX7_isWare cX7_isWare 1 (some .boolean)] ++ wsX40 ++ wsX70)
def wsX7_canWrite : List Cond := .code yX7_canWrite cX7_canWrite 3 (some .boolean) :: ([.fieldLink RX7 165 "FurPosts" "letterCount" "I", .methodLink RX7 59 yX7_areTwoPosts, .instanceMethod yX7_areTwoPosts, .selects RX7 yX7_areTwoPosts yX7_areTwoPosts, .initialized RX7, .code yX7_areTwoPosts cX7_areTwoPosts 3 (some .boolean), .methodLink RX7 84 yX7_postAt, .instanceMethod yX7_postAt, .selects RX7 yX7_postAt yX7_postAt, .code yX7_postAt cX7_postAt 2 (some (.object "FurPosts$Post")), .fieldLink RX7 11 "FurPosts" "posts" "[LFurPosts$Post;"] ++ wsX70)
def wsX7_putInBag : List Cond := .code yX7_putInBag cX7_putInBag 2 (some .int) :: ([.fieldLink RX7 165 "FurPosts" "letterCount" "I", .fieldLink RX7 29 "FurPosts" "letters" "[LFurPosts$Letter;"] ++ wsX70)
def wsX7_order_r1 : List Cond := [Cond.classLink RX7 227 RX3, Cond.instantiable RX3 6, Cond.initialized RX3, Cond.methodLink RX7 224 yX7_canWrite, Cond.instanceMethod yX7_canWrite, Cond.selects RX7 yX7_canWrite yX7_canWrite, Cond.initialized RX7, Cond.code yX7_canWrite cX7_canWrite 3 (some .boolean), Cond.fieldLink RX7 165 "FurPosts" "letterCount" "I", Cond.methodLink RX7 59 yX7_areTwoPosts, Cond.instanceMethod yX7_areTwoPosts, Cond.selects RX7 yX7_areTwoPosts yX7_areTwoPosts, Cond.code yX7_areTwoPosts cX7_areTwoPosts 3 (some .boolean), Cond.methodLink RX7 84 yX7_postAt, Cond.instanceMethod yX7_postAt, Cond.selects RX7 yX7_postAt yX7_postAt, Cond.code yX7_postAt cX7_postAt 2 (some (.object "FurPosts$Post")), Cond.fieldLink RX7 11 "FurPosts" "posts" "[LFurPosts$Post;", Cond.methodLink RX7 88 yX7_isWare, Cond.static yX7_isWare, Cond.code yX7_isWare cX7_isWare 1 (some .boolean), Cond.methodLink RX7 66 yX7_isWithin, Cond.static yX7_isWithin, Cond.code yX7_isWithin cX7_isWithin 3 (some .boolean)]
def wsX7_order_r2 : List Cond := [Cond.methodLink RX7 229 yX3_init, Cond.instanceMethod yX3_init, Cond.code yX3_init cX3_init 5 none, Cond.fieldLink RX3 7 "FurPosts$Order" "ware" "I", Cond.fieldLink RX3 13 "FurPosts$Order" "asked" "I", Cond.methodLink RX3 1 yX2_init, Cond.instanceMethod yX2_init, Cond.initialized RX2, Cond.code yX2_init cX2_init 3 none, Cond.methodLink RX2 3 objectInit, Cond.instanceMethod objectInit, Cond.code objectInit ⟨#[0xb1]⟩ 1 none, Cond.fieldLink RX2 9 "FurPosts$Letter" "carrier" "I", Cond.fieldLink RX2 15 "FurPosts$Letter" "from" "I", Cond.fieldLink RX2 18 "FurPosts$Letter" "to" "I", Cond.fieldLink RX2 21 "FurPosts$Letter" "bag" "I", Cond.methodLink RX7 232 yX7_putInBag, Cond.instanceMethod yX7_putInBag, Cond.selects RX7 yX7_putInBag yX7_putInBag, Cond.code yX7_putInBag cX7_putInBag 2 (some .int), Cond.fieldLink RX7 29 "FurPosts" "letters" "[LFurPosts$Letter;"]
def wsX7_order : List Cond := .code yX7_order cX7_order 5 (some .int) :: ((wsX7_order_r1 ++ wsX7_order_r2) ++ wsX30 ++ wsX70 ++ wsX10 ++ wsX50)
def wsX7_debt_r1 : List Cond := [Cond.fieldLink RX7 214 "FurPosts$Post" "owed" "[I", Cond.classLink RX7 188 RX1, Cond.instantiable RX1 6, Cond.initialized RX1, Cond.methodLink RX7 84 yX7_postAt, Cond.instanceMethod yX7_postAt, Cond.selects RX7 yX7_postAt yX7_postAt, Cond.initialized RX7, Cond.code yX7_postAt cX7_postAt 2 (some (.object "FurPosts$Post")), Cond.fieldLink RX7 11 "FurPosts" "posts" "[LFurPosts$Post;", Cond.methodLink RX7 224 yX7_canWrite, Cond.instanceMethod yX7_canWrite, Cond.selects RX7 yX7_canWrite yX7_canWrite, Cond.code yX7_canWrite cX7_canWrite 3 (some .boolean), Cond.fieldLink RX7 165 "FurPosts" "letterCount" "I", Cond.methodLink RX7 59 yX7_areTwoPosts, Cond.instanceMethod yX7_areTwoPosts, Cond.selects RX7 yX7_areTwoPosts yX7_areTwoPosts, Cond.code yX7_areTwoPosts cX7_areTwoPosts 3 (some .boolean), Cond.methodLink RX7 221 yX7_isHunter, Cond.static yX7_isHunter, Cond.code yX7_isHunter cX7_isHunter 1 (some .boolean), Cond.methodLink RX7 236 yX1_init, Cond.instanceMethod yX1_init]
def wsX7_debt_r2 : List Cond := [Cond.code yX1_init cX1_init 5 none, Cond.fieldLink RX1 7 "FurPosts$Debt" "hunter" "I", Cond.fieldLink RX1 13 "FurPosts$Debt" "coins" "I", Cond.methodLink RX1 1 yX2_init, Cond.instanceMethod yX2_init, Cond.initialized RX2, Cond.code yX2_init cX2_init 3 none, Cond.methodLink RX2 3 objectInit, Cond.instanceMethod objectInit, Cond.code objectInit ⟨#[0xb1]⟩ 1 none, Cond.fieldLink RX2 9 "FurPosts$Letter" "carrier" "I", Cond.fieldLink RX2 15 "FurPosts$Letter" "from" "I", Cond.fieldLink RX2 18 "FurPosts$Letter" "to" "I", Cond.fieldLink RX2 21 "FurPosts$Letter" "bag" "I", Cond.methodLink RX7 232 yX7_putInBag, Cond.instanceMethod yX7_putInBag, Cond.selects RX7 yX7_putInBag yX7_putInBag, Cond.code yX7_putInBag cX7_putInBag 2 (some .int), Cond.fieldLink RX7 29 "FurPosts" "letters" "[LFurPosts$Letter;"]
def wsX7_debt : List Cond := .code yX7_debt cX7_debt 6 (some .int) :: ((wsX7_debt_r1 ++ wsX7_debt_r2) ++ wsX40 ++ wsX10 ++ wsX70 ++ wsX30 ++ wsX50)
def wsX7_report_r1 : List Cond := [Cond.classLink RX7 237 RX5, Cond.instantiable RX5 6, Cond.initialized RX5, Cond.fieldLink RX7 103 "FurPosts" "now" "I", Cond.fieldLink RX7 92 "FurPosts$Post" "stock" "[I", Cond.methodLink RX7 123 ⟨"[I", "clone", "()Ljava/lang/Object;"⟩, Cond.sameMethod "[I" "java/lang/Object" "clone" "()Ljava/lang/Object;", Cond.native ⟨"java/lang/Object", "clone", "()Ljava/lang/Object;"⟩, Cond.instanceMethod ⟨"java/lang/Object", "clone", "()Ljava/lang/Object;"⟩, Cond.selects "[I" ⟨"[I", "clone", "()Ljava/lang/Object;"⟩ ⟨"java/lang/Object", "clone", "()Ljava/lang/Object;"⟩, Cond.classLink RX7 124 "[I", Cond.methodLink RX7 84 yX7_postAt, Cond.instanceMethod yX7_postAt, Cond.selects RX7 yX7_postAt yX7_postAt, Cond.initialized RX7, Cond.code yX7_postAt cX7_postAt 2 (some (.object "FurPosts$Post")), Cond.fieldLink RX7 11 "FurPosts" "posts" "[LFurPosts$Post;", Cond.methodLink RX7 224 yX7_canWrite, Cond.instanceMethod yX7_canWrite, Cond.selects RX7 yX7_canWrite yX7_canWrite, Cond.code yX7_canWrite cX7_canWrite 3 (some .boolean), Cond.fieldLink RX7 165 "FurPosts" "letterCount" "I", Cond.methodLink RX7 59 yX7_areTwoPosts, Cond.instanceMethod yX7_areTwoPosts]
def wsX7_report_r2 : List Cond := [Cond.selects RX7 yX7_areTwoPosts yX7_areTwoPosts, Cond.code yX7_areTwoPosts cX7_areTwoPosts 3 (some .boolean), Cond.methodLink RX7 239 yX5_init, Cond.instanceMethod yX5_init, Cond.code yX5_init cX5_init 5 none, Cond.fieldLink RX5 9 "FurPosts$Report" "day" "I", Cond.fieldLink RX5 15 "FurPosts$Report" "stock" "[I", Cond.methodLink RX5 3 yX2_init, Cond.instanceMethod yX2_init, Cond.initialized RX2, Cond.code yX2_init cX2_init 3 none, Cond.methodLink RX2 3 objectInit, Cond.instanceMethod objectInit, Cond.code objectInit ⟨#[0xb1]⟩ 1 none, Cond.fieldLink RX2 9 "FurPosts$Letter" "carrier" "I", Cond.fieldLink RX2 15 "FurPosts$Letter" "from" "I", Cond.fieldLink RX2 18 "FurPosts$Letter" "to" "I", Cond.fieldLink RX2 21 "FurPosts$Letter" "bag" "I", Cond.methodLink RX7 232 yX7_putInBag, Cond.instanceMethod yX7_putInBag, Cond.selects RX7 yX7_putInBag yX7_putInBag, Cond.code yX7_putInBag cX7_putInBag 2 (some .int), Cond.fieldLink RX7 29 "FurPosts" "letters" "[LFurPosts$Letter;"]
def wsX7_report : List Cond := .code yX7_report cX7_report 4 (some .int) :: ((wsX7_report_r1 ++ wsX7_report_r2) ++ wsX50 ++ wsX70 ++ wsX40 ++ wsX10 ++ wsX30)
def wsX7_known : List Cond := .code yX7_known cX7_known 6 (some .int) :: ([.fieldLink RX7 92 "FurPosts$Post" "stock" "[I", .fieldLink RX7 246 "FurPosts$Report" "stock" "[I", .methodLink RX7 84 yX7_postAt, .instanceMethod yX7_postAt, .selects RX7 yX7_postAt yX7_postAt, .initialized RX7, .code yX7_postAt cX7_postAt 2 (some (.object "FurPosts$Post")), .fieldLink RX7 11 "FurPosts" "posts" "[LFurPosts$Post;", .methodLink RX7 88 yX7_isWare, .static yX7_isWare, .code yX7_isWare cX7_isWare 1 (some .boolean), .methodLink RX7 242 yX4_reportOf, .instanceMethod yX4_reportOf, .selects RX4 yX4_reportOf yX4_reportOf, .initialized RX4, .code yX4_reportOf cX4_reportOf 2 (some (.object "FurPosts$Report")), .fieldLink RX4 23 "FurPosts$Post" "reports" "[LFurPosts$Report;"] ++ wsX40 ++ wsX50 ++ wsX70)
def wsX7_knownDay : List Cond := .code yX7_knownDay cX7_knownDay 5 (some .int) :: ([.fieldLink RX7 103 "FurPosts" "now" "I", .fieldLink RX7 247 "FurPosts$Report" "day" "I", .methodLink RX7 84 yX7_postAt, .instanceMethod yX7_postAt, .selects RX7 yX7_postAt yX7_postAt, .initialized RX7, .code yX7_postAt cX7_postAt 2 (some (.object "FurPosts$Post")), .fieldLink RX7 11 "FurPosts" "posts" "[LFurPosts$Post;", .methodLink RX7 242 yX4_reportOf, .instanceMethod yX4_reportOf, .selects RX4 yX4_reportOf yX4_reportOf, .initialized RX4, .code yX4_reportOf cX4_reportOf 2 (some (.object "FurPosts$Report")), .fieldLink RX4 23 "FurPosts$Post" "reports" "[LFurPosts$Report;"] ++ wsX70 ++ wsX50 ++ wsX40)
def wsX7_want : List Cond := .code yX7_want cX7_want 4 (some .boolean) :: ([.fieldLink RX7 38 "FurPosts" "wants" "[[I", .methodLink RX7 88 yX7_isWare, .static yX7_isWare, .initialized RX7, .code yX7_isWare cX7_isWare 1 (some .boolean), .methodLink RX7 66 yX7_isWithin, .static yX7_isWithin, .code yX7_isWithin cX7_isWithin 3 (some .boolean)] ++ wsX70)
def wsX7_areWantsRight : List Cond := .code yX7_areWantsRight cX7_areWantsRight 4 (some .boolean) :: ([.fieldLink RX7 38 "FurPosts" "wants" "[[I"] ++ wsX70)
def wsX7_cost : List Cond := .code yX7_cost cX7_cost 11 (some .int) :: ([.fieldLink RX7 92 "FurPosts$Post" "stock" "[I", .methodLink RX7 78 Lib.Math.min.name, .static Lib.Math.min.name, .initialized "java/lang/Math", .code Lib.Math.min.name Lib.Math.min.code 2 (some .int), .fieldLink RX7 38 "FurPosts" "wants" "[[I", .methodLink RX7 84 yX7_postAt, .instanceMethod yX7_postAt, .selects RX7 yX7_postAt yX7_postAt, .initialized RX7, .code yX7_postAt cX7_postAt 2 (some (.object "FurPosts$Post")), .fieldLink RX7 11 "FurPosts" "posts" "[LFurPosts$Post;", .methodLink RX7 88 yX7_isWare, .static yX7_isWare, .code yX7_isWare cX7_isWare 1 (some .boolean), .methodLink RX7 254 yX7_areWantsRight, .instanceMethod yX7_areWantsRight, .selects RX7 yX7_areWantsRight yX7_areWantsRight, .code yX7_areWantsRight cX7_areWantsRight 4 (some .boolean), .methodLink RX7 66 yX7_isWithin, .static yX7_isWithin, .code yX7_isWithin cX7_isWithin 3 (some .boolean)] ++ wsX40 ++ wsX70)
def wsX7_indent_r1 : List Cond := [Cond.methodLink RX7 250 yX7_cost, Cond.instanceMethod yX7_cost, Cond.selects RX7 yX7_cost yX7_cost, Cond.initialized RX7, Cond.code yX7_cost cX7_cost 11 (some .int), Cond.fieldLink RX7 92 "FurPosts$Post" "stock" "[I", Cond.methodLink RX7 78 Lib.Math.min.name, Cond.static Lib.Math.min.name, Cond.initialized "java/lang/Math", Cond.code Lib.Math.min.name Lib.Math.min.code 2 (some .int), Cond.fieldLink RX7 38 "FurPosts" "wants" "[[I", Cond.methodLink RX7 84 yX7_postAt, Cond.instanceMethod yX7_postAt, Cond.selects RX7 yX7_postAt yX7_postAt, Cond.code yX7_postAt cX7_postAt 2 (some (.object "FurPosts$Post")), Cond.fieldLink RX7 11 "FurPosts" "posts" "[LFurPosts$Post;", Cond.methodLink RX7 88 yX7_isWare, Cond.static yX7_isWare, Cond.code yX7_isWare cX7_isWare 1 (some .boolean), Cond.methodLink RX7 254 yX7_areWantsRight, Cond.instanceMethod yX7_areWantsRight, Cond.selects RX7 yX7_areWantsRight yX7_areWantsRight, Cond.code yX7_areWantsRight cX7_areWantsRight 4 (some .boolean), Cond.methodLink RX7 66 yX7_isWithin]
def wsX7_indent_r2 : List Cond := [Cond.static yX7_isWithin, Cond.code yX7_isWithin cX7_isWithin 3 (some .boolean)]
def wsX7_indent : List Cond := .code yX7_indent cX7_indent 9 (some .int) :: ((wsX7_indent_r1 ++ wsX7_indent_r2) ++ wsX40 ++ wsX70)
def wsX7_quarrel_r1 : List Cond := [Cond.fieldLink RX7 113 "FurPosts" "canoeCount" "I", Cond.methodLink RX7 59 yX7_areTwoPosts, Cond.instanceMethod yX7_areTwoPosts, Cond.selects RX7 yX7_areTwoPosts yX7_areTwoPosts, Cond.initialized RX7, Cond.code yX7_areTwoPosts cX7_areTwoPosts 3 (some .boolean), Cond.methodLink RX7 84 yX7_postAt, Cond.instanceMethod yX7_postAt, Cond.selects RX7 yX7_postAt yX7_postAt, Cond.code yX7_postAt cX7_postAt 2 (some (.object "FurPosts$Post")), Cond.fieldLink RX7 11 "FurPosts" "posts" "[LFurPosts$Post;", Cond.methodLink RX7 138 yX7_canoeAt, Cond.instanceMethod yX7_canoeAt, Cond.selects RX7 yX7_canoeAt yX7_canoeAt, Cond.code yX7_canoeAt cX7_canoeAt 2 (some (.object "FurPosts$Canoe")), Cond.fieldLink RX7 23 "FurPosts" "canoes" "[LFurPosts$Canoe;", Cond.methodLink RX7 257 yX0_isBetween, Cond.instanceMethod yX0_isBetween, Cond.selects RX0 yX0_isBetween yX0_isBetween, Cond.initialized RX0, Cond.code yX0_isBetween cX0_isBetween 3 (some .boolean), Cond.fieldLink RX0 18 "FurPosts$Canoe" "from" "I", Cond.fieldLink RX0 21 "FurPosts$Canoe" "to" "I", Cond.methodLink RX7 260 yX0_partsBooks]
def wsX7_quarrel_r2 : List Cond := [Cond.instanceMethod yX0_partsBooks, Cond.selects RX0 yX0_partsBooks yX0_partsBooks, Cond.code yX0_partsBooks cX0_partsBooks 1 (some .boolean), Cond.fieldLink RX0 15 "FurPosts$Canoe" "state" "I", Cond.fieldLink RX0 45 "FurPosts$Canoe" "spoilt" "Z"]
def wsX7_quarrel : List Cond := .code yX7_quarrel cX7_quarrel 5 (some .int) :: ((wsX7_quarrel_r1 ++ wsX7_quarrel_r2) ++ wsX70 ++ wsX00)
def wsX7_canoe : List Cond := .code yX7_canoe cX7_canoe 4 (some .int) :: ([.fieldLink RX7 148 "FurPosts$Canoe" "wares" "[I", .fieldLink RX7 264 "FurPosts$Canoe" "waresSent" "[I", .fieldLink RX7 175 "FurPosts$Canoe" "from" "I", .fieldLink RX7 184 "FurPosts$Canoe" "to" "I", .fieldLink RX7 193 "FurPosts$Canoe" "way" "I", .fieldLink RX7 145 "FurPosts$Canoe" "daysToGo" "I", .fieldLink RX7 142 "FurPosts$Canoe" "state" "I", .fieldLink RX7 267 "FurPosts$Canoe" "daySent" "I", .fieldLink RX7 204 "FurPosts$Canoe" "dayCame" "I", .fieldLink RX7 135 "FurPosts$Canoe" "lettersSent" "I", .methodLink RX7 138 yX7_canoeAt, .instanceMethod yX7_canoeAt, .selects RX7 yX7_canoeAt yX7_canoeAt, .initialized RX7, .code yX7_canoeAt cX7_canoeAt 2 (some (.object "FurPosts$Canoe")), .fieldLink RX7 23 "FurPosts" "canoes" "[LFurPosts$Canoe;", .methodLink RX7 88 yX7_isWare, .static yX7_isWare, .code yX7_isWare cX7_isWare 1 (some .boolean)] ++ wsX00 ++ wsX70)
def wsX7_countBag : List Cond := .code yX7_countBag cX7_countBag 5 (some .int) :: ([.fieldLink RX7 165 "FurPosts" "letterCount" "I", .fieldLink RX7 172 "FurPosts$Letter" "bag" "I", .methodLink RX7 168 yX7_letterAt, .instanceMethod yX7_letterAt, .selects RX7 yX7_letterAt yX7_letterAt, .initialized RX7, .code yX7_letterAt cX7_letterAt 2 (some (.object "FurPosts$Letter")), .fieldLink RX7 29 "FurPosts" "letters" "[LFurPosts$Letter;"] ++ wsX70 ++ wsX10 ++ wsX30 ++ wsX50)
def wsX7_told_r1 : List Cond := [Cond.fieldLink RX7 92 "FurPosts$Post" "stock" "[I", Cond.methodLink RX7 84 yX7_postAt, Cond.instanceMethod yX7_postAt, Cond.selects RX7 yX7_postAt yX7_postAt, Cond.initialized RX7, Cond.code yX7_postAt cX7_postAt 2 (some (.object "FurPosts$Post")), Cond.fieldLink RX7 11 "FurPosts" "posts" "[LFurPosts$Post;", Cond.methodLink RX7 88 yX7_isWare, Cond.static yX7_isWare, Cond.code yX7_isWare cX7_isWare 1 (some .boolean), Cond.methodLink RX7 270 yX7_countBag, Cond.instanceMethod yX7_countBag, Cond.selects RX7 yX7_countBag yX7_countBag, Cond.code yX7_countBag cX7_countBag 5 (some .int), Cond.fieldLink RX7 165 "FurPosts" "letterCount" "I", Cond.fieldLink RX7 172 "FurPosts$Letter" "bag" "I", Cond.methodLink RX7 168 yX7_letterAt, Cond.instanceMethod yX7_letterAt, Cond.selects RX7 yX7_letterAt yX7_letterAt, Cond.code yX7_letterAt cX7_letterAt 2 (some (.object "FurPosts$Letter")), Cond.fieldLink RX7 29 "FurPosts" "letters" "[LFurPosts$Letter;", Cond.methodLink RX7 273 yX4_owedByAll, Cond.instanceMethod yX4_owedByAll, Cond.selects RX4 yX4_owedByAll yX4_owedByAll]
def wsX7_told_r2 : List Cond := [Cond.initialized RX4, Cond.code yX4_owedByAll cX4_owedByAll 3 (some .int), Cond.fieldLink RX4 18 "FurPosts$Post" "owed" "[I"]
def wsX7_told : List Cond := .code yX7_told cX7_told 4 (some .int) :: ((wsX7_told_r1 ++ wsX7_told_r2) ++ wsX40 ++ wsX70 ++ wsX10 ++ wsX30 ++ wsX50)
def wsX7_countOfAll : List Cond := .code yX7_countOfAll cX7_countOfAll 2 (some .int) :: ([.fieldLink RX7 103 "FurPosts" "now" "I", .fieldLink RX7 54 "FurPosts" "postCount" "I", .fieldLink RX7 63 "FurPosts" "wayCount" "I", .fieldLink RX7 113 "FurPosts" "canoeCount" "I", .fieldLink RX7 165 "FurPosts" "letterCount" "I", .fieldLink RX7 190 "FurPosts" "debtsLost" "I"] ++ wsX70)
def wsX7_count : List Cond := .code yX7_count cX7_count 3 (some .int) :: ([.fieldLink RX7 41 "FurPosts" "tallies" "[[I", .methodLink RX7 277 yX7_countOfAll, .instanceMethod yX7_countOfAll, .selects RX7 yX7_countOfAll yX7_countOfAll, .initialized RX7, .code yX7_countOfAll cX7_countOfAll 2 (some .int), .fieldLink RX7 103 "FurPosts" "now" "I", .fieldLink RX7 54 "FurPosts" "postCount" "I", .fieldLink RX7 63 "FurPosts" "wayCount" "I", .fieldLink RX7 113 "FurPosts" "canoeCount" "I", .fieldLink RX7 165 "FurPosts" "letterCount" "I", .fieldLink RX7 190 "FurPosts" "debtsLost" "I", .methodLink RX7 88 yX7_isWare, .static yX7_isWare, .code yX7_isWare cX7_isWare 1 (some .boolean), .methodLink RX7 66 yX7_isWithin, .static yX7_isWithin, .code yX7_isWithin cX7_isWithin 3 (some .boolean)] ++ wsX70)
def wsX8_init_r1 : List Cond := [Cond.methodLink RX8 1 objectInit, Cond.instanceMethod objectInit, Cond.code objectInit ⟨#[0xb1]⟩ 1 none, Cond.arrayClass .int, Cond.fieldLink RX8 9 "FurPostsModel" "store" "[I", Cond.fieldLink RX8 13 "FurPostsModel" "price" "[I", Cond.fieldLink RX8 16 "FurPostsModel" "owes" "[I", Cond.fieldLink RX8 19 "FurPostsModel" "wayA" "[I", Cond.fieldLink RX8 22 "FurPostsModel" "wayB" "[I", Cond.fieldLink RX8 25 "FurPostsModel" "wayLong" "[I", Cond.fieldLink RX8 28 "FurPostsModel" "opens" "[I", Cond.fieldLink RX8 31 "FurPostsModel" "shuts" "[I", Cond.fieldLink RX8 34 "FurPostsModel" "bears" "[I", Cond.fieldLink RX8 37 "FurPostsModel" "loaded" "[I", Cond.fieldLink RX8 40 "FurPostsModel" "from" "[I", Cond.fieldLink RX8 43 "FurPostsModel" "to" "[I", Cond.fieldLink RX8 46 "FurPostsModel" "wayOf" "[I", Cond.fieldLink RX8 49 "FurPostsModel" "toGo" "[I", Cond.fieldLink RX8 52 "FurPostsModel" "state" "[I", Cond.fieldLink RX8 55 "FurPostsModel" "sentOn" "[I", Cond.fieldLink RX8 58 "FurPostsModel" "cameOn" "[I", Cond.fieldLink RX8 61 "FurPostsModel" "withLetters" "[I", Cond.fieldLink RX8 64 "FurPostsModel" "has" "[I", Cond.fieldLink RX8 67 "FurPostsModel" "sent" "[I"]
def wsX8_init_r2 : List Cond := [Cond.arrayClass .boolean, Cond.fieldLink RX8 70 "FurPostsModel" "isOther" "[Z", Cond.fieldLink RX8 74 "FurPostsModel" "letterKind" "[I", Cond.fieldLink RX8 77 "FurPostsModel" "letterTo" "[I", Cond.fieldLink RX8 80 "FurPostsModel" "letterAt" "[I", Cond.fieldLink RX8 83 "FurPostsModel" "letterOne" "[I", Cond.fieldLink RX8 86 "FurPostsModel" "letterTwo" "[I", Cond.fieldLink RX8 89 "FurPostsModel" "letterStore" "[I", Cond.fieldLink RX8 92 "FurPostsModel" "reported" "[I", Cond.fieldLink RX8 95 "FurPostsModel" "parts" "[I", Cond.fieldLink RX8 98 "FurPostsModel" "sums" "[I", Cond.fieldLink RX8 101 "FurPostsModel" "far" "[I"]
def wsX8_init : List Cond := .code yX8_init cX8_init 2 none :: ((wsX8_init_r1 ++ wsX8_init_r2) ++ wsX80)
def wsX8_in : List Cond := .code yX8_in cX8_in 3 (some .boolean) :: ([])
def wsX8_isPost : List Cond := .code yX8_isPost cX8_isPost 2 (some .boolean) :: ([.fieldLink RX8 104 "FurPostsModel" "posts" "I", .methodLink RX8 108 yX8_in, .static yX8_in, .initialized RX8, .code yX8_in cX8_in 3 (some .boolean)] ++ wsX80)
def wsX8_isWare : List Cond := .code yX8_isWare cX8_isWare 1 (some .boolean) :: ([.methodLink RX8 108 yX8_in, .static yX8_in, .initialized RX8, .code yX8_in cX8_in 3 (some .boolean)])
def wsX8_isCanoe : List Cond := .code yX8_isCanoe cX8_isCanoe 2 (some .boolean) :: ([.fieldLink RX8 112 "FurPostsModel" "canoes" "I", .methodLink RX8 108 yX8_in, .static yX8_in, .initialized RX8, .code yX8_in cX8_in 3 (some .boolean)] ++ wsX80)
def wsX8_post : List Cond := .code yX8_post cX8_post 1 (some .int) :: ([.fieldLink RX8 104 "FurPostsModel" "posts" "I"] ++ wsX80)
def wsX8_between : List Cond := .code yX8_between cX8_between 4 (some .int) :: ([.fieldLink RX8 115 "FurPostsModel" "ways" "I", .fieldLink RX8 19 "FurPostsModel" "wayA" "[I", .fieldLink RX8 22 "FurPostsModel" "wayB" "[I"] ++ wsX80)
def wsX8_way : List Cond := .code yX8_way cX8_way 8 (some .int) :: ([.constant RX8 118 (1000000), .fieldLink RX8 115 "FurPostsModel" "ways" "I", .fieldLink RX8 19 "FurPostsModel" "wayA" "[I", .fieldLink RX8 22 "FurPostsModel" "wayB" "[I", .fieldLink RX8 25 "FurPostsModel" "wayLong" "[I", .fieldLink RX8 28 "FurPostsModel" "opens" "[I", .fieldLink RX8 31 "FurPostsModel" "shuts" "[I", .fieldLink RX8 34 "FurPostsModel" "bears" "[I", .methodLink RX8 108 yX8_in, .static yX8_in, .initialized RX8, .code yX8_in cX8_in 3 (some .boolean), .methodLink RX8 119 yX8_isPost, .instanceMethod yX8_isPost, .selects RX8 yX8_isPost yX8_isPost, .code yX8_isPost cX8_isPost 2 (some .boolean), .fieldLink RX8 104 "FurPostsModel" "posts" "I", .methodLink RX8 123 yX8_between, .instanceMethod yX8_between, .selects RX8 yX8_between yX8_between, .code yX8_between cX8_between 4 (some .int)] ++ wsX80)
def wsX8_isOpen : List Cond := .code yX8_isOpen cX8_isOpen 3 (some .boolean) :: ([.fieldLink RX8 28 "FurPostsModel" "opens" "[I", .fieldLink RX8 31 "FurPostsModel" "shuts" "[I", .methodLink RX8 108 yX8_in, .static yX8_in, .initialized RX8, .code yX8_in cX8_in 3 (some .boolean)] ++ wsX80)
def wsX8_stored : List Cond := .code yX8_stored cX8_stored 3 (some .int) :: ([.fieldLink RX8 9 "FurPostsModel" "store" "[I"] ++ wsX80)
def wsX8_sums : List Cond := .code yX8_sums cX8_sums 4 none :: ([.fieldLink RX8 98 "FurPostsModel" "sums" "[I"] ++ wsX80)
def wsX8_store : List Cond := .code yX8_store cX8_store 4 (some .int) :: ([.constant RX8 133 (100000), .fieldLink RX8 9 "FurPostsModel" "store" "[I", .methodLink RX8 119 yX8_isPost, .instanceMethod yX8_isPost, .selects RX8 yX8_isPost yX8_isPost, .initialized RX8, .code yX8_isPost cX8_isPost 2 (some .boolean), .fieldLink RX8 104 "FurPostsModel" "posts" "I", .methodLink RX8 108 yX8_in, .static yX8_in, .code yX8_in cX8_in 3 (some .boolean), .methodLink RX8 127 yX8_isWare, .static yX8_isWare, .code yX8_isWare cX8_isWare 1 (some .boolean), .methodLink RX8 130 yX8_stored, .instanceMethod yX8_stored, .selects RX8 yX8_stored yX8_stored, .code yX8_stored cX8_stored 3 (some .int), .methodLink RX8 134 yX8_sums, .instanceMethod yX8_sums, .selects RX8 yX8_sums yX8_sums, .code yX8_sums cX8_sums 4 none, .fieldLink RX8 98 "FurPostsModel" "sums" "[I"] ++ wsX80)
def wsX8_load : List Cond := .code yX8_load cX8_load 3 (some .boolean) :: ([.fieldLink RX8 37 "FurPostsModel" "loaded" "[I", .methodLink RX8 127 yX8_isWare, .static yX8_isWare, .initialized RX8, .code yX8_isWare cX8_isWare 1 (some .boolean), .methodLink RX8 108 yX8_in, .static yX8_in, .code yX8_in cX8_in 3 (some .boolean)] ++ wsX80)
def wsX8_next : List Cond := .code yX8_next cX8_next 5 (some .int) :: ([.fieldLink RX8 101 "FurPostsModel" "far" "[I", .fieldLink RX8 115 "FurPostsModel" "ways" "I", .fieldLink RX8 19 "FurPostsModel" "wayA" "[I", .fieldLink RX8 22 "FurPostsModel" "wayB" "[I", .fieldLink RX8 104 "FurPostsModel" "posts" "I", .methodLink RX8 119 yX8_isPost, .instanceMethod yX8_isPost, .selects RX8 yX8_isPost yX8_isPost, .initialized RX8, .code yX8_isPost cX8_isPost 2 (some .boolean), .methodLink RX8 108 yX8_in, .static yX8_in, .code yX8_in cX8_in 3 (some .boolean), .methodLink RX8 123 yX8_between, .instanceMethod yX8_between, .selects RX8 yX8_between yX8_between, .code yX8_between cX8_between 4 (some .int)] ++ wsX80)
def wsX8_send_r1 : List Cond := [Cond.fieldLink RX8 115 "FurPostsModel" "ways" "I", Cond.fieldLink RX8 19 "FurPostsModel" "wayA" "[I", Cond.fieldLink RX8 22 "FurPostsModel" "wayB" "[I", Cond.fieldLink RX8 37 "FurPostsModel" "loaded" "[I", Cond.fieldLink RX8 137 "FurPostsModel" "now" "I", Cond.fieldLink RX8 34 "FurPostsModel" "bears" "[I", Cond.fieldLink RX8 112 "FurPostsModel" "canoes" "I", Cond.fieldLink RX8 40 "FurPostsModel" "from" "[I", Cond.fieldLink RX8 43 "FurPostsModel" "to" "[I", Cond.fieldLink RX8 46 "FurPostsModel" "wayOf" "[I", Cond.fieldLink RX8 49 "FurPostsModel" "toGo" "[I", Cond.fieldLink RX8 25 "FurPostsModel" "wayLong" "[I", Cond.fieldLink RX8 55 "FurPostsModel" "sentOn" "[I", Cond.fieldLink RX8 58 "FurPostsModel" "cameOn" "[I", Cond.fieldLink RX8 9 "FurPostsModel" "store" "[I", Cond.fieldLink RX8 64 "FurPostsModel" "has" "[I", Cond.fieldLink RX8 67 "FurPostsModel" "sent" "[I", Cond.fieldLink RX8 144 "FurPostsModel" "letters" "I", Cond.fieldLink RX8 80 "FurPostsModel" "letterAt" "[I", Cond.fieldLink RX8 77 "FurPostsModel" "letterTo" "[I", Cond.fieldLink RX8 61 "FurPostsModel" "withLetters" "[I", Cond.methodLink RX8 119 yX8_isPost, Cond.instanceMethod yX8_isPost, Cond.selects RX8 yX8_isPost yX8_isPost]
def wsX8_send_r2 : List Cond := [Cond.initialized RX8, Cond.code yX8_isPost cX8_isPost 2 (some .boolean), Cond.fieldLink RX8 104 "FurPostsModel" "posts" "I", Cond.methodLink RX8 108 yX8_in, Cond.static yX8_in, Cond.code yX8_in cX8_in 3 (some .boolean), Cond.methodLink RX8 130 yX8_stored, Cond.instanceMethod yX8_stored, Cond.selects RX8 yX8_stored yX8_stored, Cond.code yX8_stored cX8_stored 3 (some .int), Cond.methodLink RX8 140 yX8_isOpen, Cond.instanceMethod yX8_isOpen, Cond.selects RX8 yX8_isOpen yX8_isOpen, Cond.code yX8_isOpen cX8_isOpen 3 (some .boolean), Cond.fieldLink RX8 28 "FurPostsModel" "opens" "[I", Cond.fieldLink RX8 31 "FurPostsModel" "shuts" "[I", Cond.methodLink RX8 147 yX8_next, Cond.instanceMethod yX8_next, Cond.selects RX8 yX8_next yX8_next, Cond.code yX8_next cX8_next 5 (some .int), Cond.fieldLink RX8 101 "FurPostsModel" "far" "[I", Cond.methodLink RX8 123 yX8_between, Cond.instanceMethod yX8_between, Cond.selects RX8 yX8_between yX8_between]
def wsX8_send_r3 : List Cond := [Cond.code yX8_between cX8_between 4 (some .int)]
def wsX8_send : List Cond := .code yX8_send cX8_send 6 (some .int) :: ((wsX8_send_r1 ++ (wsX8_send_r2 ++ wsX8_send_r3)) ++ wsX80)
def wsX8_isAway : List Cond := .code yX8_isAway cX8_isAway 2 (some .boolean) :: ([.fieldLink RX8 52 "FurPostsModel" "state" "[I", .methodLink RX8 150 yX8_isCanoe, .instanceMethod yX8_isCanoe, .selects RX8 yX8_isCanoe yX8_isCanoe, .initialized RX8, .code yX8_isCanoe cX8_isCanoe 2 (some .boolean), .fieldLink RX8 112 "FurPostsModel" "canoes" "I", .methodLink RX8 108 yX8_in, .static yX8_in, .code yX8_in cX8_in 3 (some .boolean)] ++ wsX80)
def wsX8_lose_r1 : List Cond := [Cond.fieldLink RX8 64 "FurPostsModel" "has" "[I", Cond.fieldLink RX8 144 "FurPostsModel" "letters" "I", Cond.fieldLink RX8 80 "FurPostsModel" "letterAt" "[I", Cond.fieldLink RX8 74 "FurPostsModel" "letterKind" "[I", Cond.fieldLink RX8 156 "FurPostsModel" "debtsLost" "I", Cond.fieldLink RX8 86 "FurPostsModel" "letterTwo" "[I", Cond.fieldLink RX8 52 "FurPostsModel" "state" "[I", Cond.methodLink RX8 153 yX8_isAway, Cond.instanceMethod yX8_isAway, Cond.selects RX8 yX8_isAway yX8_isAway, Cond.initialized RX8, Cond.code yX8_isAway cX8_isAway 2 (some .boolean), Cond.methodLink RX8 150 yX8_isCanoe, Cond.instanceMethod yX8_isCanoe, Cond.selects RX8 yX8_isCanoe yX8_isCanoe, Cond.code yX8_isCanoe cX8_isCanoe 2 (some .boolean), Cond.fieldLink RX8 112 "FurPostsModel" "canoes" "I", Cond.methodLink RX8 108 yX8_in, Cond.static yX8_in, Cond.code yX8_in cX8_in 3 (some .boolean), Cond.methodLink RX8 134 yX8_sums, Cond.instanceMethod yX8_sums, Cond.selects RX8 yX8_sums yX8_sums, Cond.code yX8_sums cX8_sums 4 none]
def wsX8_lose_r2 : List Cond := [Cond.fieldLink RX8 98 "FurPostsModel" "sums" "[I"]
def wsX8_lose : List Cond := .code yX8_lose cX8_lose 4 (some .int) :: ((wsX8_lose_r1 ++ wsX8_lose_r2) ++ wsX80)
def wsX8_spoil : List Cond := .code yX8_spoil cX8_spoil 4 (some .boolean) :: ([.fieldLink RX8 64 "FurPostsModel" "has" "[I", .methodLink RX8 153 yX8_isAway, .instanceMethod yX8_isAway, .selects RX8 yX8_isAway yX8_isAway, .initialized RX8, .code yX8_isAway cX8_isAway 2 (some .boolean), .fieldLink RX8 52 "FurPostsModel" "state" "[I", .methodLink RX8 150 yX8_isCanoe, .instanceMethod yX8_isCanoe, .selects RX8 yX8_isCanoe yX8_isCanoe, .code yX8_isCanoe cX8_isCanoe 2 (some .boolean), .fieldLink RX8 112 "FurPostsModel" "canoes" "I", .methodLink RX8 108 yX8_in, .static yX8_in, .code yX8_in cX8_in 3 (some .boolean), .methodLink RX8 127 yX8_isWare, .static yX8_isWare, .code yX8_isWare cX8_isWare 1 (some .boolean), .methodLink RX8 134 yX8_sums, .instanceMethod yX8_sums, .selects RX8 yX8_sums yX8_sums, .code yX8_sums cX8_sums 4 none, .fieldLink RX8 98 "FurPostsModel" "sums" "[I"] ++ wsX80)
def wsX8_reads : List Cond := .code yX8_reads cX8_reads 4 none :: ([.fieldLink RX8 77 "FurPostsModel" "letterTo" "[I", .fieldLink RX8 80 "FurPostsModel" "letterAt" "[I", .fieldLink RX8 74 "FurPostsModel" "letterKind" "[I", .fieldLink RX8 13 "FurPostsModel" "price" "[I", .fieldLink RX8 83 "FurPostsModel" "letterOne" "[I", .fieldLink RX8 86 "FurPostsModel" "letterTwo" "[I", .fieldLink RX8 16 "FurPostsModel" "owes" "[I", .fieldLink RX8 92 "FurPostsModel" "reported" "[I"] ++ wsX80)
def wsX8_comes : List Cond := .code yX8_comes cX8_comes 4 none :: ([.fieldLink RX8 52 "FurPostsModel" "state" "[I", .fieldLink RX8 58 "FurPostsModel" "cameOn" "[I", .fieldLink RX8 137 "FurPostsModel" "now" "I", .fieldLink RX8 64 "FurPostsModel" "has" "[I", .fieldLink RX8 67 "FurPostsModel" "sent" "[I", .fieldLink RX8 70 "FurPostsModel" "isOther" "[Z", .fieldLink RX8 9 "FurPostsModel" "store" "[I", .fieldLink RX8 43 "FurPostsModel" "to" "[I", .fieldLink RX8 144 "FurPostsModel" "letters" "I", .fieldLink RX8 80 "FurPostsModel" "letterAt" "[I", .fieldLink RX8 77 "FurPostsModel" "letterTo" "[I", .methodLink RX8 159 yX8_reads, .instanceMethod yX8_reads, .selects RX8 yX8_reads yX8_reads, .initialized RX8, .code yX8_reads cX8_reads 4 none, .fieldLink RX8 74 "FurPostsModel" "letterKind" "[I", .fieldLink RX8 13 "FurPostsModel" "price" "[I", .fieldLink RX8 83 "FurPostsModel" "letterOne" "[I", .fieldLink RX8 86 "FurPostsModel" "letterTwo" "[I", .fieldLink RX8 16 "FurPostsModel" "owes" "[I", .fieldLink RX8 92 "FurPostsModel" "reported" "[I"] ++ wsX80)
def wsX8_go_r1 : List Cond := [Cond.fieldLink RX8 137 "FurPostsModel" "now" "I", Cond.fieldLink RX8 112 "FurPostsModel" "canoes" "I", Cond.fieldLink RX8 52 "FurPostsModel" "state" "[I", Cond.fieldLink RX8 46 "FurPostsModel" "wayOf" "[I", Cond.fieldLink RX8 49 "FurPostsModel" "toGo" "[I", Cond.methodLink RX8 108 yX8_in, Cond.static yX8_in, Cond.initialized RX8, Cond.code yX8_in cX8_in 3 (some .boolean), Cond.methodLink RX8 140 yX8_isOpen, Cond.instanceMethod yX8_isOpen, Cond.selects RX8 yX8_isOpen yX8_isOpen, Cond.code yX8_isOpen cX8_isOpen 3 (some .boolean), Cond.fieldLink RX8 28 "FurPostsModel" "opens" "[I", Cond.fieldLink RX8 31 "FurPostsModel" "shuts" "[I", Cond.methodLink RX8 163 yX8_comes, Cond.instanceMethod yX8_comes, Cond.selects RX8 yX8_comes yX8_comes, Cond.code yX8_comes cX8_comes 4 none, Cond.fieldLink RX8 58 "FurPostsModel" "cameOn" "[I", Cond.fieldLink RX8 64 "FurPostsModel" "has" "[I", Cond.fieldLink RX8 67 "FurPostsModel" "sent" "[I", Cond.fieldLink RX8 70 "FurPostsModel" "isOther" "[Z", Cond.fieldLink RX8 9 "FurPostsModel" "store" "[I"]
def wsX8_go_r2 : List Cond := [Cond.fieldLink RX8 43 "FurPostsModel" "to" "[I", Cond.fieldLink RX8 144 "FurPostsModel" "letters" "I", Cond.fieldLink RX8 80 "FurPostsModel" "letterAt" "[I", Cond.fieldLink RX8 77 "FurPostsModel" "letterTo" "[I", Cond.methodLink RX8 159 yX8_reads, Cond.instanceMethod yX8_reads, Cond.selects RX8 yX8_reads yX8_reads, Cond.code yX8_reads cX8_reads 4 none, Cond.fieldLink RX8 74 "FurPostsModel" "letterKind" "[I", Cond.fieldLink RX8 13 "FurPostsModel" "price" "[I", Cond.fieldLink RX8 83 "FurPostsModel" "letterOne" "[I", Cond.fieldLink RX8 86 "FurPostsModel" "letterTwo" "[I", Cond.fieldLink RX8 16 "FurPostsModel" "owes" "[I", Cond.fieldLink RX8 92 "FurPostsModel" "reported" "[I"]
def wsX8_go : List Cond := .code yX8_go cX8_go 4 (some .int) :: ((wsX8_go_r1 ++ wsX8_go_r2) ++ wsX80)
def wsX8_isDeal : List Cond := .code yX8_isDeal cX8_isDeal 5 (some .boolean) :: ([.methodLink RX8 119 yX8_isPost, .instanceMethod yX8_isPost, .selects RX8 yX8_isPost yX8_isPost, .initialized RX8, .code yX8_isPost cX8_isPost 2 (some .boolean), .fieldLink RX8 104 "FurPostsModel" "posts" "I", .methodLink RX8 108 yX8_in, .static yX8_in, .code yX8_in cX8_in 3 (some .boolean), .methodLink RX8 127 yX8_isWare, .static yX8_isWare, .code yX8_isWare cX8_isWare 1 (some .boolean)] ++ wsX80)
def wsX8_sell_r1 : List Cond := [Cond.fieldLink RX8 16 "FurPostsModel" "owes" "[I", Cond.fieldLink RX8 13 "FurPostsModel" "price" "[I", Cond.constant RX8 133 (100000), Cond.fieldLink RX8 9 "FurPostsModel" "store" "[I", Cond.methodLink RX8 166 yX8_isDeal, Cond.instanceMethod yX8_isDeal, Cond.selects RX8 yX8_isDeal yX8_isDeal, Cond.initialized RX8, Cond.code yX8_isDeal cX8_isDeal 5 (some .boolean), Cond.methodLink RX8 119 yX8_isPost, Cond.instanceMethod yX8_isPost, Cond.selects RX8 yX8_isPost yX8_isPost, Cond.code yX8_isPost cX8_isPost 2 (some .boolean), Cond.fieldLink RX8 104 "FurPostsModel" "posts" "I", Cond.methodLink RX8 108 yX8_in, Cond.static yX8_in, Cond.code yX8_in cX8_in 3 (some .boolean), Cond.methodLink RX8 127 yX8_isWare, Cond.static yX8_isWare, Cond.code yX8_isWare cX8_isWare 1 (some .boolean), Cond.methodLink RX8 130 yX8_stored, Cond.instanceMethod yX8_stored, Cond.selects RX8 yX8_stored yX8_stored, Cond.code yX8_stored cX8_stored 3 (some .int)]
def wsX8_sell_r2 : List Cond := [Cond.methodLink RX8 134 yX8_sums, Cond.instanceMethod yX8_sums, Cond.selects RX8 yX8_sums yX8_sums, Cond.code yX8_sums cX8_sums 4 none, Cond.fieldLink RX8 98 "FurPostsModel" "sums" "[I"]
def wsX8_sell : List Cond := .code yX8_sell cX8_sell 7 (some .int) :: ((wsX8_sell_r1 ++ wsX8_sell_r2) ++ wsX80)
def wsX8_buy_r1 : List Cond := [Cond.constant RX8 133 (100000), Cond.fieldLink RX8 16 "FurPostsModel" "owes" "[I", Cond.fieldLink RX8 13 "FurPostsModel" "price" "[I", Cond.constant RX8 170 (-100000), Cond.fieldLink RX8 9 "FurPostsModel" "store" "[I", Cond.methodLink RX8 166 yX8_isDeal, Cond.instanceMethod yX8_isDeal, Cond.selects RX8 yX8_isDeal yX8_isDeal, Cond.initialized RX8, Cond.code yX8_isDeal cX8_isDeal 5 (some .boolean), Cond.methodLink RX8 119 yX8_isPost, Cond.instanceMethod yX8_isPost, Cond.selects RX8 yX8_isPost yX8_isPost, Cond.code yX8_isPost cX8_isPost 2 (some .boolean), Cond.fieldLink RX8 104 "FurPostsModel" "posts" "I", Cond.methodLink RX8 108 yX8_in, Cond.static yX8_in, Cond.code yX8_in cX8_in 3 (some .boolean), Cond.methodLink RX8 127 yX8_isWare, Cond.static yX8_isWare, Cond.code yX8_isWare cX8_isWare 1 (some .boolean), Cond.methodLink RX8 130 yX8_stored, Cond.instanceMethod yX8_stored, Cond.selects RX8 yX8_stored yX8_stored]
def wsX8_buy_r2 : List Cond := [Cond.code yX8_stored cX8_stored 3 (some .int), Cond.methodLink RX8 134 yX8_sums, Cond.instanceMethod yX8_sums, Cond.selects RX8 yX8_sums yX8_sums, Cond.code yX8_sums cX8_sums 4 none, Cond.fieldLink RX8 98 "FurPostsModel" "sums" "[I"]
def wsX8_buy : List Cond := .code yX8_buy cX8_buy 7 (some .int) :: ((wsX8_buy_r1 ++ wsX8_buy_r2) ++ wsX80)
def wsX8_give_r1 : List Cond := [Cond.fieldLink RX8 9 "FurPostsModel" "store" "[I", Cond.methodLink RX8 166 yX8_isDeal, Cond.instanceMethod yX8_isDeal, Cond.selects RX8 yX8_isDeal yX8_isDeal, Cond.initialized RX8, Cond.code yX8_isDeal cX8_isDeal 5 (some .boolean), Cond.methodLink RX8 119 yX8_isPost, Cond.instanceMethod yX8_isPost, Cond.selects RX8 yX8_isPost yX8_isPost, Cond.code yX8_isPost cX8_isPost 2 (some .boolean), Cond.fieldLink RX8 104 "FurPostsModel" "posts" "I", Cond.methodLink RX8 108 yX8_in, Cond.static yX8_in, Cond.code yX8_in cX8_in 3 (some .boolean), Cond.methodLink RX8 127 yX8_isWare, Cond.static yX8_isWare, Cond.code yX8_isWare cX8_isWare 1 (some .boolean), Cond.methodLink RX8 130 yX8_stored, Cond.instanceMethod yX8_stored, Cond.selects RX8 yX8_stored yX8_stored, Cond.code yX8_stored cX8_stored 3 (some .int), Cond.methodLink RX8 134 yX8_sums, Cond.instanceMethod yX8_sums, Cond.selects RX8 yX8_sums yX8_sums]
def wsX8_give_r2 : List Cond := [Cond.code yX8_sums cX8_sums 4 none, Cond.fieldLink RX8 98 "FurPostsModel" "sums" "[I"]
def wsX8_give : List Cond := .code yX8_give cX8_give 5 (some .int) :: ((wsX8_give_r1 ++ wsX8_give_r2) ++ wsX80)
def wsX8_owes : List Cond := .code yX8_owes cX8_owes 3 (some .int) :: ([.fieldLink RX8 16 "FurPostsModel" "owes" "[I", .methodLink RX8 119 yX8_isPost, .instanceMethod yX8_isPost, .selects RX8 yX8_isPost yX8_isPost, .initialized RX8, .code yX8_isPost cX8_isPost 2 (some .boolean), .fieldLink RX8 104 "FurPostsModel" "posts" "I", .methodLink RX8 108 yX8_in, .static yX8_in, .code yX8_in cX8_in 3 (some .boolean)] ++ wsX80)
def wsX8_price : List Cond := .code yX8_price cX8_price 3 (some .int) :: ([.fieldLink RX8 13 "FurPostsModel" "price" "[I", .methodLink RX8 119 yX8_isPost, .instanceMethod yX8_isPost, .selects RX8 yX8_isPost yX8_isPost, .initialized RX8, .code yX8_isPost cX8_isPost 2 (some .boolean), .fieldLink RX8 104 "FurPostsModel" "posts" "I", .methodLink RX8 108 yX8_in, .static yX8_in, .code yX8_in cX8_in 3 (some .boolean), .methodLink RX8 127 yX8_isWare, .static yX8_isWare, .code yX8_isWare cX8_isWare 1 (some .boolean)] ++ wsX80)
def wsX8_canWrite : List Cond := .code yX8_canWrite cX8_canWrite 3 (some .boolean) :: ([.fieldLink RX8 144 "FurPostsModel" "letters" "I", .methodLink RX8 119 yX8_isPost, .instanceMethod yX8_isPost, .selects RX8 yX8_isPost yX8_isPost, .initialized RX8, .code yX8_isPost cX8_isPost 2 (some .boolean), .fieldLink RX8 104 "FurPostsModel" "posts" "I", .methodLink RX8 108 yX8_in, .static yX8_in, .code yX8_in cX8_in 3 (some .boolean)] ++ wsX80)
def wsX8_writes : List Cond := .code yX8_writes cX8_writes 6 (some .int) :: ([.fieldLink RX8 74 "FurPostsModel" "letterKind" "[I", .fieldLink RX8 144 "FurPostsModel" "letters" "I", .fieldLink RX8 80 "FurPostsModel" "letterAt" "[I", .fieldLink RX8 77 "FurPostsModel" "letterTo" "[I", .fieldLink RX8 83 "FurPostsModel" "letterOne" "[I", .fieldLink RX8 86 "FurPostsModel" "letterTwo" "[I"] ++ wsX80)
def wsX8_order_r1 : List Cond := [Cond.methodLink RX8 171 yX8_canWrite, Cond.instanceMethod yX8_canWrite, Cond.selects RX8 yX8_canWrite yX8_canWrite, Cond.initialized RX8, Cond.code yX8_canWrite cX8_canWrite 3 (some .boolean), Cond.fieldLink RX8 144 "FurPostsModel" "letters" "I", Cond.methodLink RX8 119 yX8_isPost, Cond.instanceMethod yX8_isPost, Cond.selects RX8 yX8_isPost yX8_isPost, Cond.code yX8_isPost cX8_isPost 2 (some .boolean), Cond.fieldLink RX8 104 "FurPostsModel" "posts" "I", Cond.methodLink RX8 108 yX8_in, Cond.static yX8_in, Cond.code yX8_in cX8_in 3 (some .boolean), Cond.methodLink RX8 127 yX8_isWare, Cond.static yX8_isWare, Cond.code yX8_isWare cX8_isWare 1 (some .boolean), Cond.methodLink RX8 174 yX8_writes, Cond.instanceMethod yX8_writes, Cond.selects RX8 yX8_writes yX8_writes, Cond.code yX8_writes cX8_writes 6 (some .int), Cond.fieldLink RX8 74 "FurPostsModel" "letterKind" "[I", Cond.fieldLink RX8 80 "FurPostsModel" "letterAt" "[I", Cond.fieldLink RX8 77 "FurPostsModel" "letterTo" "[I"]
def wsX8_order_r2 : List Cond := [Cond.fieldLink RX8 83 "FurPostsModel" "letterOne" "[I", Cond.fieldLink RX8 86 "FurPostsModel" "letterTwo" "[I"]
def wsX8_order : List Cond := .code yX8_order cX8_order 5 (some .int) :: ((wsX8_order_r1 ++ wsX8_order_r2) ++ wsX80)
def wsX8_debt_r1 : List Cond := [Cond.fieldLink RX8 16 "FurPostsModel" "owes" "[I", Cond.methodLink RX8 171 yX8_canWrite, Cond.instanceMethod yX8_canWrite, Cond.selects RX8 yX8_canWrite yX8_canWrite, Cond.initialized RX8, Cond.code yX8_canWrite cX8_canWrite 3 (some .boolean), Cond.fieldLink RX8 144 "FurPostsModel" "letters" "I", Cond.methodLink RX8 119 yX8_isPost, Cond.instanceMethod yX8_isPost, Cond.selects RX8 yX8_isPost yX8_isPost, Cond.code yX8_isPost cX8_isPost 2 (some .boolean), Cond.fieldLink RX8 104 "FurPostsModel" "posts" "I", Cond.methodLink RX8 108 yX8_in, Cond.static yX8_in, Cond.code yX8_in cX8_in 3 (some .boolean), Cond.methodLink RX8 178 yX8_owes, Cond.instanceMethod yX8_owes, Cond.selects RX8 yX8_owes yX8_owes, Cond.code yX8_owes cX8_owes 3 (some .int), Cond.methodLink RX8 174 yX8_writes, Cond.instanceMethod yX8_writes, Cond.selects RX8 yX8_writes yX8_writes, Cond.code yX8_writes cX8_writes 6 (some .int), Cond.fieldLink RX8 74 "FurPostsModel" "letterKind" "[I"]
def wsX8_debt_r2 : List Cond := [Cond.fieldLink RX8 80 "FurPostsModel" "letterAt" "[I", Cond.fieldLink RX8 77 "FurPostsModel" "letterTo" "[I", Cond.fieldLink RX8 83 "FurPostsModel" "letterOne" "[I", Cond.fieldLink RX8 86 "FurPostsModel" "letterTwo" "[I"]
def wsX8_debt : List Cond := .code yX8_debt cX8_debt 5 (some .int) :: ((wsX8_debt_r1 ++ wsX8_debt_r2) ++ wsX80)
def wsX8_report_r1 : List Cond := [Cond.fieldLink RX8 137 "FurPostsModel" "now" "I", Cond.fieldLink RX8 89 "FurPostsModel" "letterStore" "[I", Cond.methodLink RX8 171 yX8_canWrite, Cond.instanceMethod yX8_canWrite, Cond.selects RX8 yX8_canWrite yX8_canWrite, Cond.initialized RX8, Cond.code yX8_canWrite cX8_canWrite 3 (some .boolean), Cond.fieldLink RX8 144 "FurPostsModel" "letters" "I", Cond.methodLink RX8 119 yX8_isPost, Cond.instanceMethod yX8_isPost, Cond.selects RX8 yX8_isPost yX8_isPost, Cond.code yX8_isPost cX8_isPost 2 (some .boolean), Cond.fieldLink RX8 104 "FurPostsModel" "posts" "I", Cond.methodLink RX8 108 yX8_in, Cond.static yX8_in, Cond.code yX8_in cX8_in 3 (some .boolean), Cond.methodLink RX8 174 yX8_writes, Cond.instanceMethod yX8_writes, Cond.selects RX8 yX8_writes yX8_writes, Cond.code yX8_writes cX8_writes 6 (some .int), Cond.fieldLink RX8 74 "FurPostsModel" "letterKind" "[I", Cond.fieldLink RX8 80 "FurPostsModel" "letterAt" "[I", Cond.fieldLink RX8 77 "FurPostsModel" "letterTo" "[I", Cond.fieldLink RX8 83 "FurPostsModel" "letterOne" "[I"]
def wsX8_report_r2 : List Cond := [Cond.fieldLink RX8 86 "FurPostsModel" "letterTwo" "[I", Cond.methodLink RX8 130 yX8_stored, Cond.instanceMethod yX8_stored, Cond.selects RX8 yX8_stored yX8_stored, Cond.code yX8_stored cX8_stored 3 (some .int), Cond.fieldLink RX8 9 "FurPostsModel" "store" "[I"]
def wsX8_report : List Cond := .code yX8_report cX8_report 5 (some .int) :: ((wsX8_report_r1 ++ wsX8_report_r2) ++ wsX80)
def wsX8_known : List Cond := .code yX8_known cX8_known 5 (some .int) :: ([.fieldLink RX8 92 "FurPostsModel" "reported" "[I", .fieldLink RX8 89 "FurPostsModel" "letterStore" "[I", .methodLink RX8 119 yX8_isPost, .instanceMethod yX8_isPost, .selects RX8 yX8_isPost yX8_isPost, .initialized RX8, .code yX8_isPost cX8_isPost 2 (some .boolean), .fieldLink RX8 104 "FurPostsModel" "posts" "I", .methodLink RX8 108 yX8_in, .static yX8_in, .code yX8_in cX8_in 3 (some .boolean), .methodLink RX8 127 yX8_isWare, .static yX8_isWare, .code yX8_isWare cX8_isWare 1 (some .boolean), .methodLink RX8 130 yX8_stored, .instanceMethod yX8_stored, .selects RX8 yX8_stored yX8_stored, .code yX8_stored cX8_stored 3 (some .int), .fieldLink RX8 9 "FurPostsModel" "store" "[I"] ++ wsX80)
def wsX8_knownDay : List Cond := .code yX8_knownDay cX8_knownDay 4 (some .int) :: ([.fieldLink RX8 137 "FurPostsModel" "now" "I", .fieldLink RX8 92 "FurPostsModel" "reported" "[I", .fieldLink RX8 86 "FurPostsModel" "letterTwo" "[I", .methodLink RX8 119 yX8_isPost, .instanceMethod yX8_isPost, .selects RX8 yX8_isPost yX8_isPost, .initialized RX8, .code yX8_isPost cX8_isPost 2 (some .boolean), .fieldLink RX8 104 "FurPostsModel" "posts" "I", .methodLink RX8 108 yX8_in, .static yX8_in, .code yX8_in cX8_in 3 (some .boolean)] ++ wsX80)
def wsX8_want : List Cond := .code yX8_want cX8_want 4 (some .boolean) :: ([.fieldLink RX8 95 "FurPostsModel" "parts" "[I", .methodLink RX8 127 yX8_isWare, .static yX8_isWare, .initialized RX8, .code yX8_isWare cX8_isWare 1 (some .boolean), .methodLink RX8 108 yX8_in, .static yX8_in, .code yX8_in cX8_in 3 (some .boolean)] ++ wsX80)
def wsX8_cost : List Cond := .code yX8_cost cX8_cost 10 (some .int) :: ([.fieldLink RX8 95 "FurPostsModel" "parts" "[I", .methodLink RX8 119 yX8_isPost, .instanceMethod yX8_isPost, .selects RX8 yX8_isPost yX8_isPost, .initialized RX8, .code yX8_isPost cX8_isPost 2 (some .boolean), .fieldLink RX8 104 "FurPostsModel" "posts" "I", .methodLink RX8 108 yX8_in, .static yX8_in, .code yX8_in cX8_in 3 (some .boolean), .methodLink RX8 127 yX8_isWare, .static yX8_isWare, .code yX8_isWare cX8_isWare 1 (some .boolean), .methodLink RX8 130 yX8_stored, .instanceMethod yX8_stored, .selects RX8 yX8_stored yX8_stored, .code yX8_stored cX8_stored 3 (some .int), .fieldLink RX8 9 "FurPostsModel" "store" "[I"] ++ wsX80)
def wsX8_indent : List Cond := .code yX8_indent cX8_indent 8 (some .int) :: ([.methodLink RX8 180 yX8_cost, .instanceMethod yX8_cost, .selects RX8 yX8_cost yX8_cost, .initialized RX8, .code yX8_cost cX8_cost 10 (some .int), .fieldLink RX8 95 "FurPostsModel" "parts" "[I", .methodLink RX8 119 yX8_isPost, .instanceMethod yX8_isPost, .selects RX8 yX8_isPost yX8_isPost, .code yX8_isPost cX8_isPost 2 (some .boolean), .fieldLink RX8 104 "FurPostsModel" "posts" "I", .methodLink RX8 108 yX8_in, .static yX8_in, .code yX8_in cX8_in 3 (some .boolean), .methodLink RX8 127 yX8_isWare, .static yX8_isWare, .code yX8_isWare cX8_isWare 1 (some .boolean), .methodLink RX8 130 yX8_stored, .instanceMethod yX8_stored, .selects RX8 yX8_stored yX8_stored, .code yX8_stored cX8_stored 3 (some .int), .fieldLink RX8 9 "FurPostsModel" "store" "[I"] ++ wsX80)
def wsX8_quarrel : List Cond := .code yX8_quarrel cX8_quarrel 5 (some .int) :: ([.fieldLink RX8 112 "FurPostsModel" "canoes" "I", .fieldLink RX8 40 "FurPostsModel" "from" "[I", .fieldLink RX8 43 "FurPostsModel" "to" "[I", .fieldLink RX8 52 "FurPostsModel" "state" "[I", .fieldLink RX8 70 "FurPostsModel" "isOther" "[Z", .methodLink RX8 119 yX8_isPost, .instanceMethod yX8_isPost, .selects RX8 yX8_isPost yX8_isPost, .initialized RX8, .code yX8_isPost cX8_isPost 2 (some .boolean), .fieldLink RX8 104 "FurPostsModel" "posts" "I", .methodLink RX8 108 yX8_in, .static yX8_in, .code yX8_in cX8_in 3 (some .boolean)] ++ wsX80)
def wsX8_canoe : List Cond := .code yX8_canoe cX8_canoe 3 (some .int) :: ([.fieldLink RX8 64 "FurPostsModel" "has" "[I", .fieldLink RX8 67 "FurPostsModel" "sent" "[I", .fieldLink RX8 40 "FurPostsModel" "from" "[I", .fieldLink RX8 43 "FurPostsModel" "to" "[I", .fieldLink RX8 46 "FurPostsModel" "wayOf" "[I", .fieldLink RX8 52 "FurPostsModel" "state" "[I", .fieldLink RX8 49 "FurPostsModel" "toGo" "[I", .fieldLink RX8 55 "FurPostsModel" "sentOn" "[I", .fieldLink RX8 58 "FurPostsModel" "cameOn" "[I", .fieldLink RX8 61 "FurPostsModel" "withLetters" "[I", .methodLink RX8 150 yX8_isCanoe, .instanceMethod yX8_isCanoe, .selects RX8 yX8_isCanoe yX8_isCanoe, .initialized RX8, .code yX8_isCanoe cX8_isCanoe 2 (some .boolean), .fieldLink RX8 112 "FurPostsModel" "canoes" "I", .methodLink RX8 108 yX8_in, .static yX8_in, .code yX8_in cX8_in 3 (some .boolean)] ++ wsX80)
def wsX8_told : List Cond := .code yX8_told cX8_told 5 (some .int) :: ([.fieldLink RX8 144 "FurPostsModel" "letters" "I", .fieldLink RX8 80 "FurPostsModel" "letterAt" "[I", .methodLink RX8 119 yX8_isPost, .instanceMethod yX8_isPost, .selects RX8 yX8_isPost yX8_isPost, .initialized RX8, .code yX8_isPost cX8_isPost 2 (some .boolean), .fieldLink RX8 104 "FurPostsModel" "posts" "I", .methodLink RX8 108 yX8_in, .static yX8_in, .code yX8_in cX8_in 3 (some .boolean), .methodLink RX8 130 yX8_stored, .instanceMethod yX8_stored, .selects RX8 yX8_stored yX8_stored, .code yX8_stored cX8_stored 3 (some .int), .fieldLink RX8 9 "FurPostsModel" "store" "[I", .methodLink RX8 178 yX8_owes, .instanceMethod yX8_owes, .selects RX8 yX8_owes yX8_owes, .code yX8_owes cX8_owes 3 (some .int), .fieldLink RX8 16 "FurPostsModel" "owes" "[I"] ++ wsX80)
def wsX8_count : List Cond := .code yX8_count cX8_count 3 (some .int) :: ([.fieldLink RX8 98 "FurPostsModel" "sums" "[I", .fieldLink RX8 137 "FurPostsModel" "now" "I", .fieldLink RX8 104 "FurPostsModel" "posts" "I", .fieldLink RX8 115 "FurPostsModel" "ways" "I", .fieldLink RX8 112 "FurPostsModel" "canoes" "I", .fieldLink RX8 144 "FurPostsModel" "letters" "I", .fieldLink RX8 156 "FurPostsModel" "debtsLost" "I", .methodLink RX8 108 yX8_in, .static yX8_in, .initialized RX8, .code yX8_in cX8_in 3 (some .boolean), .methodLink RX8 127 yX8_isWare, .static yX8_isWare, .code yX8_isWare cX8_isWare 1 (some .boolean)] ++ wsX80)
def wsJ9_min_7cf53 : List Cond := .code yJ9_min_7cf53 cJ9_min_7cf53 2 (some .int) :: ([])
def wsL_law_r1 : List Cond := [Cond.classLink RL 7 RX7, Cond.instantiable RX7 14, Cond.initialized RX7, Cond.classLink RL 10 RX8, Cond.instantiable RX8 37, Cond.initialized RX8, Cond.methodLink RL 9 yX7_init, Cond.instanceMethod yX7_init, Cond.code yX7_init cX7_init 2 none, Cond.methodLink RX7 1 objectInit, Cond.instanceMethod objectInit, Cond.code objectInit ⟨#[0xb1]⟩ 1 none, Cond.classLink RX7 9 RX4, Cond.fieldLink RX7 11 "FurPosts" "posts" "[LFurPosts$Post;", Cond.classLink RX7 15 RX6, Cond.fieldLink RX7 17 "FurPosts" "ways" "[LFurPosts$Way;", Cond.classLink RX7 21 RX0, Cond.fieldLink RX7 23 "FurPosts" "canoes" "[LFurPosts$Canoe;", Cond.classLink RX7 27 RX2, Cond.fieldLink RX7 29 "FurPosts" "letters" "[LFurPosts$Letter;", Cond.classLink RX7 33 "[[I", Cond.arrayClass .int, Cond.fieldLink RX7 35 "FurPosts" "distances" "[[I", Cond.fieldLink RX7 38 "FurPosts" "wants" "[[I"]
def wsL_law_r2 : List Cond := [Cond.fieldLink RX7 41 "FurPosts" "tallies" "[[I", Cond.fieldLink RX7 44 "FurPosts" "loaded" "[I", Cond.methodLink RX7 48 yJ7_fill_53178, Cond.static yJ7_fill_53178, Cond.initialized RJ7, Cond.code yJ7_fill_53178 cJ7_fill_53178 4 none, Cond.methodLink RL 12 yX8_init, Cond.instanceMethod yX8_init, Cond.code yX8_init cX8_init 2 none, Cond.methodLink RX8 1 objectInit, Cond.fieldLink RX8 9 "FurPostsModel" "store" "[I", Cond.fieldLink RX8 13 "FurPostsModel" "price" "[I", Cond.fieldLink RX8 16 "FurPostsModel" "owes" "[I", Cond.fieldLink RX8 19 "FurPostsModel" "wayA" "[I", Cond.fieldLink RX8 22 "FurPostsModel" "wayB" "[I", Cond.fieldLink RX8 25 "FurPostsModel" "wayLong" "[I", Cond.fieldLink RX8 28 "FurPostsModel" "opens" "[I", Cond.fieldLink RX8 31 "FurPostsModel" "shuts" "[I", Cond.fieldLink RX8 34 "FurPostsModel" "bears" "[I", Cond.fieldLink RX8 37 "FurPostsModel" "loaded" "[I", Cond.fieldLink RX8 40 "FurPostsModel" "from" "[I", Cond.fieldLink RX8 43 "FurPostsModel" "to" "[I", Cond.fieldLink RX8 46 "FurPostsModel" "wayOf" "[I", Cond.fieldLink RX8 49 "FurPostsModel" "toGo" "[I"]
def wsL_law_r3 : List Cond := [Cond.fieldLink RX8 52 "FurPostsModel" "state" "[I", Cond.fieldLink RX8 55 "FurPostsModel" "sentOn" "[I", Cond.fieldLink RX8 58 "FurPostsModel" "cameOn" "[I", Cond.fieldLink RX8 61 "FurPostsModel" "withLetters" "[I", Cond.fieldLink RX8 64 "FurPostsModel" "has" "[I", Cond.fieldLink RX8 67 "FurPostsModel" "sent" "[I", Cond.arrayClass .boolean, Cond.fieldLink RX8 70 "FurPostsModel" "isOther" "[Z", Cond.fieldLink RX8 74 "FurPostsModel" "letterKind" "[I", Cond.fieldLink RX8 77 "FurPostsModel" "letterTo" "[I", Cond.fieldLink RX8 80 "FurPostsModel" "letterAt" "[I", Cond.fieldLink RX8 83 "FurPostsModel" "letterOne" "[I", Cond.fieldLink RX8 86 "FurPostsModel" "letterTwo" "[I", Cond.fieldLink RX8 89 "FurPostsModel" "letterStore" "[I", Cond.fieldLink RX8 92 "FurPostsModel" "reported" "[I", Cond.fieldLink RX8 95 "FurPostsModel" "parts" "[I", Cond.fieldLink RX8 98 "FurPostsModel" "sums" "[I", Cond.fieldLink RX8 101 "FurPostsModel" "far" "[I", Cond.methodLink RL 13 yX7_post, Cond.instanceMethod yX7_post, Cond.selects RX7 yX7_post yX7_post, Cond.code yX7_post cX7_post 1 (some .int), Cond.fieldLink RX7 54 "FurPosts" "postCount" "I", Cond.instantiable RX4 4]
def wsL_law_r4 : List Cond := [Cond.initialized RX4, Cond.methodLink RX7 58 yX4_init, Cond.instanceMethod yX4_init, Cond.code yX4_init cX4_init 1 none, Cond.methodLink RX4 3 objectInit, Cond.fieldLink RX4 9 "FurPosts$Post" "stock" "[I", Cond.fieldLink RX4 15 "FurPosts$Post" "prices" "[I", Cond.fieldLink RX4 18 "FurPosts$Post" "owed" "[I", Cond.classLink RX4 21 RX5, Cond.fieldLink RX4 23 "FurPosts$Post" "reports" "[LFurPosts$Report;", Cond.methodLink RX4 27 yJ7_fill_53178, Cond.methodLink RL 17 yX8_post, Cond.instanceMethod yX8_post, Cond.selects RX8 yX8_post yX8_post, Cond.code yX8_post cX8_post 1 (some .int), Cond.fieldLink RX8 104 "FurPostsModel" "posts" "I", Cond.methodLink RL 18 yX7_way, Cond.instanceMethod yX7_way, Cond.selects RX7 yX7_way yX7_way, Cond.code yX7_way cX7_way 8 (some .int), Cond.fieldLink RX7 63 "FurPosts" "wayCount" "I", Cond.constant RX7 70 (1000000), Cond.instantiable RX6 6, Cond.initialized RX6]
def wsL_law_r5 : List Cond := [Cond.methodLink RX7 59 yX7_areTwoPosts, Cond.instanceMethod yX7_areTwoPosts, Cond.selects RX7 yX7_areTwoPosts yX7_areTwoPosts, Cond.code yX7_areTwoPosts cX7_areTwoPosts 3 (some .boolean), Cond.methodLink RX7 84 yX7_postAt, Cond.instanceMethod yX7_postAt, Cond.selects RX7 yX7_postAt yX7_postAt, Cond.code yX7_postAt cX7_postAt 2 (some (.object "FurPosts$Post")), Cond.methodLink RX7 66 yX7_isWithin, Cond.static yX7_isWithin, Cond.code yX7_isWithin cX7_isWithin 3 (some .boolean), Cond.methodLink RX7 71 yX6_init, Cond.instanceMethod yX6_init, Cond.code yX6_init cX6_init 7 none, Cond.methodLink RX6 3 objectInit, Cond.fieldLink RX6 9 "FurPosts$Way" "a" "I", Cond.fieldLink RX6 15 "FurPosts$Way" "b" "I", Cond.fieldLink RX6 18 "FurPosts$Way" "days" "I", Cond.fieldLink RX6 21 "FurPosts$Way" "firstOpen" "I", Cond.fieldLink RX6 24 "FurPosts$Way" "lastOpen" "I", Cond.fieldLink RX6 27 "FurPosts$Way" "bears" "I", Cond.methodLink RX7 74 yX7_shortenDistances, Cond.instanceMethod yX7_shortenDistances, Cond.selects RX7 yX7_shortenDistances yX7_shortenDistances]
def wsL_law_r6 : List Cond := [Cond.code yX7_shortenDistances cX7_shortenDistances 7 none, Cond.methodLink RX7 78 Lib.Math.min.name, Cond.static Lib.Math.min.name, Cond.initialized "java/lang/Math", Cond.code Lib.Math.min.name Lib.Math.min.code 2 (some .int), Cond.methodLink RL 22 yX8_way, Cond.instanceMethod yX8_way, Cond.selects RX8 yX8_way yX8_way, Cond.code yX8_way cX8_way 8 (some .int), Cond.constant RX8 118 (1000000), Cond.fieldLink RX8 115 "FurPostsModel" "ways" "I", Cond.methodLink RX8 108 yX8_in, Cond.static yX8_in, Cond.code yX8_in cX8_in 3 (some .boolean), Cond.methodLink RX8 119 yX8_isPost, Cond.instanceMethod yX8_isPost, Cond.selects RX8 yX8_isPost yX8_isPost, Cond.code yX8_isPost cX8_isPost 2 (some .boolean), Cond.methodLink RX8 123 yX8_between, Cond.instanceMethod yX8_between, Cond.selects RX8 yX8_between yX8_between, Cond.code yX8_between cX8_between 4 (some .int), Cond.methodLink RL 23 yX7_store, Cond.instanceMethod yX7_store]
def wsL_law_r7 : List Cond := [Cond.selects RX7 yX7_store yX7_store, Cond.code yX7_store cX7_store 5 (some .int), Cond.fieldLink RX7 92 "FurPosts$Post" "stock" "[I", Cond.constant RX7 95 (100000), Cond.methodLink RX7 88 yX7_isWare, Cond.static yX7_isWare, Cond.code yX7_isWare cX7_isWare 1 (some .boolean), Cond.methodLink RL 27 yX8_store, Cond.instanceMethod yX8_store, Cond.selects RX8 yX8_store yX8_store, Cond.code yX8_store cX8_store 4 (some .int), Cond.constant RX8 133 (100000), Cond.methodLink RX8 127 yX8_isWare, Cond.static yX8_isWare, Cond.code yX8_isWare cX8_isWare 1 (some .boolean), Cond.methodLink RX8 130 yX8_stored, Cond.instanceMethod yX8_stored, Cond.selects RX8 yX8_stored yX8_stored, Cond.code yX8_stored cX8_stored 3 (some .int), Cond.methodLink RX8 134 yX8_sums, Cond.instanceMethod yX8_sums, Cond.selects RX8 yX8_sums yX8_sums, Cond.code yX8_sums cX8_sums 4 none, Cond.methodLink RL 28 yX7_load]
def wsL_law_r8 : List Cond := [Cond.instanceMethod yX7_load, Cond.selects RX7 yX7_load yX7_load, Cond.code yX7_load cX7_load 3 (some .boolean), Cond.methodLink RL 32 yX8_load, Cond.instanceMethod yX8_load, Cond.selects RX8 yX8_load yX8_load, Cond.code yX8_load cX8_load 3 (some .boolean), Cond.methodLink RL 33 yX7_send, Cond.instanceMethod yX7_send, Cond.selects RX7 yX7_send yX7_send, Cond.code yX7_send cX7_send 8 (some .int), Cond.fieldLink RX7 103 "FurPosts" "now" "I", Cond.fieldLink RX7 113 "FurPosts" "canoeCount" "I", Cond.instantiable RX0 11, Cond.initialized RX0, Cond.fieldLink RX7 120 "FurPosts$Way" "days" "I", Cond.methodLink RX7 123 ⟨"[I", "clone", "()Ljava/lang/Object;"⟩, Cond.sameMethod "[I" "java/lang/Object" "clone" "()Ljava/lang/Object;", Cond.native ⟨"java/lang/Object", "clone", "()Ljava/lang/Object;"⟩, Cond.instanceMethod ⟨"java/lang/Object", "clone", "()Ljava/lang/Object;"⟩, Cond.selects "[I" ⟨"[I", "clone", "()Ljava/lang/Object;"⟩ ⟨"java/lang/Object", "clone", "()Ljava/lang/Object;"⟩, Cond.classLink RX7 124 "[I", Cond.fieldLink RX7 135 "FurPosts$Canoe" "lettersSent" "I", Cond.methodLink RX7 96 yX7_wayAt]
def wsL_law_r9 : List Cond := [Cond.instanceMethod yX7_wayAt, Cond.selects RX7 yX7_wayAt yX7_wayAt, Cond.code yX7_wayAt cX7_wayAt 2 (some (.object "FurPosts$Way")), Cond.methodLink RX7 100 yX6_startsAt, Cond.instanceMethod yX6_startsAt, Cond.selects RX6 yX6_startsAt yX6_startsAt, Cond.code yX6_startsAt cX6_startsAt 2 (some .boolean), Cond.methodLink RX7 106 yX6_isOpenOn, Cond.instanceMethod yX6_isOpenOn, Cond.selects RX6 yX6_isOpenOn yX6_isOpenOn, Cond.code yX6_isOpenOn cX6_isOpenOn 2 (some .boolean), Cond.methodLink RX7 109 yX7_canLoad, Cond.instanceMethod yX7_canLoad, Cond.selects RX7 yX7_canLoad yX7_canLoad, Cond.code yX7_canLoad cX7_canLoad 5 (some .boolean), Cond.fieldLink RX7 162 "FurPosts$Way" "bears" "I", Cond.methodLink RX7 116 yX6_otherEnd, Cond.instanceMethod yX6_otherEnd, Cond.selects RX6 yX6_otherEnd yX6_otherEnd, Cond.code yX6_otherEnd cX6_otherEnd 2 (some .int), Cond.methodLink RX7 128 yX0_init, Cond.instanceMethod yX0_init, Cond.code yX0_init cX0_init 7 none, Cond.methodLink RX0 3 objectInit]
def wsL_law_r10 : List Cond := [Cond.fieldLink RX0 9 "FurPosts$Canoe" "dayCame" "I", Cond.fieldLink RX0 15 "FurPosts$Canoe" "state" "I", Cond.fieldLink RX0 18 "FurPosts$Canoe" "from" "I", Cond.fieldLink RX0 21 "FurPosts$Canoe" "to" "I", Cond.fieldLink RX0 24 "FurPosts$Canoe" "way" "I", Cond.fieldLink RX0 27 "FurPosts$Canoe" "daysToGo" "I", Cond.fieldLink RX0 30 "FurPosts$Canoe" "daySent" "I", Cond.fieldLink RX0 33 "FurPosts$Canoe" "waresSent" "[I", Cond.methodLink RX0 37 ⟨"[I", "clone", "()Ljava/lang/Object;"⟩, Cond.classLink RX0 38 "[I", Cond.fieldLink RX0 42 "FurPosts$Canoe" "wares" "[I", Cond.methodLink RX7 131 yX7_takeLetters, Cond.instanceMethod yX7_takeLetters, Cond.selects RX7 yX7_takeLetters yX7_takeLetters, Cond.code yX7_takeLetters cX7_takeLetters 6 (some .int), Cond.fieldLink RX7 165 "FurPosts" "letterCount" "I", Cond.fieldLink RX7 172 "FurPosts$Letter" "bag" "I", Cond.fieldLink RX7 175 "FurPosts$Canoe" "from" "I", Cond.fieldLink RX7 178 "FurPosts$Letter" "to" "I", Cond.fieldLink RX7 184 "FurPosts$Canoe" "to" "I", Cond.fieldLink RX7 185 "FurPosts$Letter" "carrier" "I", Cond.methodLink RX7 168 yX7_letterAt, Cond.instanceMethod yX7_letterAt, Cond.selects RX7 yX7_letterAt yX7_letterAt]
def wsL_law_r11 : List Cond := [Cond.code yX7_letterAt cX7_letterAt 2 (some (.object "FurPosts$Letter")), Cond.methodLink RX7 181 yX7_next, Cond.instanceMethod yX7_next, Cond.selects RX7 yX7_next yX7_next, Cond.code yX7_next cX7_next 4 (some .int), Cond.methodLink RL 37 yX8_send, Cond.instanceMethod yX8_send, Cond.selects RX8 yX8_send yX8_send, Cond.code yX8_send cX8_send 6 (some .int), Cond.fieldLink RX8 137 "FurPostsModel" "now" "I", Cond.fieldLink RX8 112 "FurPostsModel" "canoes" "I", Cond.fieldLink RX8 144 "FurPostsModel" "letters" "I", Cond.methodLink RX8 140 yX8_isOpen, Cond.instanceMethod yX8_isOpen, Cond.selects RX8 yX8_isOpen yX8_isOpen, Cond.code yX8_isOpen cX8_isOpen 3 (some .boolean), Cond.methodLink RX8 147 yX8_next, Cond.instanceMethod yX8_next, Cond.selects RX8 yX8_next yX8_next, Cond.code yX8_next cX8_next 5 (some .int), Cond.methodLink RL 38 yX7_lose, Cond.instanceMethod yX7_lose, Cond.selects RX7 yX7_lose yX7_lose, Cond.code yX7_lose cX7_lose 5 (some .int)]
def wsL_law_r12 : List Cond := [Cond.fieldLink RX7 142 "FurPosts$Canoe" "state" "I", Cond.fieldLink RX7 145 "FurPosts$Canoe" "daysToGo" "I", Cond.fieldLink RX7 148 "FurPosts$Canoe" "wares" "[I", Cond.methodLink RX7 138 yX7_canoeAt, Cond.instanceMethod yX7_canoeAt, Cond.selects RX7 yX7_canoeAt yX7_canoeAt, Cond.code yX7_canoeAt cX7_canoeAt 2 (some (.object "FurPosts$Canoe")), Cond.methodLink RX7 151 yX7_loseLetters, Cond.instanceMethod yX7_loseLetters, Cond.selects RX7 yX7_loseLetters yX7_loseLetters, Cond.code yX7_loseLetters cX7_loseLetters 4 none, Cond.classLink RX7 188 "FurPosts$Debt", Cond.fieldLink RX7 190 "FurPosts" "debtsLost" "I", Cond.methodLink RL 42 yX8_lose, Cond.instanceMethod yX8_lose, Cond.selects RX8 yX8_lose yX8_lose, Cond.code yX8_lose cX8_lose 4 (some .int), Cond.fieldLink RX8 156 "FurPostsModel" "debtsLost" "I", Cond.methodLink RX8 153 yX8_isAway, Cond.instanceMethod yX8_isAway, Cond.selects RX8 yX8_isAway yX8_isAway, Cond.code yX8_isAway cX8_isAway 2 (some .boolean), Cond.methodLink RX8 150 yX8_isCanoe, Cond.instanceMethod yX8_isCanoe]
def wsL_law_r13 : List Cond := [Cond.selects RX8 yX8_isCanoe yX8_isCanoe, Cond.code yX8_isCanoe cX8_isCanoe 2 (some .boolean), Cond.methodLink RL 43 yX7_spoil, Cond.instanceMethod yX7_spoil, Cond.selects RX7 yX7_spoil yX7_spoil, Cond.code yX7_spoil cX7_spoil 5 (some .boolean), Cond.fieldLink RX7 155 "FurPosts$Canoe" "spoilt" "Z", Cond.methodLink RL 47 yX8_spoil, Cond.instanceMethod yX8_spoil, Cond.selects RX8 yX8_spoil yX8_spoil, Cond.code yX8_spoil cX8_spoil 4 (some .boolean), Cond.methodLink RL 48 yX7_go, Cond.instanceMethod yX7_go, Cond.selects RX7 yX7_go yX7_go, Cond.code yX7_go cX7_go 4 (some .int), Cond.methodLink RX7 159 yX7_moveCanoe, Cond.instanceMethod yX7_moveCanoe, Cond.selects RX7 yX7_moveCanoe yX7_moveCanoe, Cond.code yX7_moveCanoe cX7_moveCanoe 5 none, Cond.fieldLink RX7 193 "FurPosts$Canoe" "way" "I", Cond.methodLink RX7 196 yX7_landCanoe, Cond.instanceMethod yX7_landCanoe, Cond.selects RX7 yX7_landCanoe yX7_landCanoe, Cond.code yX7_landCanoe cX7_landCanoe 4 none]
def wsL_law_r14 : List Cond := [Cond.fieldLink RX7 204 "FurPosts$Canoe" "dayCame" "I", Cond.methodLink RX7 200 yX7_landLetters, Cond.instanceMethod yX7_landLetters, Cond.selects RX7 yX7_landLetters yX7_landLetters, Cond.code yX7_landLetters cX7_landLetters 6 none, Cond.methodLink RX7 207 ⟨"FurPosts$Letter", "readAt", "(LFurPosts$Post;)V"⟩, Cond.sameMethod "FurPosts$Letter" "FurPosts$Letter" "readAt" "(LFurPosts$Post;)V", Cond.selects RX1 ⟨"FurPosts$Letter", "readAt", "(LFurPosts$Post;)V"⟩ yX1_readAt, Cond.instanceMethod yX1_readAt, Cond.initialized RX1, Cond.code yX1_readAt cX1_readAt 2 none, Cond.fieldLink RX1 7 "FurPosts$Debt" "hunter" "I", Cond.fieldLink RX1 22 "FurPosts$Post" "owed" "[I", Cond.fieldLink RX1 13 "FurPosts$Debt" "coins" "I", Cond.static yX7_isHunter, Cond.code yX7_isHunter cX7_isHunter 1 (some .boolean), Cond.selects RX3 ⟨"FurPosts$Letter", "readAt", "(LFurPosts$Post;)V"⟩ yX3_readAt, Cond.instanceMethod yX3_readAt, Cond.initialized RX3, Cond.code yX3_readAt cX3_readAt 2 none, Cond.fieldLink RX3 7 "FurPosts$Order" "ware" "I", Cond.fieldLink RX3 22 "FurPosts$Post" "prices" "[I", Cond.fieldLink RX3 13 "FurPosts$Order" "asked" "I", Cond.selects RX5 ⟨"FurPosts$Letter", "readAt", "(LFurPosts$Post;)V"⟩ yX5_readAt]
def wsL_law_r15 : List Cond := [Cond.instanceMethod yX5_readAt, Cond.initialized RX5, Cond.code yX5_readAt cX5_readAt 3 none, Cond.fieldLink RX5 19 "FurPosts$Report" "from" "I", Cond.sameField "FurPosts$Report" "FurPosts$Letter" "from" "I", Cond.fieldLink RX5 9 "FurPosts$Report" "day" "I", Cond.fieldLink RX5 28 "FurPosts$Post" "reports" "[LFurPosts$Report;", Cond.methodLink RX5 22 yX4_reportOf, Cond.instanceMethod yX4_reportOf, Cond.selects RX4 yX4_reportOf yX4_reportOf, Cond.code yX4_reportOf cX4_reportOf 2 (some (.object "FurPosts$Report")), Cond.methodLink RL 51 yX8_go, Cond.instanceMethod yX8_go, Cond.selects RX8 yX8_go yX8_go, Cond.code yX8_go cX8_go 4 (some .int), Cond.methodLink RX8 163 yX8_comes, Cond.instanceMethod yX8_comes, Cond.selects RX8 yX8_comes yX8_comes, Cond.code yX8_comes cX8_comes 4 none, Cond.methodLink RX8 159 yX8_reads, Cond.instanceMethod yX8_reads, Cond.selects RX8 yX8_reads yX8_reads, Cond.code yX8_reads cX8_reads 4 none, Cond.methodLink RL 52 yX7_sell]
def wsL_law_r16 : List Cond := [Cond.instanceMethod yX7_sell, Cond.selects RX7 yX7_sell yX7_sell, Cond.code yX7_sell cX7_sell 7 (some .int), Cond.fieldLink RX7 214 "FurPosts$Post" "owed" "[I", Cond.fieldLink RX7 217 "FurPosts$Post" "prices" "[I", Cond.methodLink RX7 211 yX7_isTrade, Cond.static yX7_isTrade, Cond.code yX7_isTrade cX7_isTrade 3 (some .boolean), Cond.methodLink RX7 221 yX7_isHunter, Cond.methodLink RL 55 yX8_sell, Cond.instanceMethod yX8_sell, Cond.selects RX8 yX8_sell yX8_sell, Cond.code yX8_sell cX8_sell 7 (some .int), Cond.methodLink RX8 166 yX8_isDeal, Cond.instanceMethod yX8_isDeal, Cond.selects RX8 yX8_isDeal yX8_isDeal, Cond.code yX8_isDeal cX8_isDeal 5 (some .boolean), Cond.methodLink RL 56 yX7_buy, Cond.instanceMethod yX7_buy, Cond.selects RX7 yX7_buy yX7_buy, Cond.code yX7_buy cX7_buy 7 (some .int), Cond.constant RX7 220 (-100000), Cond.methodLink RL 59 yX8_buy, Cond.instanceMethod yX8_buy]
def wsL_law_r17 : List Cond := [Cond.selects RX8 yX8_buy yX8_buy, Cond.code yX8_buy cX8_buy 7 (some .int), Cond.constant RX8 170 (-100000), Cond.methodLink RL 60 yX7_give, Cond.instanceMethod yX7_give, Cond.selects RX7 yX7_give yX7_give, Cond.code yX7_give cX7_give 6 (some .int), Cond.methodLink RL 63 yX8_give, Cond.instanceMethod yX8_give, Cond.selects RX8 yX8_give yX8_give, Cond.code yX8_give cX8_give 5 (some .int), Cond.methodLink RL 64 yX7_owes, Cond.instanceMethod yX7_owes, Cond.selects RX7 yX7_owes yX7_owes, Cond.code yX7_owes cX7_owes 4 (some .int), Cond.methodLink RL 67 yX8_owes, Cond.instanceMethod yX8_owes, Cond.selects RX8 yX8_owes yX8_owes, Cond.code yX8_owes cX8_owes 3 (some .int), Cond.methodLink RL 68 yX7_price, Cond.instanceMethod yX7_price, Cond.selects RX7 yX7_price yX7_price, Cond.code yX7_price cX7_price 4 (some .int), Cond.methodLink RL 71 yX8_price]
def wsL_law_r18 : List Cond := [Cond.instanceMethod yX8_price, Cond.selects RX8 yX8_price yX8_price, Cond.code yX8_price cX8_price 3 (some .int), Cond.methodLink RL 72 yX7_order, Cond.instanceMethod yX7_order, Cond.selects RX7 yX7_order yX7_order, Cond.code yX7_order cX7_order 5 (some .int), Cond.classLink RX7 227 RX3, Cond.instantiable RX3 6, Cond.methodLink RX7 224 yX7_canWrite, Cond.instanceMethod yX7_canWrite, Cond.selects RX7 yX7_canWrite yX7_canWrite, Cond.code yX7_canWrite cX7_canWrite 3 (some .boolean), Cond.methodLink RX7 229 yX3_init, Cond.instanceMethod yX3_init, Cond.code yX3_init cX3_init 5 none, Cond.methodLink RX3 1 yX2_init, Cond.instanceMethod yX2_init, Cond.initialized RX2, Cond.code yX2_init cX2_init 3 none, Cond.methodLink RX2 3 objectInit, Cond.fieldLink RX2 9 "FurPosts$Letter" "carrier" "I", Cond.fieldLink RX2 15 "FurPosts$Letter" "from" "I", Cond.fieldLink RX2 18 "FurPosts$Letter" "to" "I"]
def wsL_law_r19 : List Cond := [Cond.fieldLink RX2 21 "FurPosts$Letter" "bag" "I", Cond.methodLink RX7 232 yX7_putInBag, Cond.instanceMethod yX7_putInBag, Cond.selects RX7 yX7_putInBag yX7_putInBag, Cond.code yX7_putInBag cX7_putInBag 2 (some .int), Cond.methodLink RL 75 yX8_order, Cond.instanceMethod yX8_order, Cond.selects RX8 yX8_order yX8_order, Cond.code yX8_order cX8_order 5 (some .int), Cond.methodLink RX8 171 yX8_canWrite, Cond.instanceMethod yX8_canWrite, Cond.selects RX8 yX8_canWrite yX8_canWrite, Cond.code yX8_canWrite cX8_canWrite 3 (some .boolean), Cond.methodLink RX8 174 yX8_writes, Cond.instanceMethod yX8_writes, Cond.selects RX8 yX8_writes yX8_writes, Cond.code yX8_writes cX8_writes 6 (some .int), Cond.methodLink RL 76 yX7_debt, Cond.instanceMethod yX7_debt, Cond.selects RX7 yX7_debt yX7_debt, Cond.code yX7_debt cX7_debt 6 (some .int), Cond.classLink RX7 188 RX1, Cond.instantiable RX1 6, Cond.methodLink RX7 236 yX1_init]
def wsL_law_r20 : List Cond := [Cond.instanceMethod yX1_init, Cond.code yX1_init cX1_init 5 none, Cond.methodLink RX1 1 yX2_init, Cond.methodLink RL 79 yX8_debt, Cond.instanceMethod yX8_debt, Cond.selects RX8 yX8_debt yX8_debt, Cond.code yX8_debt cX8_debt 5 (some .int), Cond.methodLink RX8 178 yX8_owes, Cond.methodLink RL 80 yX7_report, Cond.instanceMethod yX7_report, Cond.selects RX7 yX7_report yX7_report, Cond.code yX7_report cX7_report 4 (some .int), Cond.classLink RX7 237 RX5, Cond.instantiable RX5 6, Cond.methodLink RX7 239 yX5_init, Cond.instanceMethod yX5_init, Cond.code yX5_init cX5_init 5 none, Cond.fieldLink RX5 15 "FurPosts$Report" "stock" "[I", Cond.methodLink RX5 3 yX2_init, Cond.methodLink RL 83 yX8_report, Cond.instanceMethod yX8_report, Cond.selects RX8 yX8_report yX8_report, Cond.code yX8_report cX8_report 5 (some .int), Cond.methodLink RL 84 yX7_known]
def wsL_law_r21 : List Cond := [Cond.instanceMethod yX7_known, Cond.selects RX7 yX7_known yX7_known, Cond.code yX7_known cX7_known 6 (some .int), Cond.fieldLink RX7 246 "FurPosts$Report" "stock" "[I", Cond.methodLink RX7 242 yX4_reportOf, Cond.methodLink RL 87 yX8_known, Cond.instanceMethod yX8_known, Cond.selects RX8 yX8_known yX8_known, Cond.code yX8_known cX8_known 5 (some .int), Cond.methodLink RL 88 yX7_knownDay, Cond.instanceMethod yX7_knownDay, Cond.selects RX7 yX7_knownDay yX7_knownDay, Cond.code yX7_knownDay cX7_knownDay 5 (some .int), Cond.fieldLink RX7 247 "FurPosts$Report" "day" "I", Cond.methodLink RL 91 yX8_knownDay, Cond.instanceMethod yX8_knownDay, Cond.selects RX8 yX8_knownDay yX8_knownDay, Cond.code yX8_knownDay cX8_knownDay 4 (some .int), Cond.methodLink RL 92 yX7_next, Cond.methodLink RL 95 yX8_next, Cond.methodLink RL 96 yX7_want, Cond.instanceMethod yX7_want, Cond.selects RX7 yX7_want yX7_want, Cond.code yX7_want cX7_want 4 (some .boolean)]
def wsL_law_r22 : List Cond := [Cond.methodLink RL 99 yX8_want, Cond.instanceMethod yX8_want, Cond.selects RX8 yX8_want yX8_want, Cond.code yX8_want cX8_want 4 (some .boolean), Cond.methodLink RL 100 yX7_indent, Cond.instanceMethod yX7_indent, Cond.selects RX7 yX7_indent yX7_indent, Cond.code yX7_indent cX7_indent 9 (some .int), Cond.methodLink RX7 250 yX7_cost, Cond.instanceMethod yX7_cost, Cond.selects RX7 yX7_cost yX7_cost, Cond.code yX7_cost cX7_cost 11 (some .int), Cond.methodLink RX7 254 yX7_areWantsRight, Cond.instanceMethod yX7_areWantsRight, Cond.selects RX7 yX7_areWantsRight yX7_areWantsRight, Cond.code yX7_areWantsRight cX7_areWantsRight 4 (some .boolean), Cond.methodLink RL 103 yX8_indent, Cond.instanceMethod yX8_indent, Cond.selects RX8 yX8_indent yX8_indent, Cond.code yX8_indent cX8_indent 8 (some .int), Cond.methodLink RX8 180 yX8_cost, Cond.instanceMethod yX8_cost, Cond.selects RX8 yX8_cost yX8_cost, Cond.code yX8_cost cX8_cost 10 (some .int)]
def wsL_law_r23 : List Cond := [Cond.methodLink RL 104 yX7_cost, Cond.methodLink RL 108 yX8_cost, Cond.methodLink RL 109 yX7_quarrel, Cond.instanceMethod yX7_quarrel, Cond.selects RX7 yX7_quarrel yX7_quarrel, Cond.code yX7_quarrel cX7_quarrel 5 (some .int), Cond.methodLink RX7 257 yX0_isBetween, Cond.instanceMethod yX0_isBetween, Cond.selects RX0 yX0_isBetween yX0_isBetween, Cond.code yX0_isBetween cX0_isBetween 3 (some .boolean), Cond.methodLink RX7 260 yX0_partsBooks, Cond.instanceMethod yX0_partsBooks, Cond.selects RX0 yX0_partsBooks yX0_partsBooks, Cond.code yX0_partsBooks cX0_partsBooks 1 (some .boolean), Cond.fieldLink RX0 45 "FurPosts$Canoe" "spoilt" "Z", Cond.methodLink RL 112 yX8_quarrel, Cond.instanceMethod yX8_quarrel, Cond.selects RX8 yX8_quarrel yX8_quarrel, Cond.code yX8_quarrel cX8_quarrel 5 (some .int), Cond.methodLink RL 113 yX7_canoe, Cond.instanceMethod yX7_canoe, Cond.selects RX7 yX7_canoe yX7_canoe, Cond.code yX7_canoe cX7_canoe 4 (some .int), Cond.fieldLink RX7 264 "FurPosts$Canoe" "waresSent" "[I"]
def wsL_law_r24 : List Cond := [Cond.fieldLink RX7 267 "FurPosts$Canoe" "daySent" "I", Cond.methodLink RL 116 yX8_canoe, Cond.instanceMethod yX8_canoe, Cond.selects RX8 yX8_canoe yX8_canoe, Cond.code yX8_canoe cX8_canoe 3 (some .int), Cond.methodLink RL 117 yX7_told, Cond.instanceMethod yX7_told, Cond.selects RX7 yX7_told yX7_told, Cond.code yX7_told cX7_told 4 (some .int), Cond.methodLink RX7 270 yX7_countBag, Cond.instanceMethod yX7_countBag, Cond.selects RX7 yX7_countBag yX7_countBag, Cond.code yX7_countBag cX7_countBag 5 (some .int), Cond.methodLink RX7 273 yX4_owedByAll, Cond.instanceMethod yX4_owedByAll, Cond.selects RX4 yX4_owedByAll yX4_owedByAll, Cond.code yX4_owedByAll cX4_owedByAll 3 (some .int), Cond.methodLink RL 120 yX8_told, Cond.instanceMethod yX8_told, Cond.selects RX8 yX8_told yX8_told, Cond.code yX8_told cX8_told 5 (some .int), Cond.methodLink RL 121 yX7_count, Cond.instanceMethod yX7_count, Cond.selects RX7 yX7_count yX7_count]
def wsL_law_r25 : List Cond := [Cond.code yX7_count cX7_count 3 (some .int), Cond.methodLink RX7 277 yX7_countOfAll, Cond.instanceMethod yX7_countOfAll, Cond.selects RX7 yX7_countOfAll yX7_countOfAll, Cond.code yX7_countOfAll cX7_countOfAll 2 (some .int), Cond.methodLink RL 124 yX8_count, Cond.instanceMethod yX8_count, Cond.selects RX8 yX8_count yX8_count, Cond.code yX8_count cX8_count 3 (some .int)]
def wsL_law : List Cond := (wsL_law_r1 ++ (wsL_law_r2 ++ (wsL_law_r3 ++ (wsL_law_r4 ++ (wsL_law_r5 ++ (wsL_law_r6 ++ (wsL_law_r7 ++ (wsL_law_r8 ++ (wsL_law_r9 ++ (wsL_law_r10 ++ (wsL_law_r11 ++ (wsL_law_r12 ++ (wsL_law_r13 ++ (wsL_law_r14 ++ (wsL_law_r15 ++ (wsL_law_r16 ++ (wsL_law_r17 ++ (wsL_law_r18 ++ (wsL_law_r19 ++ (wsL_law_r20 ++ (wsL_law_r21 ++ (wsL_law_r22 ++ (wsL_law_r23 ++ (wsL_law_r24 ++ wsL_law_r25)))))))))))))))))))))))) ++ wsX70 ++ wsX80 ++ wsX40 ++ wsX60 ++ wsX00 ++ wsX10 ++ wsX30 ++ wsX50 ++ ([] : List Cond)
end
section
/-! the words of the law among the tables' words, a list at a time -/
set_option maxRecDepth 20000 in
theorem wsL_law_r1_in : ∀ w ∈ wsL_law_r1, w ∈ lw_tbl := fun w h => (goodIn_r wsL_law_r1 [41, 42, 30, 522, 523, 32, 43, 44, 45, 46, 47, 48, 49, 62, 51, 63, 53, 64, 55, 65, 57, 105, 66, 67] (by decide +kernel) (by decide +kernel) w h).1
set_option maxRecDepth 20000 in
theorem wsL_law_r2_in : ∀ w ∈ wsL_law_r2, w ∈ lw_tbl := fun w h => (goodIn_r wsL_law_r2 [68, 69, 59, 60, 31, 61, 524, 525, 526, 527, 530, 531, 532, 534, 535, 536, 537, 538, 539, 540, 542, 543, 544, 545] (by decide +kernel) (by decide +kernel) w h).1
set_option maxRecDepth 20000 in
theorem wsL_law_r3_in : ∀ w ∈ wsL_law_r3, w ∈ lw_tbl := fun w h => (goodIn_r wsL_law_r3 [546, 547, 548, 549, 550, 551, 640, 552, 554, 555, 556, 557, 558, 559, 560, 561, 562, 564, 106, 107, 108, 109, 71, 110] (by decide +kernel) (by decide +kernel) w h).1
set_option maxRecDepth 20000 in
theorem wsL_law_r4_in : ∀ w ∈ wsL_law_r4, w ∈ lw_tbl := fun w h => (goodIn_r wsL_law_r4 [33, 111, 112, 113, 114, 118, 120, 123, 115, 126, 117, 641, 642, 643, 644, 529, 137, 138, 139, 140, 72, 152, 153, 34] (by decide +kernel) (by decide +kernel) w h).1
set_option maxRecDepth 20000 in
theorem wsL_law_r5_in : ∀ w ∈ wsL_law_r5, w ∈ lw_tbl := fun w h => (goodIn_r wsL_law_r5 [141, 143, 0, 144, 145, 147, 1, 148, 149, 150, 151, 154, 155, 156, 157, 158, 159, 160, 162, 163, 164, 179, 181, 2] (by decide +kernel) (by decide +kernel) w h).1
set_option maxRecDepth 20000 in
theorem wsL_law_r6_in : ∀ w ∈ wsL_law_r6, w ∈ lw_tbl := fun w h => (goodIn_r wsL_law_r6 [182, 183, 184, 35, 185, 645, 646, 647, 648, 649, 533, 650, 651, 652, 653, 655, 17, 656, 657, 659, 18, 660, 190, 191] (by decide +kernel) (by decide +kernel) w h).1
set_option maxRecDepth 20000 in
theorem wsL_law_r7_in : ∀ w ∈ wsL_law_r7, w ∈ lw_tbl := fun w h => (goodIn_r wsL_law_r7 [192, 193, 119, 197, 194, 195, 196, 661, 662, 663, 664, 672, 665, 666, 667, 668, 670, 19, 671, 673, 675, 20, 676, 198] (by decide +kernel) (by decide +kernel) w h).1
set_option maxRecDepth 20000 in
theorem wsL_law_r8_in : ∀ w ∈ wsL_law_r8, w ∈ lw_tbl := fun w h => (goodIn_r wsL_law_r8 [199, 200, 201, 677, 678, 679, 680, 202, 203, 204, 205, 70, 73, 223, 36, 161, 228, 229, 230, 231, 232, 234, 253, 206] (by decide +kernel) (by decide +kernel) w h).1
set_option maxRecDepth 20000 in
theorem wsL_law_r9_in : ∀ w ∈ wsL_law_r9, w ∈ lw_tbl := fun w h => (goodIn_r wsL_law_r9 [208, 3, 209, 210, 211, 212, 213, 214, 215, 216, 217, 219, 221, 4, 222, 165, 224, 225, 226, 227, 235, 236, 237, 238] (by decide +kernel) (by decide +kernel) w h).1
set_option maxRecDepth 20000 in
theorem wsL_law_r10_in : ∀ w ∈ wsL_law_r10, w ∈ lw_tbl := fun w h => (goodIn_r wsL_law_r10 [256, 258, 241, 243, 245, 254, 247, 249, 239, 240, 251, 285, 287, 5, 288, 74, 397, 242, 395, 244, 399, 289, 291, 6] (by decide +kernel) (by decide +kernel) w h).1
set_option maxRecDepth 20000 in
theorem wsL_law_r11_in : ∀ w ∈ wsL_law_r11, w ∈ lw_tbl := fun w h => (goodIn_r wsL_law_r11 [292, 293, 187, 188, 189, 681, 682, 683, 684, 528, 541, 553, 685, 687, 21, 688, 689, 690, 691, 692, 294, 295, 296, 297] (by decide +kernel) (by decide +kernel) w h).1
set_option maxRecDepth 20000 in
theorem wsL_law_r12_in : ∀ w ∈ wsL_law_r12, w ∈ lw_tbl := fun w h => (goodIn_r wsL_law_r12 [259, 255, 252, 298, 300, 7, 301, 302, 304, 8, 305, 306, 75, 693, 694, 695, 696, 563, 697, 699, 22, 700, 701, 703] (by decide +kernel) (by decide +kernel) w h).1
set_option maxRecDepth 20000 in
theorem wsL_law_r13_in : ∀ w ∈ wsL_law_r13, w ∈ lw_tbl := fun w h => (goodIn_r wsL_law_r13 [23, 704, 307, 308, 309, 310, 261, 705, 706, 707, 708, 311, 312, 313, 314, 315, 317, 9, 318, 246, 319, 321, 10, 322] (by decide +kernel) (by decide +kernel) w h).1
set_option maxRecDepth 20000 in
theorem wsL_law_r14_in : ∀ w ∈ wsL_law_r14, w ∈ lw_tbl := fun w h => (goodIn_r wsL_law_r14 [257, 323, 325, 11, 326, 327, 329, 330, 331, 39, 332, 426, 124, 427, 334, 335, 336, 337, 38, 338, 389, 121, 390, 340] (by decide +kernel) (by decide +kernel) w h).1
set_option maxRecDepth 20000 in
theorem wsL_law_r15_in : ∀ w ∈ wsL_law_r15, w ∈ lw_tbl := fun w h => (goodIn_r wsL_law_r15 [341, 40, 342, 392, 393, 447, 127, 343, 344, 345, 346, 709, 710, 711, 712, 713, 715, 24, 716, 717, 719, 25, 720, 347] (by decide +kernel) (by decide +kernel) w h).1
set_option maxRecDepth 20000 in
theorem wsL_law_r16_in : ∀ w ∈ wsL_law_r16, w ∈ lw_tbl := fun w h => (goodIn_r wsL_law_r16 [348, 349, 350, 125, 122, 351, 352, 353, 354, 721, 722, 723, 724, 725, 727, 26, 728, 355, 356, 357, 358, 359, 729, 730] (by decide +kernel) (by decide +kernel) w h).1
set_option maxRecDepth 20000 in
theorem wsL_law_r17_in : ∀ w ∈ wsL_law_r17, w ∈ lw_tbl := fun w h => (goodIn_r wsL_law_r17 [731, 732, 733, 360, 361, 362, 363, 734, 735, 736, 737, 364, 365, 366, 367, 738, 739, 740, 741, 368, 369, 370, 371, 742] (by decide +kernel) (by decide +kernel) w h).1
set_option maxRecDepth 20000 in
theorem wsL_law_r18_in : ∀ w ∈ wsL_law_r18, w ∈ lw_tbl := fun w h => (goodIn_r wsL_law_r18 [743, 744, 745, 372, 373, 374, 375, 380, 381, 376, 378, 12, 379, 382, 383, 384, 385, 386, 37, 387, 388, 398, 391, 394] (by decide +kernel) (by decide +kernel) w h).1
set_option maxRecDepth 20000 in
theorem wsL_law_r19_in : ∀ w ∈ wsL_law_r19, w ∈ lw_tbl := fun w h => (goodIn_r wsL_law_r19 [396, 413, 415, 13, 416, 746, 747, 748, 749, 750, 752, 27, 753, 754, 756, 28, 757, 417, 418, 419, 420, 306, 421, 422] (by decide +kernel) (by decide +kernel) w h).1
set_option maxRecDepth 20000 in
theorem wsL_law_r20_in : ∀ w ∈ wsL_law_r20, w ∈ lw_tbl := fun w h => (goodIn_r wsL_law_r20 [423, 424, 425, 758, 759, 760, 761, 762, 437, 438, 439, 440, 441, 442, 443, 444, 445, 449, 446, 763, 764, 765, 766, 460] (by decide +kernel) (by decide +kernel) w h).1
set_option maxRecDepth 20000 in
theorem wsL_law_r21_in : ∀ w ∈ wsL_law_r21, w ∈ lw_tbl := fun w h => (goodIn_r wsL_law_r21 [461, 462, 463, 450, 464, 767, 768, 769, 770, 465, 466, 467, 468, 448, 771, 772, 773, 774, 186, 775, 469, 470, 471, 472] (by decide +kernel) (by decide +kernel) w h).1
set_option maxRecDepth 20000 in
theorem wsL_law_r22_in : ∀ w ∈ wsL_law_r22, w ∈ lw_tbl := fun w h => (goodIn_r wsL_law_r22 [776, 777, 778, 779, 473, 474, 475, 476, 477, 478, 479, 480, 481, 483, 14, 484, 784, 785, 786, 787, 788, 781, 782, 783] (by decide +kernel) (by decide +kernel) w h).1
set_option maxRecDepth 20000 in
theorem wsL_law_r23_in : ∀ w ∈ wsL_law_r23, w ∈ lw_tbl := fun w h => (goodIn_r wsL_law_r23 [485, 780, 486, 487, 488, 489, 490, 491, 492, 493, 494, 495, 496, 497, 260, 789, 790, 791, 792, 498, 499, 500, 501, 250] (by decide +kernel) (by decide +kernel) w h).1
set_option maxRecDepth 20000 in
theorem wsL_law_r24_in : ∀ w ∈ wsL_law_r24, w ∈ lw_tbl := fun w h => (goodIn_r wsL_law_r24 [248, 793, 794, 795, 796, 502, 503, 504, 505, 506, 508, 15, 509, 510, 511, 512, 513, 797, 798, 799, 800, 514, 515, 516] (by decide +kernel) (by decide +kernel) w h).1
set_option maxRecDepth 20000 in
theorem wsL_law_r25_in : ∀ w ∈ wsL_law_r25, w ∈ lw_tbl := fun w h => (goodIn_r wsL_law_r25 [517, 518, 520, 16, 521, 801, 802, 803, 804] (by decide +kernel) (by decide +kernel) w h).1
set_option maxRecDepth 20000 in
theorem wsX70_in : ∀ w ∈ wsX70, w ∈ lw_tbl := fun w h => (goodIn_r wsX70 [76, 78, 80, 82, 84, 86, 88, 90, 92, 94, 96, 98, 100, 102] (by decide +kernel) (by decide +kernel) w h).1
set_option maxRecDepth 20000 in
theorem wsX80_in : ∀ w ∈ wsX80, w ∈ lw_tbl := fun w h => (goodIn_r wsX80 [565, 567, 569, 571, 573, 575, 577, 579, 581, 583, 585, 587, 589, 591, 593, 595, 597, 599, 601, 603, 605, 607, 609, 611, 613, 615, 617, 619, 621, 623, 625, 627, 629, 631, 633, 635, 637] (by decide +kernel) (by decide +kernel) w h).1
set_option maxRecDepth 20000 in
theorem wsX40_in : ∀ w ∈ wsX40, w ∈ lw_tbl := fun w h => (goodIn_r wsX40 [128, 130, 132, 134] (by decide +kernel) (by decide +kernel) w h).1
set_option maxRecDepth 20000 in
theorem wsX60_in : ∀ w ∈ wsX60, w ∈ lw_tbl := fun w h => (goodIn_r wsX60 [166, 168, 170, 172, 174, 176] (by decide +kernel) (by decide +kernel) w h).1
set_option maxRecDepth 20000 in
theorem wsX00_in : ∀ w ∈ wsX00, w ∈ lw_tbl := fun w h => (goodIn_r wsX00 [262, 264, 266, 268, 270, 272, 274, 276, 278, 280, 282] (by decide +kernel) (by decide +kernel) w h).1
set_option maxRecDepth 20000 in
theorem wsX10_in : ∀ w ∈ wsX10, w ∈ lw_tbl := fun w h => (goodIn_r wsX10 [432, 433, 434, 435, 428, 430] (by decide +kernel) (by decide +kernel) w h).1
set_option maxRecDepth 20000 in
theorem wsX30_in : ∀ w ∈ wsX30, w ∈ lw_tbl := fun w h => (goodIn_r wsX30 [404, 406, 408, 410, 400, 402] (by decide +kernel) (by decide +kernel) w h).1
set_option maxRecDepth 20000 in
theorem wsX50_in : ∀ w ∈ wsX50, w ∈ lw_tbl := fun w h => (goodIn_r wsX50 [455, 456, 457, 458, 451, 453] (by decide +kernel) (by decide +kernel) w h).1
theorem wsL_law_in : ∀ w ∈ wsL_law, w ∈ lw_tbl := List.forall_mem_append.mpr ⟨List.forall_mem_append.mpr ⟨List.forall_mem_append.mpr ⟨List.forall_mem_append.mpr ⟨List.forall_mem_append.mpr ⟨List.forall_mem_append.mpr ⟨List.forall_mem_append.mpr ⟨List.forall_mem_append.mpr ⟨List.forall_mem_append.mpr ⟨List.forall_mem_append.mpr ⟨wsL_law_r1_in, List.forall_mem_append.mpr ⟨wsL_law_r2_in, List.forall_mem_append.mpr ⟨wsL_law_r3_in, List.forall_mem_append.mpr ⟨wsL_law_r4_in, List.forall_mem_append.mpr ⟨wsL_law_r5_in, List.forall_mem_append.mpr ⟨wsL_law_r6_in, List.forall_mem_append.mpr ⟨wsL_law_r7_in, List.forall_mem_append.mpr ⟨wsL_law_r8_in, List.forall_mem_append.mpr ⟨wsL_law_r9_in, List.forall_mem_append.mpr ⟨wsL_law_r10_in, List.forall_mem_append.mpr ⟨wsL_law_r11_in, List.forall_mem_append.mpr ⟨wsL_law_r12_in, List.forall_mem_append.mpr ⟨wsL_law_r13_in, List.forall_mem_append.mpr ⟨wsL_law_r14_in, List.forall_mem_append.mpr ⟨wsL_law_r15_in, List.forall_mem_append.mpr ⟨wsL_law_r16_in, List.forall_mem_append.mpr ⟨wsL_law_r17_in, List.forall_mem_append.mpr ⟨wsL_law_r18_in, List.forall_mem_append.mpr ⟨wsL_law_r19_in, List.forall_mem_append.mpr ⟨wsL_law_r20_in, List.forall_mem_append.mpr ⟨wsL_law_r21_in, List.forall_mem_append.mpr ⟨wsL_law_r22_in, List.forall_mem_append.mpr ⟨wsL_law_r23_in, List.forall_mem_append.mpr ⟨wsL_law_r24_in, wsL_law_r25_in⟩⟩⟩⟩⟩⟩⟩⟩⟩⟩⟩⟩⟩⟩⟩⟩⟩⟩⟩⟩⟩⟩⟩⟩, wsX70_in⟩, wsX80_in⟩, wsX40_in⟩, wsX60_in⟩, wsX00_in⟩, wsX10_in⟩, wsX30_in⟩, wsX50_in⟩, fun _ h => absurd h List.not_mem_nil⟩
theorem inlX0 : ∀ w ∈ wsX00, w ∈ wsL_law := fun _ h => List.mem_append_left _ (List.mem_append_left _ (List.mem_append_left _ (List.mem_append_left _ (List.mem_append_right _ h))))
theorem inX0 : ∀ w ∈ wsX00, w ∈ lw_tbl := fun w h => wsL_law_in w (inlX0 w h)
theorem inlX1 : ∀ w ∈ wsX10, w ∈ wsL_law := fun _ h => List.mem_append_left _ (List.mem_append_left _ (List.mem_append_left _ (List.mem_append_right _ h)))
theorem inX1 : ∀ w ∈ wsX10, w ∈ lw_tbl := fun w h => wsL_law_in w (inlX1 w h)
theorem inX2 : ∀ w ∈ wsX20, w ∈ lw_tbl := by decide +kernel
theorem inlX3 : ∀ w ∈ wsX30, w ∈ wsL_law := fun _ h => List.mem_append_left _ (List.mem_append_left _ (List.mem_append_right _ h))
theorem inX3 : ∀ w ∈ wsX30, w ∈ lw_tbl := fun w h => wsL_law_in w (inlX3 w h)
theorem inlX4 : ∀ w ∈ wsX40, w ∈ wsL_law := fun _ h => List.mem_append_left _ (List.mem_append_left _ (List.mem_append_left _ (List.mem_append_left _ (List.mem_append_left _ (List.mem_append_left _ (List.mem_append_right _ h))))))
theorem inX4 : ∀ w ∈ wsX40, w ∈ lw_tbl := fun w h => wsL_law_in w (inlX4 w h)
theorem inlX5 : ∀ w ∈ wsX50, w ∈ wsL_law := fun _ h => List.mem_append_left _ (List.mem_append_right _ h)
theorem inX5 : ∀ w ∈ wsX50, w ∈ lw_tbl := fun w h => wsL_law_in w (inlX5 w h)
theorem inlX6 : ∀ w ∈ wsX60, w ∈ wsL_law := fun _ h => List.mem_append_left _ (List.mem_append_left _ (List.mem_append_left _ (List.mem_append_left _ (List.mem_append_left _ (List.mem_append_right _ h)))))
theorem inX6 : ∀ w ∈ wsX60, w ∈ lw_tbl := fun w h => wsL_law_in w (inlX6 w h)
theorem inlX7 : ∀ w ∈ wsX70, w ∈ wsL_law := fun _ h => List.mem_append_left _ (List.mem_append_left _ (List.mem_append_left _ (List.mem_append_left _ (List.mem_append_left _ (List.mem_append_left _ (List.mem_append_left _ (List.mem_append_left _ (List.mem_append_right _ h))))))))
theorem inX7 : ∀ w ∈ wsX70, w ∈ lw_tbl := fun w h => wsL_law_in w (inlX7 w h)
theorem inlX8 : ∀ w ∈ wsX80, w ∈ wsL_law := fun _ h => List.mem_append_left _ (List.mem_append_left _ (List.mem_append_left _ (List.mem_append_left _ (List.mem_append_left _ (List.mem_append_left _ (List.mem_append_left _ (List.mem_append_right _ h)))))))
theorem inX8 : ∀ w ∈ wsX80, w ∈ lw_tbl := fun w h => wsL_law_in w (inlX8 w h)
theorem inJx8e188 : ∀ w ∈ wsJx8e1880, w ∈ lw_tbl := by decide +kernel
theorem inJ9 : ∀ w ∈ wsJ90, w ∈ lw_tbl := by decide +kernel
theorem inJ7 : ∀ w ∈ wsJ70, w ∈ lw_tbl := by decide +kernel
end
section
theorem zz_end : True := trivial
end
